section
-- ===== PART A: goes FIRST, ahead of the names: the tables' words, and 'selects' of the private methods out of them =====
/-- a private method of a class that the tables say can be made, by its rows of tables_1 -/
def lw_okq (q : MethodName × Nat) : Prop := (q.1.cls ≠ "java/lang/invoke/MethodHandle" ∧ q.1.cls ≠ "java/lang/invoke/VarHandle") ∧ Cond.instantiable q.1.cls q.2 ∈ tables_1 ∧ Cond.privateMethod q.1 ∈ tables_1 ∧ Cond.instanceMethod q.1 ∈ tables_1
theorem lw_p0 : lw_okq (⟨"java/util/ArrayList", "add", "(Ljava/lang/Object;[Ljava/lang/Object;I)V"⟩, 3) := ⟨⟨by decide +kernel, by decide +kernel⟩, List.mem_of_getElem? (i := 36) (by decide +kernel), List.mem_of_getElem? (i := 121) (by decide +kernel), List.mem_of_getElem? (i := 122) (by decide +kernel)⟩
theorem lw_p1 : lw_okq (⟨"java/util/ArrayList", "grow", "()[Ljava/lang/Object;"⟩, 3) := ⟨⟨by decide +kernel, by decide +kernel⟩, List.mem_of_getElem? (i := 36) (by decide +kernel), List.mem_of_getElem? (i := 125) (by decide +kernel), List.mem_of_getElem? (i := 126) (by decide +kernel)⟩
theorem lw_p2 : lw_okq (⟨"java/util/ArrayList", "grow", "(I)[Ljava/lang/Object;"⟩, 3) := ⟨⟨by decide +kernel, by decide +kernel⟩, List.mem_of_getElem? (i := 36) (by decide +kernel), List.mem_of_getElem? (i := 129) (by decide +kernel), List.mem_of_getElem? (i := 130) (by decide +kernel)⟩
theorem lw_p3 : lw_okq (⟨"RedactCheck", "findWords", "(III)V"⟩, 8) := ⟨⟨by decide +kernel, by decide +kernel⟩, List.mem_of_getElem? (i := 28) (by decide +kernel), List.mem_of_getElem? (i := 240) (by decide +kernel), List.mem_of_getElem? (i := 241) (by decide +kernel)⟩
theorem lw_p4 : lw_okq (⟨"RedactCheck", "lookThroughStore", "(I)V"⟩, 8) := ⟨⟨by decide +kernel, by decide +kernel⟩, List.mem_of_getElem? (i := 28) (by decide +kernel), List.mem_of_getElem? (i := 258) (by decide +kernel), List.mem_of_getElem? (i := 259) (by decide +kernel)⟩
theorem lw_p5 : lw_okq (⟨"RedactCheck$Store", "unsigned", "(I)I"⟩, 3) := ⟨⟨by decide +kernel, by decide +kernel⟩, List.mem_of_getElem? (i := 269) (by decide +kernel), List.mem_of_getElem? (i := 267) (by decide +kernel), List.mem_of_getElem? (i := 268) (by decide +kernel)⟩
theorem lw_p6 : lw_okq (⟨"java/lang/Throwable", "fillInStackTrace", "(I)Ljava/lang/Throwable;"⟩, 6) := ⟨⟨by decide +kernel, by decide +kernel⟩, List.mem_of_getElem? (i := 338) (by decide +kernel), List.mem_of_getElem? (i := 336) (by decide +kernel), List.mem_of_getElem? (i := 337) (by decide +kernel)⟩
theorem lw_p7 : lw_okq (⟨"RedactCheck$SignRow", "put", "(IIIII)V"⟩, 3) := ⟨⟨by decide +kernel, by decide +kernel⟩, List.mem_of_getElem? (i := 102) (by decide +kernel), List.mem_of_getElem? (i := 413) (by decide +kernel), List.mem_of_getElem? (i := 414) (by decide +kernel)⟩
theorem lw_p8 : lw_okq (⟨"RedactCheck", "wordOf", "(I)LRedactCheck$Word;"⟩, 8) := ⟨⟨by decide +kernel, by decide +kernel⟩, List.mem_of_getElem? (i := 28) (by decide +kernel), List.mem_of_getElem? (i := 497) (by decide +kernel), List.mem_of_getElem? (i := 498) (by decide +kernel)⟩
theorem lw_p9 : lw_okq (⟨"RedactCheck", "storeOf", "(I)LRedactCheck$Store;"⟩, 8) := ⟨⟨by decide +kernel, by decide +kernel⟩, List.mem_of_getElem? (i := 28) (by decide +kernel), List.mem_of_getElem? (i := 567) (by decide +kernel), List.mem_of_getElem? (i := 568) (by decide +kernel)⟩
theorem lw_p10 : lw_okq (⟨"RedactCheck", "markUses", "()I"⟩, 8) := ⟨⟨by decide +kernel, by decide +kernel⟩, List.mem_of_getElem? (i := 28) (by decide +kernel), List.mem_of_getElem? (i := 583) (by decide +kernel), List.mem_of_getElem? (i := 584) (by decide +kernel)⟩
theorem lw_p11 : lw_okq (⟨"RedactCheck", "marksOf", "(LRedactCheck$SignRow;III)J"⟩, 8) := ⟨⟨by decide +kernel, by decide +kernel⟩, List.mem_of_getElem? (i := 28) (by decide +kernel), List.mem_of_getElem? (i := 587) (by decide +kernel), List.mem_of_getElem? (i := 588) (by decide +kernel)⟩
theorem lw_p12 : lw_okq (⟨"RedactCheck", "marksOfWords", "()J"⟩, 8) := ⟨⟨by decide +kernel, by decide +kernel⟩, List.mem_of_getElem? (i := 28) (by decide +kernel), List.mem_of_getElem? (i := 591) (by decide +kernel), List.mem_of_getElem? (i := 592) (by decide +kernel)⟩
theorem lw_p13 : lw_okq (⟨"RedactCheck", "marksOfAreas", "(LRedactCheck$SignRow;III)J"⟩, 8) := ⟨⟨by decide +kernel, by decide +kernel⟩, List.mem_of_getElem? (i := 28) (by decide +kernel), List.mem_of_getElem? (i := 595) (by decide +kernel), List.mem_of_getElem? (i := 596) (by decide +kernel)⟩
theorem lw_p14 : lw_okq (⟨"RedactCheck", "isInArea", "(IIII)Z"⟩, 8) := ⟨⟨by decide +kernel, by decide +kernel⟩, List.mem_of_getElem? (i := 28) (by decide +kernel), List.mem_of_getElem? (i := 600) (by decide +kernel), List.mem_of_getElem? (i := 601) (by decide +kernel)⟩
theorem lw_p15 : lw_okq (⟨"RedactCheck", "twinOf", "(LRedactCheck$Use;I)LRedactCheck$Use;"⟩, 8) := ⟨⟨by decide +kernel, by decide +kernel⟩, List.mem_of_getElem? (i := 28) (by decide +kernel), List.mem_of_getElem? (i := 608) (by decide +kernel), List.mem_of_getElem? (i := 609) (by decide +kernel)⟩
def lw_privs_1 : List (MethodName × Nat) := [(⟨"java/util/ArrayList", "add", "(Ljava/lang/Object;[Ljava/lang/Object;I)V"⟩, 3), (⟨"java/util/ArrayList", "grow", "()[Ljava/lang/Object;"⟩, 3), (⟨"java/util/ArrayList", "grow", "(I)[Ljava/lang/Object;"⟩, 3), (⟨"RedactCheck", "findWords", "(III)V"⟩, 8), (⟨"RedactCheck", "lookThroughStore", "(I)V"⟩, 8), (⟨"RedactCheck$Store", "unsigned", "(I)I"⟩, 3), (⟨"java/lang/Throwable", "fillInStackTrace", "(I)Ljava/lang/Throwable;"⟩, 6), (⟨"RedactCheck$SignRow", "put", "(IIIII)V"⟩, 3), (⟨"RedactCheck", "wordOf", "(I)LRedactCheck$Word;"⟩, 8), (⟨"RedactCheck", "storeOf", "(I)LRedactCheck$Store;"⟩, 8), (⟨"RedactCheck", "markUses", "()I"⟩, 8), (⟨"RedactCheck", "marksOf", "(LRedactCheck$SignRow;III)J"⟩, 8), (⟨"RedactCheck", "marksOfWords", "()J"⟩, 8), (⟨"RedactCheck", "marksOfAreas", "(LRedactCheck$SignRow;III)J"⟩, 8), (⟨"RedactCheck", "isInArea", "(IIII)Z"⟩, 8), (⟨"RedactCheck", "twinOf", "(LRedactCheck$Use;I)LRedactCheck$Use;"⟩, 8)]
theorem lw_r1 : ∀ q ∈ lw_privs_1, lw_okq q := List.forall_mem_cons.mpr ⟨lw_p0, List.forall_mem_cons.mpr ⟨lw_p1, List.forall_mem_cons.mpr ⟨lw_p2, List.forall_mem_cons.mpr ⟨lw_p3, List.forall_mem_cons.mpr ⟨lw_p4, List.forall_mem_cons.mpr ⟨lw_p5, List.forall_mem_cons.mpr ⟨lw_p6, List.forall_mem_cons.mpr ⟨lw_p7, List.forall_mem_cons.mpr ⟨lw_p8, List.forall_mem_cons.mpr ⟨lw_p9, List.forall_mem_cons.mpr ⟨lw_p10, List.forall_mem_cons.mpr ⟨lw_p11, List.forall_mem_cons.mpr ⟨lw_p12, List.forall_mem_cons.mpr ⟨lw_p13, List.forall_mem_cons.mpr ⟨lw_p14, List.forall_mem_cons.mpr ⟨lw_p15, fun _ h => absurd h List.not_mem_nil⟩⟩⟩⟩⟩⟩⟩⟩⟩⟩⟩⟩⟩⟩⟩⟩
theorem lw_p16 : lw_okq (⟨"RedactCheck", "cutPages", "()I"⟩, 8) := ⟨⟨by decide +kernel, by decide +kernel⟩, List.mem_of_getElem? (i := 28) (by decide +kernel), List.mem_of_getElem? (i := 613) (by decide +kernel), List.mem_of_getElem? (i := 614) (by decide +kernel)⟩
theorem lw_p17 : lw_okq (⟨"RedactCheck$Codes", "put", "(II)V"⟩, 2) := ⟨⟨by decide +kernel, by decide +kernel⟩, List.mem_of_getElem? (i := 77) (by decide +kernel), List.mem_of_getElem? (i := 630) (by decide +kernel), List.mem_of_getElem? (i := 631) (by decide +kernel)⟩
theorem lw_p18 : lw_okq (⟨"RedactCheck", "cutUses", "()I"⟩, 8) := ⟨⟨by decide +kernel, by decide +kernel⟩, List.mem_of_getElem? (i := 28) (by decide +kernel), List.mem_of_getElem? (i := 652) (by decide +kernel), List.mem_of_getElem? (i := 653) (by decide +kernel)⟩
theorem lw_p19 : lw_okq (⟨"RedactCheck", "addCutCopy", "(LRedactCheck$SignRow;J)LRedactCheck$SignRow;"⟩, 8) := ⟨⟨by decide +kernel, by decide +kernel⟩, List.mem_of_getElem? (i := 28) (by decide +kernel), List.mem_of_getElem? (i := 656) (by decide +kernel), List.mem_of_getElem? (i := 657) (by decide +kernel)⟩
theorem lw_p20 : lw_okq (⟨"RedactCheck", "cutStores", "()I"⟩, 8) := ⟨⟨by decide +kernel, by decide +kernel⟩, List.mem_of_getElem? (i := 28) (by decide +kernel), List.mem_of_getElem? (i := 667) (by decide +kernel), List.mem_of_getElem? (i := 668) (by decide +kernel)⟩
theorem lw_p21 : lw_okq (⟨"RedactCheck$Store", "writeCode", "(I)V"⟩, 3) := ⟨⟨by decide +kernel, by decide +kernel⟩, List.mem_of_getElem? (i := 269) (by decide +kernel), List.mem_of_getElem? (i := 679) (by decide +kernel), List.mem_of_getElem? (i := 680) (by decide +kernel)⟩
theorem lw_p22 : lw_okq (⟨"RedactCheckModel", "addSign", "(IIIII)I"⟩, 32) := ⟨⟨by decide +kernel, by decide +kernel⟩, List.mem_of_getElem? (i := 729) (by decide +kernel), List.mem_of_getElem? (i := 844) (by decide +kernel), List.mem_of_getElem? (i := 845) (by decide +kernel)⟩
theorem lw_p23 : lw_okq (⟨"RedactCheckModel", "lay", "(IIIII)V"⟩, 32) := ⟨⟨by decide +kernel, by decide +kernel⟩, List.mem_of_getElem? (i := 729) (by decide +kernel), List.mem_of_getElem? (i := 848) (by decide +kernel), List.mem_of_getElem? (i := 849) (by decide +kernel)⟩
theorem lw_p24 : lw_okq (⟨"RedactCheckModel", "mark", "(IIIII)I"⟩, 32) := ⟨⟨by decide +kernel, by decide +kernel⟩, List.mem_of_getElem? (i := 729) (by decide +kernel), List.mem_of_getElem? (i := 888) (by decide +kernel), List.mem_of_getElem? (i := 889) (by decide +kernel)⟩
theorem lw_p25 : lw_okq (⟨"RedactCheckModel", "takeRow", "(I)V"⟩, 32) := ⟨⟨by decide +kernel, by decide +kernel⟩, List.mem_of_getElem? (i := 729) (by decide +kernel), List.mem_of_getElem? (i := 892) (by decide +kernel), List.mem_of_getElem? (i := 893) (by decide +kernel)⟩
theorem lw_p26 : lw_okq (⟨"RedactCheckModel", "findWords", "()V"⟩, 32) := ⟨⟨by decide +kernel, by decide +kernel⟩, List.mem_of_getElem? (i := 729) (by decide +kernel), List.mem_of_getElem? (i := 896) (by decide +kernel), List.mem_of_getElem? (i := 897) (by decide +kernel)⟩
theorem lw_p27 : lw_okq (⟨"RedactCheckModel", "stands", "(II)Z"⟩, 32) := ⟨⟨by decide +kernel, by decide +kernel⟩, List.mem_of_getElem? (i := 729) (by decide +kernel), List.mem_of_getElem? (i := 900) (by decide +kernel), List.mem_of_getElem? (i := 901) (by decide +kernel)⟩
theorem lw_p28 : lw_okq (⟨"RedactCheckModel", "meets", "(IIII)Z"⟩, 32) := ⟨⟨by decide +kernel, by decide +kernel⟩, List.mem_of_getElem? (i := 729) (by decide +kernel), List.mem_of_getElem? (i := 904) (by decide +kernel), List.mem_of_getElem? (i := 905) (by decide +kernel)⟩
theorem lw_p29 : lw_okq (⟨"RedactCheckModel", "hasMark", "(I)Z"⟩, 32) := ⟨⟨by decide +kernel, by decide +kernel⟩, List.mem_of_getElem? (i := 729) (by decide +kernel), List.mem_of_getElem? (i := 911) (by decide +kernel), List.mem_of_getElem? (i := 912) (by decide +kernel)⟩
theorem lw_p30 : lw_okq (⟨"RedactCheckModel", "areAlike", "(II)Z"⟩, 32) := ⟨⟨by decide +kernel, by decide +kernel⟩, List.mem_of_getElem? (i := 729) (by decide +kernel), List.mem_of_getElem? (i := 915) (by decide +kernel), List.mem_of_getElem? (i := 916) (by decide +kernel)⟩
theorem lw_p31 : lw_okq (⟨"RedactCheckModel", "cut", "(III)V"⟩, 32) := ⟨⟨by decide +kernel, by decide +kernel⟩, List.mem_of_getElem? (i := 729) (by decide +kernel), List.mem_of_getElem? (i := 919) (by decide +kernel), List.mem_of_getElem? (i := 920) (by decide +kernel)⟩
def lw_privs_2 : List (MethodName × Nat) := [(⟨"RedactCheck", "cutPages", "()I"⟩, 8), (⟨"RedactCheck$Codes", "put", "(II)V"⟩, 2), (⟨"RedactCheck", "cutUses", "()I"⟩, 8), (⟨"RedactCheck", "addCutCopy", "(LRedactCheck$SignRow;J)LRedactCheck$SignRow;"⟩, 8), (⟨"RedactCheck", "cutStores", "()I"⟩, 8), (⟨"RedactCheck$Store", "writeCode", "(I)V"⟩, 3), (⟨"RedactCheckModel", "addSign", "(IIIII)I"⟩, 32), (⟨"RedactCheckModel", "lay", "(IIIII)V"⟩, 32), (⟨"RedactCheckModel", "mark", "(IIIII)I"⟩, 32), (⟨"RedactCheckModel", "takeRow", "(I)V"⟩, 32), (⟨"RedactCheckModel", "findWords", "()V"⟩, 32), (⟨"RedactCheckModel", "stands", "(II)Z"⟩, 32), (⟨"RedactCheckModel", "meets", "(IIII)Z"⟩, 32), (⟨"RedactCheckModel", "hasMark", "(I)Z"⟩, 32), (⟨"RedactCheckModel", "areAlike", "(II)Z"⟩, 32), (⟨"RedactCheckModel", "cut", "(III)V"⟩, 32)]
theorem lw_r2 : ∀ q ∈ lw_privs_2, lw_okq q := List.forall_mem_cons.mpr ⟨lw_p16, List.forall_mem_cons.mpr ⟨lw_p17, List.forall_mem_cons.mpr ⟨lw_p18, List.forall_mem_cons.mpr ⟨lw_p19, List.forall_mem_cons.mpr ⟨lw_p20, List.forall_mem_cons.mpr ⟨lw_p21, List.forall_mem_cons.mpr ⟨lw_p22, List.forall_mem_cons.mpr ⟨lw_p23, List.forall_mem_cons.mpr ⟨lw_p24, List.forall_mem_cons.mpr ⟨lw_p25, List.forall_mem_cons.mpr ⟨lw_p26, List.forall_mem_cons.mpr ⟨lw_p27, List.forall_mem_cons.mpr ⟨lw_p28, List.forall_mem_cons.mpr ⟨lw_p29, List.forall_mem_cons.mpr ⟨lw_p30, List.forall_mem_cons.mpr ⟨lw_p31, fun _ h => absurd h List.not_mem_nil⟩⟩⟩⟩⟩⟩⟩⟩⟩⟩⟩⟩⟩⟩⟩⟩
theorem lw_p32 : lw_okq (⟨"RedactCheckModel", "cutStore", "(I)I"⟩, 32) := ⟨⟨by decide +kernel, by decide +kernel⟩, List.mem_of_getElem? (i := 729) (by decide +kernel), List.mem_of_getElem? (i := 923) (by decide +kernel), List.mem_of_getElem? (i := 924) (by decide +kernel)⟩
theorem lw_p33 : lw_okq (⟨"RedactCheckModel", "takeStore", "(II)Z"⟩, 32) := ⟨⟨by decide +kernel, by decide +kernel⟩, List.mem_of_getElem? (i := 729) (by decide +kernel), List.mem_of_getElem? (i := 927) (by decide +kernel), List.mem_of_getElem? (i := 928) (by decide +kernel)⟩
theorem lw_p34 : lw_okq (⟨"RedactCheckModel", "write", "(II)V"⟩, 32) := ⟨⟨by decide +kernel, by decide +kernel⟩, List.mem_of_getElem? (i := 729) (by decide +kernel), List.mem_of_getElem? (i := 934) (by decide +kernel), List.mem_of_getElem? (i := 935) (by decide +kernel)⟩
theorem lw_p35 : lw_okq (⟨"RedactCheckModel", "note", "(III)V"⟩, 32) := ⟨⟨by decide +kernel, by decide +kernel⟩, List.mem_of_getElem? (i := 729) (by decide +kernel), List.mem_of_getElem? (i := 945) (by decide +kernel), List.mem_of_getElem? (i := 946) (by decide +kernel)⟩
def lw_privs_3 : List (MethodName × Nat) := [(⟨"RedactCheckModel", "cutStore", "(I)I"⟩, 32), (⟨"RedactCheckModel", "takeStore", "(II)Z"⟩, 32), (⟨"RedactCheckModel", "write", "(II)V"⟩, 32), (⟨"RedactCheckModel", "note", "(III)V"⟩, 32)]
theorem lw_r3 : ∀ q ∈ lw_privs_3, lw_okq q := List.forall_mem_cons.mpr ⟨lw_p32, List.forall_mem_cons.mpr ⟨lw_p33, List.forall_mem_cons.mpr ⟨lw_p34, List.forall_mem_cons.mpr ⟨lw_p35, fun _ h => absurd h List.not_mem_nil⟩⟩⟩⟩
def lw_privs : List (MethodName × Nat) := lw_privs_1 ++ (lw_privs_2 ++ (lw_privs_3))
def lw_tbl : List Cond := k2_sels lw_privs ++ tables_1
theorem lw_privs_ok : ∀ q ∈ lw_privs, lw_okq q := by
  show ∀ q ∈ lw_privs_1 ++ (lw_privs_2 ++ (lw_privs_3)), lw_okq q
  exact List.forall_mem_append.mpr ⟨lw_r1, List.forall_mem_append.mpr ⟨lw_r2, lw_r3⟩⟩
end
section
def R_A : String := "RedactCheck$Area"
def R_ABC : String := "java/util/AbstractCollection"
def R_ABL : String := "java/util/AbstractList"
def R_AL : String := "java/util/ArrayList"
def R_ARS : String := "java/util/Arrays"
def R_ASP : String := "jdk/internal/util/ArraysSupport"
def R_C : String := "RedactCheck$Codes"
def R_D : String := "RedactCheck$Word"
def R_EX : String := "java/lang/Exception"
def R_F : String := "RedactCheck$Findings"
def R_IA : String := "java/lang/IllegalArgumentException"
def R_IO : String := "java/lang/IndexOutOfBoundsException"
def R_L : String := "RedactCheckLaw"
def R_LNG : String := "java/lang/Long"
def R_M : String := "RedactCheckModel"
def R_MTH : String := "java/lang/Math"
def R_O : String := "RedactCheck$Row"
def R_OB : String := "java/lang/Object"
def R_OBJ : String := "java/util/Objects"
def R_PRE : String := "jdk/internal/util/Preconditions"
def R_R : String := "RedactCheck"
def R_RT : String := "java/lang/RuntimeException"
def R_S : String := "RedactCheck$SignRow"
def R_T : String := "RedactCheck$Store"
def R_TH : String := "java/lang/Throwable"
def R_U : String := "RedactCheck$Use"
def R_UO : String := "java/lang/UnsupportedOperationException"
def F_R : u_T := fun k => match k with
  | 0 => ("RedactCheck", "pages", "Ljava/util/ArrayList;", true)
  | 1 => ("RedactCheck", "forms", "Ljava/util/ArrayList;", true)
  | 2 => ("RedactCheck", "uses", "Ljava/util/ArrayList;", true)
  | 3 => ("RedactCheck", "words", "Ljava/util/ArrayList;", true)
  | 4 => ("RedactCheck", "areas", "Ljava/util/ArrayList;", true)
  | 5 => ("RedactCheck", "stores", "Ljava/util/ArrayList;", true)
  | 6 => ("RedactCheck", "findings", "LRedactCheck$Findings;", true)
  | _ => ("RedactCheck", "codes", "LRedactCheck$Codes;", true)
def ft_R : Nat → FieldType := fun k => match k with
  | 0 => .object "java/util/ArrayList"
  | 1 => .object "java/util/ArrayList"
  | 2 => .object "java/util/ArrayList"
  | 3 => .object "java/util/ArrayList"
  | 4 => .object "java/util/ArrayList"
  | 5 => .object "java/util/ArrayList"
  | 6 => .object "RedactCheck$Findings"
  | _ => .object "RedactCheck$Codes"
theorem fn_R : ∀ a, a < 8 → ∀ b, b < 8 → a ≠ b → (F_R a).2.1 ≠ (F_R b).2.1 := by decide +kernel
theorem ft_R_ok : ∀ k, k < 8 → parseFieldDescriptor (F_R k).2.2.1 = some (ft_R k) := by decide +kernel
def F_S : u_T := fun k => match k with
  | 0 => ("RedactCheck$SignRow", "number", "I", true)
  | 1 => ("RedactCheck$SignRow", "parts", "[I", true)
  | _ => ("RedactCheck$Row", "count", "I", false)
def ft_S : Nat → FieldType := fun k => match k with
  | 0 => .int
  | 1 => .array .int
  | _ => .int
theorem fn_S : ∀ a, a < 3 → ∀ b, b < 3 → a ≠ b → (F_S a).2.1 ≠ (F_S b).2.1 := by decide +kernel
theorem ft_S_ok : ∀ k, k < 3 → parseFieldDescriptor (F_S k).2.2.1 = some (ft_S k) := by decide +kernel
def F_C : u_T := fun k => match k with
  | 0 => ("RedactCheck$Codes", "values", "[I", true)
  | _ => ("RedactCheck$Row", "count", "I", false)
def ft_C : Nat → FieldType := fun k => match k with
  | 0 => .array .int
  | _ => .int
theorem fn_C : ∀ a, a < 2 → ∀ b, b < 2 → a ≠ b → (F_C a).2.1 ≠ (F_C b).2.1 := by decide +kernel
theorem ft_C_ok : ∀ k, k < 2 → parseFieldDescriptor (F_C k).2.2.1 = some (ft_C k) := by decide +kernel
def F_D : u_T := fun k => match k with
  | 0 => ("RedactCheck$Word", "count", "I", false)
  | _ => ("RedactCheck$Word", "letters", "[I", true)
def ft_D : Nat → FieldType := fun k => match k with
  | 0 => .int
  | _ => .array .int
theorem fn_D : ∀ a, a < 2 → ∀ b, b < 2 → a ≠ b → (F_D a).2.1 ≠ (F_D b).2.1 := by decide +kernel
theorem ft_D_ok : ∀ k, k < 2 → parseFieldDescriptor (F_D k).2.2.1 = some (ft_D k) := by decide +kernel
def F_A : u_T := fun k => match k with
  | 0 => ("RedactCheck$Area", "page", "I", true)
  | 1 => ("RedactCheck$Area", "x", "I", true)
  | 2 => ("RedactCheck$Area", "y", "I", true)
  | 3 => ("RedactCheck$Area", "wide", "I", true)
  | _ => ("RedactCheck$Area", "high", "I", true)
def ft_A : Nat → FieldType := fun k => match k with
  | 0 => .int
  | 1 => .int
  | 2 => .int
  | 3 => .int
  | _ => .int
theorem fn_A : ∀ a, a < 5 → ∀ b, b < 5 → a ≠ b → (F_A a).2.1 ≠ (F_A b).2.1 := by decide +kernel
theorem ft_A_ok : ∀ k, k < 5 → parseFieldDescriptor (F_A k).2.2.1 = some (ft_A k) := by decide +kernel
def F_U : u_T := fun k => match k with
  | 0 => ("RedactCheck$Use", "page", "I", true)
  | 1 => ("RedactCheck$Use", "dx", "I", true)
  | 2 => ("RedactCheck$Use", "dy", "I", true)
  | 3 => ("RedactCheck$Use", "form", "LRedactCheck$SignRow;", false)
  | 4 => ("RedactCheck$Use", "marks", "J", false)
  | _ => ("RedactCheck$Use", "twin", "LRedactCheck$Use;", false)
def ft_U : Nat → FieldType := fun k => match k with
  | 0 => .int
  | 1 => .int
  | 2 => .int
  | 3 => .object "RedactCheck$SignRow"
  | 4 => .long
  | _ => .object "RedactCheck$Use"
theorem fn_U : ∀ a, a < 6 → ∀ b, b < 6 → a ≠ b → (F_U a).2.1 ≠ (F_U b).2.1 := by decide +kernel
theorem ft_U_ok : ∀ k, k < 6 → parseFieldDescriptor (F_U k).2.2.1 = some (ft_U k) := by decide +kernel
def F_T : u_T := fun k => match k with
  | 0 => ("RedactCheck$Store", "encoding", "I", true)
  | 1 => ("RedactCheck$Store", "count", "I", false)
  | _ => ("RedactCheck$Store", "bytes", "[B", true)
def ft_T : Nat → FieldType := fun k => match k with
  | 0 => .int
  | 1 => .int
  | _ => .array .byte
theorem fn_T : ∀ a, a < 3 → ∀ b, b < 3 → a ≠ b → (F_T a).2.1 ≠ (F_T b).2.1 := by decide +kernel
theorem ft_T_ok : ∀ k, k < 3 → parseFieldDescriptor (F_T k).2.2.1 = some (ft_T k) := by decide +kernel
def F_F : u_T := fun k => match k with
  | 0 => ("RedactCheck$Findings", "count", "I", false)
  | _ => ("RedactCheck$Findings", "parts", "[I", true)
def ft_F : Nat → FieldType := fun k => match k with
  | 0 => .int
  | _ => .array .int
theorem fn_F : ∀ a, a < 2 → ∀ b, b < 2 → a ≠ b → (F_F a).2.1 ≠ (F_F b).2.1 := by decide +kernel
theorem ft_F_ok : ∀ k, k < 2 → parseFieldDescriptor (F_F k).2.2.1 = some (ft_F k) := by decide +kernel
def F_AL : u_T := fun k => match k with
  | 0 => ("java/util/ArrayList", "elementData", "[Ljava/lang/Object;", false)
  | 1 => ("java/util/ArrayList", "size", "I", false)
  | _ => ("java/util/AbstractList", "modCount", "I", false)
def ft_AL : Nat → FieldType := fun k => match k with
  | 0 => .array (.object "java/lang/Object")
  | 1 => .int
  | _ => .int
theorem fn_AL : ∀ a, a < 3 → ∀ b, b < 3 → a ≠ b → (F_AL a).2.1 ≠ (F_AL b).2.1 := by decide +kernel
theorem ft_AL_ok : ∀ k, k < 3 → parseFieldDescriptor (F_AL k).2.2.1 = some (ft_AL k) := by decide +kernel
def F_M : u_T := fun k => match k with
  | 0 => ("RedactCheckModel", "thrown", "I", false)
  | 1 => ("RedactCheckModel", "sizes", "[I", true)
  | 2 => ("RedactCheckModel", "codes", "[I", true)
  | 3 => ("RedactCheckModel", "xs", "[I", true)
  | 4 => ("RedactCheckModel", "ys", "[I", true)
  | 5 => ("RedactCheckModel", "widths", "[I", true)
  | 6 => ("RedactCheckModel", "forms", "I", false)
  | 7 => ("RedactCheckModel", "uses", "I", false)
  | 8 => ("RedactCheckModel", "usePage", "[I", true)
  | 9 => ("RedactCheckModel", "useForm", "[I", true)
  | 10 => ("RedactCheckModel", "useX", "[I", true)
  | 11 => ("RedactCheckModel", "useY", "[I", true)
  | 12 => ("RedactCheckModel", "words", "I", false)
  | 13 => ("RedactCheckModel", "wordSizes", "[I", true)
  | 14 => ("RedactCheckModel", "letters", "[I", true)
  | 15 => ("RedactCheckModel", "areas", "I", false)
  | 16 => ("RedactCheckModel", "areaPage", "[I", true)
  | 17 => ("RedactCheckModel", "areaX", "[I", true)
  | 18 => ("RedactCheckModel", "areaY", "[I", true)
  | 19 => ("RedactCheckModel", "areaWide", "[I", true)
  | 20 => ("RedactCheckModel", "areaHigh", "[I", true)
  | 21 => ("RedactCheckModel", "stores", "I", false)
  | 22 => ("RedactCheckModel", "encodings", "[I", true)
  | 23 => ("RedactCheckModel", "storeSizes", "[I", true)
  | 24 => ("RedactCheckModel", "bytes", "[I", true)
  | 25 => ("RedactCheckModel", "left", "I", false)
  | 26 => ("RedactCheckModel", "found", "[I", true)
  | 27 => ("RedactCheckModel", "marks", "[Z", true)
  | 28 => ("RedactCheckModel", "copyOf", "[I", true)
  | 29 => ("RedactCheckModel", "rowSize", "I", false)
  | 30 => ("RedactCheckModel", "row", "[I", true)
  | _ => ("RedactCheckModel", "inWord", "[Z", true)
def ft_M : Nat → FieldType := fun k => match k with
  | 0 => .int
  | 1 => .array .int
  | 2 => .array .int
  | 3 => .array .int
  | 4 => .array .int
  | 5 => .array .int
  | 6 => .int
  | 7 => .int
  | 8 => .array .int
  | 9 => .array .int
  | 10 => .array .int
  | 11 => .array .int
  | 12 => .int
  | 13 => .array .int
  | 14 => .array .int
  | 15 => .int
  | 16 => .array .int
  | 17 => .array .int
  | 18 => .array .int
  | 19 => .array .int
  | 20 => .array .int
  | 21 => .int
  | 22 => .array .int
  | 23 => .array .int
  | 24 => .array .int
  | 25 => .int
  | 26 => .array .int
  | 27 => .array .boolean
  | 28 => .array .int
  | 29 => .int
  | 30 => .array .int
  | _ => .array .boolean
theorem fn_M : ∀ a, a < 32 → ∀ b, b < 32 → a ≠ b → (F_M a).2.1 ≠ (F_M b).2.1 := by decide +kernel
theorem ft_M_ok : ∀ k, k < 32 → parseFieldDescriptor (F_M k).2.2.1 = some (ft_M k) := by decide +kernel
abbrev classes : List vw_C := [("RedactCheck", F_R, 8), ("RedactCheck$SignRow", F_S, 3), ("RedactCheck$Codes", F_C, 2), ("RedactCheck$Word", F_D, 2), ("RedactCheck$Area", F_A, 5), ("RedactCheck$Use", F_U, 6), ("RedactCheck$Store", F_T, 3), ("RedactCheck$Findings", F_F, 2), ("java/util/ArrayList", F_AL, 3), ("RedactCheckModel", F_M, 32)]
def x_ty : Nat → Nat → FieldType := fun c => match c with
  | 0 => ft_R
  | 1 => ft_S
  | 2 => ft_C
  | 3 => ft_D
  | 4 => ft_A
  | 5 => ft_U
  | 6 => ft_T
  | 7 => ft_F
  | 8 => ft_AL
  | _ => ft_M
theorem x_tyok : ∀ (ci : Nat) (q : vw_C), classes[ci]? = some q → ∀ k, k < q.2.2 → parseFieldDescriptor (q.2.1 k).2.2.1 = some (x_ty ci k) := by
  intro ci q h
  match ci, h with
  | 0, h => cases h; exact ft_R_ok
  | 1, h => cases h; exact ft_S_ok
  | 2, h => cases h; exact ft_C_ok
  | 3, h => cases h; exact ft_D_ok
  | 4, h => cases h; exact ft_A_ok
  | 5, h => cases h; exact ft_U_ok
  | 6, h => cases h; exact ft_T_ok
  | 7, h => cases h; exact ft_F_ok
  | 8, h => cases h; exact ft_AL_ok
  | 9, h => cases h; exact ft_M_ok
  | n + 10, h => simp [classes] at h
theorem x_nm : ∀ (ci : Nat) (q : vw_C), classes[ci]? = some q → ∀ a, a < q.2.2 → ∀ b, b < q.2.2 → a ≠ b → (q.2.1 a).2.1 ≠ (q.2.1 b).2.1 := by
  intro ci q h
  match ci, h with
  | 0, h => cases h; exact fn_R
  | 1, h => cases h; exact fn_S
  | 2, h => cases h; exact fn_C
  | 3, h => cases h; exact fn_D
  | 4, h => cases h; exact fn_A
  | 5, h => cases h; exact fn_U
  | 6, h => cases h; exact fn_T
  | 7, h => cases h; exact fn_F
  | 8, h => cases h; exact fn_AL
  | 9, h => cases h; exact fn_M
  | n + 10, h => simp [classes] at h
/-- the words that stay true where the tables have only grown warmer -/
def xgood : Cond → Bool
  | .methodLinkNest .. => true
  | .castable .. => true
  | .declares .. => true
  | .stringRef .. => true
  | .arrayOver (.object _) => true
  | w => goodWord w
def x_tbl : List Cond := lw_tbl.filter xgood
theorem x_inT {w : Cond} (h : w ∈ tables_1) (hg : xgood w = true) : w ∈ x_tbl := List.mem_filter.mpr ⟨List.mem_append_right _ h, hg⟩
theorem x_in0 {w : Cond} (i : Nat) (h : tables_1_1[i]? = some w) (hg : xgood w = true) : w ∈ x_tbl := x_inT (by show w ∈ tables_1_1 ++ (tables_1_2 ++ (tables_1_3 ++ (tables_1_4 ++ tables_1_5))); exact List.mem_append_left _ (List.mem_of_getElem? h)) hg
theorem x_in1 {w : Cond} (i : Nat) (h : tables_1_2[i]? = some w) (hg : xgood w = true) : w ∈ x_tbl := x_inT (by show w ∈ tables_1_1 ++ (tables_1_2 ++ (tables_1_3 ++ (tables_1_4 ++ tables_1_5))); exact List.mem_append_right _ (List.mem_append_left _ (List.mem_of_getElem? h))) hg
theorem x_in2 {w : Cond} (i : Nat) (h : tables_1_3[i]? = some w) (hg : xgood w = true) : w ∈ x_tbl := x_inT (by show w ∈ tables_1_1 ++ (tables_1_2 ++ (tables_1_3 ++ (tables_1_4 ++ tables_1_5))); exact List.mem_append_right _ (List.mem_append_right _ (List.mem_append_left _ (List.mem_of_getElem? h)))) hg
theorem x_in3 {w : Cond} (i : Nat) (h : tables_1_4[i]? = some w) (hg : xgood w = true) : w ∈ x_tbl := x_inT (by show w ∈ tables_1_1 ++ (tables_1_2 ++ (tables_1_3 ++ (tables_1_4 ++ tables_1_5))); exact List.mem_append_right _ (List.mem_append_right _ (List.mem_append_right _ (List.mem_append_left _ (List.mem_of_getElem? h))))) hg
theorem x_in4 {w : Cond} (i : Nat) (h : tables_1_5[i]? = some w) (hg : xgood w = true) : w ∈ x_tbl := x_inT (by show w ∈ tables_1_1 ++ (tables_1_2 ++ (tables_1_3 ++ (tables_1_4 ++ tables_1_5))); exact List.mem_append_right _ (List.mem_append_right _ (List.mem_append_right _ (List.mem_append_right _ (List.mem_of_getElem? h))))) hg
theorem x_inP {w : Cond} (i : Nat) (h : (k2_sels lw_privs)[i]? = some w) (hg : xgood w = true) : w ∈ x_tbl := List.mem_filter.mpr ⟨List.mem_append_left _ (List.mem_of_getElem? h), hg⟩
end
section
theorem k_0 : (Cond.initialized "RedactCheckLaw") ∈ x_tbl := x_in0 0 rfl rfl
theorem k_1 : (Cond.initialized "RedactCheck") ∈ x_tbl := x_in0 1 rfl rfl
theorem k_2 : (Cond.initialized "java/util/AbstractCollection") ∈ x_tbl := x_in0 2 rfl rfl
theorem k_3 : (Cond.initialized "java/util/AbstractList") ∈ x_tbl := x_in0 3 rfl rfl
theorem k_4 : (Cond.initialized "java/util/ArrayList") ∈ x_tbl := x_in0 4 rfl rfl
theorem k_5 : (Cond.initialized "RedactCheck$Findings") ∈ x_tbl := x_in0 5 rfl rfl
theorem k_6 : (Cond.initialized "RedactCheck$Row") ∈ x_tbl := x_in0 6 rfl rfl
theorem k_7 : (Cond.initialized "RedactCheck$Codes") ∈ x_tbl := x_in0 7 rfl rfl
theorem k_8 : (Cond.initialized "RedactCheck$SignRow") ∈ x_tbl := x_in0 8 rfl rfl
theorem k_9 : (Cond.initialized "jdk/internal/util/ArraysSupport") ∈ x_tbl := x_in0 9 rfl rfl
theorem k_10 : (Cond.initialized "java/lang/Math") ∈ x_tbl := x_in0 10 rfl rfl
theorem k_11 : (Cond.initialized "java/util/Arrays") ∈ x_tbl := x_in0 11 rfl rfl
theorem k_12 : (Cond.initialized "java/lang/System") ∈ x_tbl := x_in0 12 rfl rfl
theorem k_13 : (Cond.initialized "RedactCheckModel") ∈ x_tbl := x_in0 13 rfl rfl
theorem k_14 : (Cond.initialized "java/lang/Throwable") ∈ x_tbl := x_in0 14 rfl rfl
theorem k_15 : (Cond.initialized "java/lang/Exception") ∈ x_tbl := x_in0 15 rfl rfl
theorem k_16 : (Cond.initialized "java/lang/RuntimeException") ∈ x_tbl := x_in0 16 rfl rfl
theorem k_17 : (Cond.initialized "java/lang/IndexOutOfBoundsException") ∈ x_tbl := x_in0 17 rfl rfl
theorem k_18 : (Cond.initialized "java/util/Objects") ∈ x_tbl := x_in0 18 rfl rfl
theorem k_19 : (Cond.initialized "jdk/internal/util/Preconditions") ∈ x_tbl := x_in0 19 rfl rfl
theorem k_20 : (Cond.initialized "java/lang/IllegalArgumentException") ∈ x_tbl := x_in0 20 rfl rfl
theorem k_21 : (Cond.initialized "java/lang/UnsupportedOperationException") ∈ x_tbl := x_in0 21 rfl rfl
theorem k_22 : (Cond.initialized "RedactCheck$Use") ∈ x_tbl := x_in0 22 rfl rfl
theorem k_23 : (Cond.initialized "RedactCheck$Word") ∈ x_tbl := x_in0 23 rfl rfl
theorem k_24 : (Cond.initialized "RedactCheck$Area") ∈ x_tbl := x_in0 24 rfl rfl
theorem k_25 : (Cond.initialized "RedactCheck$Store") ∈ x_tbl := x_in0 25 rfl rfl
theorem k_26 : (Cond.initialized "java/lang/Long") ∈ x_tbl := x_in0 26 rfl rfl
theorem k_27 : (Cond.classLink "RedactCheckLaw" (8 : Nat) "RedactCheck") ∈ x_tbl := x_in0 27 rfl rfl
theorem k_28 : (Cond.instantiable "RedactCheck" (8 : Nat)) ∈ x_tbl := x_in0 28 rfl rfl
theorem k_29 : (Cond.methodLink "RedactCheckLaw" (67 : Nat) ({ cls := "RedactCheck", name := "<init>", desc := "()V" } : Jvm.MethodName)) ∈ x_tbl := x_in0 29 rfl rfl
theorem k_30 : (Cond.instanceMethod ({ cls := "RedactCheck", name := "<init>", desc := "()V" } : Jvm.MethodName)) ∈ x_tbl := x_in0 30 rfl rfl
theorem k_31 : (Cond.code ({ cls := "RedactCheck", name := "<init>", desc := "()V" } : Jvm.MethodName) prog_1_method_1_code (2 : Nat) (Option.none : Option Jvm.ClassFile.FieldType)) ∈ x_tbl := x_in0 31 rfl rfl
theorem k_32 : (Cond.methodLink "RedactCheck" (1 : Nat) ({ cls := "java/lang/Object", name := "<init>", desc := "()V" } : Jvm.MethodName)) ∈ x_tbl := x_in0 32 rfl rfl
theorem k_33 : (Cond.instanceMethod ({ cls := "java/lang/Object", name := "<init>", desc := "()V" } : Jvm.MethodName)) ∈ x_tbl := x_in0 33 rfl rfl
theorem k_34 : (Cond.code ({ cls := "java/lang/Object", name := "<init>", desc := "()V" } : Jvm.MethodName) object_method_1_code (1 : Nat) (Option.none : Option Jvm.ClassFile.FieldType)) ∈ x_tbl := x_in0 34 rfl rfl
theorem k_35 : (Cond.classLink "RedactCheck" (7 : Nat) "java/util/ArrayList") ∈ x_tbl := x_in0 35 rfl rfl
theorem k_36 : (Cond.instantiable "java/util/ArrayList" (3 : Nat)) ∈ x_tbl := x_in0 36 rfl rfl
theorem k_37 : (Cond.methodLink "RedactCheck" (9 : Nat) ({ cls := "java/util/ArrayList", name := "<init>", desc := "()V" } : Jvm.MethodName)) ∈ x_tbl := x_in0 37 rfl rfl
theorem k_38 : (Cond.instanceMethod ({ cls := "java/util/ArrayList", name := "<init>", desc := "()V" } : Jvm.MethodName)) ∈ x_tbl := x_in0 38 rfl rfl
theorem k_39 : (Cond.code ({ cls := "java/util/ArrayList", name := "<init>", desc := "()V" } : Jvm.MethodName) prog_27_method_2_code (1 : Nat) (Option.none : Option Jvm.ClassFile.FieldType)) ∈ x_tbl := x_in0 39 rfl rfl
theorem k_40 : (Cond.methodLink "java/util/ArrayList" (1 : Nat) ({ cls := "java/util/AbstractList", name := "<init>", desc := "()V" } : Jvm.MethodName)) ∈ x_tbl := x_in0 40 rfl rfl
theorem k_41 : (Cond.instanceMethod ({ cls := "java/util/AbstractList", name := "<init>", desc := "()V" } : Jvm.MethodName)) ∈ x_tbl := x_in0 41 rfl rfl
theorem k_42 : (Cond.code ({ cls := "java/util/AbstractList", name := "<init>", desc := "()V" } : Jvm.MethodName) prog_26_method_1_code (1 : Nat) (Option.none : Option Jvm.ClassFile.FieldType)) ∈ x_tbl := x_in0 42 rfl rfl
theorem k_43 : (Cond.methodLink "java/util/AbstractList" (1 : Nat) ({ cls := "java/util/AbstractCollection", name := "<init>", desc := "()V" } : Jvm.MethodName)) ∈ x_tbl := x_in0 43 rfl rfl
theorem k_44 : (Cond.instanceMethod ({ cls := "java/util/AbstractCollection", name := "<init>", desc := "()V" } : Jvm.MethodName)) ∈ x_tbl := x_in0 44 rfl rfl
theorem k_45 : (Cond.code ({ cls := "java/util/AbstractCollection", name := "<init>", desc := "()V" } : Jvm.MethodName) prog_25_method_1_code (1 : Nat) (Option.none : Option Jvm.ClassFile.FieldType)) ∈ x_tbl := x_in0 45 rfl rfl
theorem k_46 : (Cond.methodLink "java/util/AbstractCollection" (1 : Nat) ({ cls := "java/lang/Object", name := "<init>", desc := "()V" } : Jvm.MethodName)) ∈ x_tbl := x_in0 46 rfl rfl
theorem k_47 : (Cond.fieldLink "java/util/ArrayList" (39 : Nat) "java/util/ArrayList" "DEFAULTCAPACITY_EMPTY_ELEMENTDATA" "[Ljava/lang/Object;") ∈ x_tbl := x_in0 47 rfl rfl
theorem k_49 : (Cond.fieldLink "java/util/ArrayList" (9 : Nat) "java/util/ArrayList" "elementData" "[Ljava/lang/Object;") ∈ x_tbl := x_in0 49 rfl rfl
theorem k_50 : (Cond.fieldLink "java/util/ArrayList" (48 : Nat) "java/util/ArrayList" "size" "I") ∈ x_tbl := x_in0 50 rfl rfl
theorem k_51 : (Cond.fieldLink "java/util/AbstractList" (7 : Nat) "java/util/AbstractList" "modCount" "I") ∈ x_tbl := x_in0 51 rfl rfl
theorem k_52 : (Cond.fieldLink "java/util/ArrayList" (63 : Nat) "java/util/ArrayList" "modCount" "I") ∈ x_tbl := x_in0 52 rfl rfl
theorem k_53 : (Cond.sameField "java/util/ArrayList" "java/util/AbstractList" "modCount" "I") ∈ x_tbl := x_in0 53 rfl rfl
theorem k_54 : (Cond.lays "java/util/ArrayList" "java/util/ArrayList" "elementData" "[Ljava/lang/Object;") ∈ x_tbl := x_in0 54 rfl rfl
theorem k_56 : (Cond.lays "java/util/ArrayList" "java/util/ArrayList" "size" "I") ∈ x_tbl := x_in0 56 rfl rfl
theorem k_58 : (Cond.lays "java/util/ArrayList" "java/util/AbstractList" "modCount" "I") ∈ x_tbl := x_in0 58 rfl rfl
theorem k_60 : (Cond.superclass "java/util/ArrayList" "java/util/AbstractList") ∈ x_tbl := x_in0 60 rfl rfl
theorem k_61 : (Cond.classLink "RedactCheck" (31 : Nat) "RedactCheck$Findings") ∈ x_tbl := x_in0 61 rfl rfl
theorem k_62 : (Cond.instantiable "RedactCheck$Findings" (2 : Nat)) ∈ x_tbl := x_in0 62 rfl rfl
theorem k_63 : (Cond.methodLinkNest "RedactCheck" (33 : Nat) ({ cls := "RedactCheck$Findings", name := "<init>", desc := "()V" } : Jvm.MethodName) "RedactCheck") ∈ x_tbl := x_in0 63 rfl rfl
theorem k_64 : (Cond.instanceMethod ({ cls := "RedactCheck$Findings", name := "<init>", desc := "()V" } : Jvm.MethodName)) ∈ x_tbl := x_in0 64 rfl rfl
theorem k_65 : (Cond.code ({ cls := "RedactCheck$Findings", name := "<init>", desc := "()V" } : Jvm.MethodName) prog_4_method_1_code (1 : Nat) (Option.none : Option Jvm.ClassFile.FieldType)) ∈ x_tbl := x_in0 65 rfl rfl
theorem k_66 : (Cond.methodLink "RedactCheck$Findings" (3 : Nat) ({ cls := "java/lang/Object", name := "<init>", desc := "()V" } : Jvm.MethodName)) ∈ x_tbl := x_in0 66 rfl rfl
theorem k_67 : (Cond.fieldLink "RedactCheck$Findings" (15 : Nat) "RedactCheck$Findings" "count" "I") ∈ x_tbl := x_in0 67 rfl rfl
theorem k_68 : (Cond.fieldLink "RedactCheck" (156 : Nat) "RedactCheck$Findings" "count" "I") ∈ x_tbl := x_in0 68 rfl rfl
theorem k_69 : (Cond.fieldLink "RedactCheck$Findings" (9 : Nat) "RedactCheck$Findings" "parts" "[I") ∈ x_tbl := x_in0 69 rfl rfl
theorem k_70 : (Cond.lays "RedactCheck$Findings" "RedactCheck$Findings" "count" "I") ∈ x_tbl := x_in0 70 rfl rfl
theorem k_72 : (Cond.laysFinal "RedactCheck$Findings" "RedactCheck$Findings" "parts" "[I") ∈ x_tbl := x_in0 72 rfl rfl
theorem k_74 : (Cond.superclass "RedactCheck$Findings" "java/lang/Object") ∈ x_tbl := x_in0 74 rfl rfl
theorem k_75 : (Cond.arrayClass Jvm.ClassFile.FieldType.int) ∈ x_tbl := x_in0 75 rfl rfl
theorem k_76 : (Cond.classLink "RedactCheck" (38 : Nat) "RedactCheck$Codes") ∈ x_tbl := x_in0 76 rfl rfl
theorem k_77 : (Cond.instantiable "RedactCheck$Codes" (2 : Nat)) ∈ x_tbl := x_in0 77 rfl rfl
theorem k_78 : (Cond.methodLinkNest "RedactCheck" (40 : Nat) ({ cls := "RedactCheck$Codes", name := "<init>", desc := "()V" } : Jvm.MethodName) "RedactCheck") ∈ x_tbl := x_in0 78 rfl rfl
theorem k_79 : (Cond.instanceMethod ({ cls := "RedactCheck$Codes", name := "<init>", desc := "()V" } : Jvm.MethodName)) ∈ x_tbl := x_in0 79 rfl rfl
theorem k_80 : (Cond.code ({ cls := "RedactCheck$Codes", name := "<init>", desc := "()V" } : Jvm.MethodName) prog_3_method_1_code (1 : Nat) (Option.none : Option Jvm.ClassFile.FieldType)) ∈ x_tbl := x_in0 80 rfl rfl
theorem k_81 : (Cond.methodLinkNest "RedactCheck$Codes" (3 : Nat) ({ cls := "RedactCheck$Row", name := "<init>", desc := "()V" } : Jvm.MethodName) "RedactCheck") ∈ x_tbl := x_in0 81 rfl rfl
theorem k_82 : (Cond.instanceMethod ({ cls := "RedactCheck$Row", name := "<init>", desc := "()V" } : Jvm.MethodName)) ∈ x_tbl := x_in0 82 rfl rfl
theorem k_83 : (Cond.code ({ cls := "RedactCheck$Row", name := "<init>", desc := "()V" } : Jvm.MethodName) prog_5_method_1_code (1 : Nat) (Option.none : Option Jvm.ClassFile.FieldType)) ∈ x_tbl := x_in0 83 rfl rfl
theorem k_84 : (Cond.methodLink "RedactCheck$Row" (1 : Nat) ({ cls := "java/lang/Object", name := "<init>", desc := "()V" } : Jvm.MethodName)) ∈ x_tbl := x_in0 84 rfl rfl
theorem k_85 : (Cond.fieldLink "RedactCheck$Codes" (9 : Nat) "RedactCheck$Codes" "values" "[I") ∈ x_tbl := x_in0 85 rfl rfl
theorem k_86 : (Cond.fieldLink "RedactCheck$SignRow" (19 : Nat) "RedactCheck$SignRow" "count" "I") ∈ x_tbl := x_in0 86 rfl rfl
theorem k_87 : (Cond.sameField "RedactCheck$SignRow" "RedactCheck$Row" "count" "I") ∈ x_tbl := x_in0 87 rfl rfl
theorem k_88 : (Cond.fieldLink "RedactCheck$Codes" (15 : Nat) "RedactCheck$Codes" "count" "I") ∈ x_tbl := x_in0 88 rfl rfl
theorem k_89 : (Cond.sameField "RedactCheck$Codes" "RedactCheck$Row" "count" "I") ∈ x_tbl := x_in0 89 rfl rfl
theorem k_90 : (Cond.fieldLink "RedactCheck$Word" (19 : Nat) "RedactCheck$Codes" "count" "I") ∈ x_tbl := x_in0 90 rfl rfl
theorem k_91 : (Cond.fieldLink "RedactCheck$SignRow" (26 : Nat) "RedactCheck$Codes" "count" "I") ∈ x_tbl := x_in0 91 rfl rfl
theorem k_92 : (Cond.fieldLink "RedactCheck$Store" (22 : Nat) "RedactCheck$Codes" "count" "I") ∈ x_tbl := x_in0 92 rfl rfl
theorem k_93 : (Cond.fieldLink "RedactCheck$Row" (7 : Nat) "RedactCheck$Row" "count" "I") ∈ x_tbl := x_in0 93 rfl rfl
theorem k_94 : (Cond.fieldLink "RedactCheck" (161 : Nat) "RedactCheck$SignRow" "count" "I") ∈ x_tbl := x_in0 94 rfl rfl
theorem k_95 : (Cond.fieldLink "RedactCheck" (261 : Nat) "RedactCheck$Codes" "count" "I") ∈ x_tbl := x_in0 95 rfl rfl
theorem k_96 : (Cond.laysFinal "RedactCheck$Codes" "RedactCheck$Codes" "values" "[I") ∈ x_tbl := x_in0 96 rfl rfl
theorem k_98 : (Cond.lays "RedactCheck$Codes" "RedactCheck$Row" "count" "I") ∈ x_tbl := x_in0 98 rfl rfl
theorem k_100 : (Cond.superclass "RedactCheck$Codes" "RedactCheck$Row") ∈ x_tbl := x_in0 100 rfl rfl
theorem k_101 : (Cond.classLink "RedactCheck" (45 : Nat) "RedactCheck$SignRow") ∈ x_tbl := x_in0 101 rfl rfl
theorem k_102 : (Cond.instantiable "RedactCheck$SignRow" (3 : Nat)) ∈ x_tbl := x_in0 102 rfl rfl
theorem k_103 : (Cond.methodLink "RedactCheck" (47 : Nat) ({ cls := "RedactCheck$SignRow", name := "<init>", desc := "(I)V" } : Jvm.MethodName)) ∈ x_tbl := x_in0 103 rfl rfl
theorem k_104 : (Cond.instanceMethod ({ cls := "RedactCheck$SignRow", name := "<init>", desc := "(I)V" } : Jvm.MethodName)) ∈ x_tbl := x_in0 104 rfl rfl
theorem k_105 : (Cond.code ({ cls := "RedactCheck$SignRow", name := "<init>", desc := "(I)V" } : Jvm.MethodName) prog_6_method_1_code (2 : Nat) (Option.none : Option Jvm.ClassFile.FieldType)) ∈ x_tbl := x_in0 105 rfl rfl
theorem k_106 : (Cond.methodLinkNest "RedactCheck$SignRow" (3 : Nat) ({ cls := "RedactCheck$Row", name := "<init>", desc := "()V" } : Jvm.MethodName) "RedactCheck") ∈ x_tbl := x_in0 106 rfl rfl
theorem k_107 : (Cond.fieldLink "RedactCheck$SignRow" (15 : Nat) "RedactCheck$SignRow" "number" "I") ∈ x_tbl := x_in0 107 rfl rfl
theorem k_108 : (Cond.fieldLink "RedactCheck" (172 : Nat) "RedactCheck$SignRow" "number" "I") ∈ x_tbl := x_in0 108 rfl rfl
theorem k_109 : (Cond.fieldLink "RedactCheck$SignRow" (9 : Nat) "RedactCheck$SignRow" "parts" "[I") ∈ x_tbl := x_in0 109 rfl rfl
theorem k_110 : (Cond.laysFinal "RedactCheck$SignRow" "RedactCheck$SignRow" "number" "I") ∈ x_tbl := x_in0 110 rfl rfl
theorem k_112 : (Cond.laysFinal "RedactCheck$SignRow" "RedactCheck$SignRow" "parts" "[I") ∈ x_tbl := x_in0 112 rfl rfl
theorem k_114 : (Cond.lays "RedactCheck$SignRow" "RedactCheck$Row" "count" "I") ∈ x_tbl := x_in0 114 rfl rfl
theorem k_115 : (Cond.superclass "RedactCheck$SignRow" "RedactCheck$Row") ∈ x_tbl := x_in0 115 rfl rfl
theorem k_116 : (Cond.methodLink "RedactCheck" (50 : Nat) ({ cls := "java/util/ArrayList", name := "add", desc := "(Ljava/lang/Object;)Z" } : Jvm.MethodName)) ∈ x_tbl := x_in0 116 rfl rfl
theorem k_117 : (Cond.instanceMethod ({ cls := "java/util/ArrayList", name := "add", desc := "(Ljava/lang/Object;)Z" } : Jvm.MethodName)) ∈ x_tbl := x_in0 117 rfl rfl
theorem k_118 : (Cond.selects "java/util/ArrayList" ({ cls := "java/util/ArrayList", name := "add", desc := "(Ljava/lang/Object;)Z" } : Jvm.MethodName) ({ cls := "java/util/ArrayList", name := "add", desc := "(Ljava/lang/Object;)Z" } : Jvm.MethodName)) ∈ x_tbl := x_in0 118 rfl rfl
theorem k_119 : (Cond.code ({ cls := "java/util/ArrayList", name := "add", desc := "(Ljava/lang/Object;)Z" } : Jvm.MethodName) prog_27_method_25_code (2 : Nat) (Option.some Jvm.ClassFile.FieldType.boolean)) ∈ x_tbl := x_in0 119 rfl rfl
theorem k_120 : (Cond.methodLink "java/util/ArrayList" (131 : Nat) ({ cls := "java/util/ArrayList", name := "add", desc := "(Ljava/lang/Object;[Ljava/lang/Object;I)V" } : Jvm.MethodName)) ∈ x_tbl := x_in0 120 rfl rfl
theorem k_122 : (Cond.instanceMethod ({ cls := "java/util/ArrayList", name := "add", desc := "(Ljava/lang/Object;[Ljava/lang/Object;I)V" } : Jvm.MethodName)) ∈ x_tbl := x_in0 122 rfl rfl
theorem k_123 : (Cond.code ({ cls := "java/util/ArrayList", name := "add", desc := "(Ljava/lang/Object;[Ljava/lang/Object;I)V" } : Jvm.MethodName) prog_27_method_24_code (4 : Nat) (Option.none : Option Jvm.ClassFile.FieldType)) ∈ x_tbl := x_in0 123 rfl rfl
theorem k_124 : (Cond.methodLink "java/util/ArrayList" (129 : Nat) ({ cls := "java/util/ArrayList", name := "grow", desc := "()[Ljava/lang/Object;" } : Jvm.MethodName)) ∈ x_tbl := x_in0 124 rfl rfl
theorem k_126 : (Cond.instanceMethod ({ cls := "java/util/ArrayList", name := "grow", desc := "()[Ljava/lang/Object;" } : Jvm.MethodName)) ∈ x_tbl := x_in0 126 rfl rfl
theorem k_127 : (Cond.code ({ cls := "java/util/ArrayList", name := "grow", desc := "()[Ljava/lang/Object;" } : Jvm.MethodName) prog_27_method_7_code (1 : Nat) (Option.some (Jvm.ClassFile.FieldType.array (Jvm.ClassFile.FieldType.object "java/lang/Object")))) ∈ x_tbl := x_in0 127 rfl rfl
theorem k_128 : (Cond.methodLink "java/util/ArrayList" (69 : Nat) ({ cls := "java/util/ArrayList", name := "grow", desc := "(I)[Ljava/lang/Object;" } : Jvm.MethodName)) ∈ x_tbl := x_in0 128 rfl rfl
theorem k_130 : (Cond.instanceMethod ({ cls := "java/util/ArrayList", name := "grow", desc := "(I)[Ljava/lang/Object;" } : Jvm.MethodName)) ∈ x_tbl := x_in0 130 rfl rfl
theorem k_131 : (Cond.code ({ cls := "java/util/ArrayList", name := "grow", desc := "(I)[Ljava/lang/Object;" } : Jvm.MethodName) prog_27_method_6_code (4 : Nat) (Option.some (Jvm.ClassFile.FieldType.array (Jvm.ClassFile.FieldType.object "java/lang/Object")))) ∈ x_tbl := x_in0 131 rfl rfl
theorem k_132 : (Cond.methodLink "java/util/ArrayList" (73 : Nat) ({ cls := "jdk/internal/util/ArraysSupport", name := "newLength", desc := "(III)I" } : Jvm.MethodName)) ∈ x_tbl := x_in0 132 rfl rfl
theorem k_133 : (Cond.static ({ cls := "jdk/internal/util/ArraysSupport", name := "newLength", desc := "(III)I" } : Jvm.MethodName)) ∈ x_tbl := x_in0 133 rfl rfl
theorem k_134 : (Cond.code ({ cls := "jdk/internal/util/ArraysSupport", name := "newLength", desc := "(III)I" } : Jvm.MethodName) prog_34_method_27_code (4 : Nat) (Option.some Jvm.ClassFile.FieldType.int)) ∈ x_tbl := x_in0 134 rfl rfl
theorem k_135 : (Cond.methodLink "jdk/internal/util/ArraysSupport" (194 : Nat) ({ cls := "java/lang/Math", name := "max", desc := "(II)I" } : Jvm.MethodName)) ∈ x_tbl := x_in0 135 rfl rfl
theorem k_136 : (Cond.static ({ cls := "java/lang/Math", name := "max", desc := "(II)I" } : Jvm.MethodName)) ∈ x_tbl := x_in0 136 rfl rfl
theorem k_137 : (Cond.code ({ cls := "java/lang/Math", name := "max", desc := "(II)I" } : Jvm.MethodName) prog_19_method_65_code (2 : Nat) (Option.some Jvm.ClassFile.FieldType.int)) ∈ x_tbl := x_in0 137 rfl rfl
theorem k_138 : (Cond.constant "jdk/internal/util/ArraysSupport" (200 : Nat) (2147483639 : Int32)) ∈ x_tbl := x_in0 138 rfl rfl
theorem k_139 : (Cond.methodLink "jdk/internal/util/ArraysSupport" (201 : Nat) ({ cls := "jdk/internal/util/ArraysSupport", name := "hugeLength", desc := "(II)I" } : Jvm.MethodName)) ∈ x_tbl := x_in0 139 rfl rfl
theorem k_140 : (Cond.static ({ cls := "jdk/internal/util/ArraysSupport", name := "hugeLength", desc := "(II)I" } : Jvm.MethodName)) ∈ x_tbl := x_in0 140 rfl rfl
theorem k_141 : (Cond.code ({ cls := "jdk/internal/util/ArraysSupport", name := "hugeLength", desc := "(II)I" } : Jvm.MethodName) prog_34_method_28_code (3 : Nat) (Option.some Jvm.ClassFile.FieldType.int)) ∈ x_tbl := x_in0 141 rfl rfl
theorem k_142 : (Cond.methodLink "java/util/ArrayList" (66 : Nat) ({ cls := "java/util/Arrays", name := "copyOf", desc := "([Ljava/lang/Object;I)[Ljava/lang/Object;" } : Jvm.MethodName)) ∈ x_tbl := x_in0 142 rfl rfl
theorem k_143 : (Cond.static ({ cls := "java/util/Arrays", name := "copyOf", desc := "([Ljava/lang/Object;I)[Ljava/lang/Object;" } : Jvm.MethodName)) ∈ x_tbl := x_in0 143 rfl rfl
theorem k_144 : (Cond.code ({ cls := "java/util/Arrays", name := "copyOf", desc := "([Ljava/lang/Object;I)[Ljava/lang/Object;" } : Jvm.MethodName) prog_28_method_119_code (2 : Nat) (Option.some (Jvm.ClassFile.FieldType.array (Jvm.ClassFile.FieldType.object "java/lang/Object")))) ∈ x_tbl := x_in0 144 rfl rfl
theorem k_145 : (Cond.methodLink "java/util/Arrays" (86 : Nat) ({ cls := "java/lang/Object", name := "getClass", desc := "()Ljava/lang/Class;" } : Jvm.MethodName)) ∈ x_tbl := x_in0 145 rfl rfl
theorem k_146 : (Cond.instanceMethod ({ cls := "java/lang/Object", name := "getClass", desc := "()Ljava/lang/Class;" } : Jvm.MethodName)) ∈ x_tbl := x_in0 146 rfl rfl
theorem k_147 : (Cond.sameMethod "java/lang/Object" "java/lang/Object" "getClass" "()Ljava/lang/Class;") ∈ x_tbl := x_in0 147 rfl rfl
theorem k_148 : (Cond.selects "RedactCheck" ({ cls := "java/lang/Object", name := "getClass", desc := "()Ljava/lang/Class;" } : Jvm.MethodName) ({ cls := "java/lang/Object", name := "getClass", desc := "()Ljava/lang/Class;" } : Jvm.MethodName)) ∈ x_tbl := x_in0 148 rfl rfl
theorem k_149 : (Cond.selects "RedactCheck$Area" ({ cls := "java/lang/Object", name := "getClass", desc := "()Ljava/lang/Class;" } : Jvm.MethodName) ({ cls := "java/lang/Object", name := "getClass", desc := "()Ljava/lang/Class;" } : Jvm.MethodName)) ∈ x_tbl := x_in0 149 rfl rfl
theorem k_150 : (Cond.selects "RedactCheck$Codes" ({ cls := "java/lang/Object", name := "getClass", desc := "()Ljava/lang/Class;" } : Jvm.MethodName) ({ cls := "java/lang/Object", name := "getClass", desc := "()Ljava/lang/Class;" } : Jvm.MethodName)) ∈ x_tbl := x_in0 150 rfl rfl
theorem k_151 : (Cond.selects "RedactCheck$Findings" ({ cls := "java/lang/Object", name := "getClass", desc := "()Ljava/lang/Class;" } : Jvm.MethodName) ({ cls := "java/lang/Object", name := "getClass", desc := "()Ljava/lang/Class;" } : Jvm.MethodName)) ∈ x_tbl := x_in0 151 rfl rfl
theorem k_152 : (Cond.selects "RedactCheck$SignRow" ({ cls := "java/lang/Object", name := "getClass", desc := "()Ljava/lang/Class;" } : Jvm.MethodName) ({ cls := "java/lang/Object", name := "getClass", desc := "()Ljava/lang/Class;" } : Jvm.MethodName)) ∈ x_tbl := x_in0 152 rfl rfl
theorem k_153 : (Cond.selects "RedactCheck$Store" ({ cls := "java/lang/Object", name := "getClass", desc := "()Ljava/lang/Class;" } : Jvm.MethodName) ({ cls := "java/lang/Object", name := "getClass", desc := "()Ljava/lang/Class;" } : Jvm.MethodName)) ∈ x_tbl := x_in0 153 rfl rfl
theorem k_154 : (Cond.selects "RedactCheck$Use" ({ cls := "java/lang/Object", name := "getClass", desc := "()Ljava/lang/Class;" } : Jvm.MethodName) ({ cls := "java/lang/Object", name := "getClass", desc := "()Ljava/lang/Class;" } : Jvm.MethodName)) ∈ x_tbl := x_in0 154 rfl rfl
theorem k_155 : (Cond.selects "RedactCheck$Word" ({ cls := "java/lang/Object", name := "getClass", desc := "()Ljava/lang/Class;" } : Jvm.MethodName) ({ cls := "java/lang/Object", name := "getClass", desc := "()Ljava/lang/Class;" } : Jvm.MethodName)) ∈ x_tbl := x_in0 155 rfl rfl
theorem k_156 : (Cond.selects "RedactCheckModel" ({ cls := "java/lang/Object", name := "getClass", desc := "()Ljava/lang/Class;" } : Jvm.MethodName) ({ cls := "java/lang/Object", name := "getClass", desc := "()Ljava/lang/Class;" } : Jvm.MethodName)) ∈ x_tbl := x_in0 156 rfl rfl
theorem k_157 : (Cond.selects "java/lang/IllegalArgumentException" ({ cls := "java/lang/Object", name := "getClass", desc := "()Ljava/lang/Class;" } : Jvm.MethodName) ({ cls := "java/lang/Object", name := "getClass", desc := "()Ljava/lang/Class;" } : Jvm.MethodName)) ∈ x_tbl := x_in0 157 rfl rfl
theorem k_158 : (Cond.selects "java/lang/IndexOutOfBoundsException" ({ cls := "java/lang/Object", name := "getClass", desc := "()Ljava/lang/Class;" } : Jvm.MethodName) ({ cls := "java/lang/Object", name := "getClass", desc := "()Ljava/lang/Class;" } : Jvm.MethodName)) ∈ x_tbl := x_in0 158 rfl rfl
theorem k_159 : (Cond.selects "java/lang/UnsupportedOperationException" ({ cls := "java/lang/Object", name := "getClass", desc := "()Ljava/lang/Class;" } : Jvm.MethodName) ({ cls := "java/lang/Object", name := "getClass", desc := "()Ljava/lang/Class;" } : Jvm.MethodName)) ∈ x_tbl := x_in0 159 rfl rfl
theorem k_160 : (Cond.selects "java/util/ArrayList" ({ cls := "java/lang/Object", name := "getClass", desc := "()Ljava/lang/Class;" } : Jvm.MethodName) ({ cls := "java/lang/Object", name := "getClass", desc := "()Ljava/lang/Class;" } : Jvm.MethodName)) ∈ x_tbl := x_in0 160 rfl rfl
theorem k_161 : (Cond.native ({ cls := "java/lang/Object", name := "getClass", desc := "()Ljava/lang/Class;" } : Jvm.MethodName)) ∈ x_tbl := x_in0 161 rfl rfl
theorem k_162 : (Cond.methodLink "java/util/Arrays" (300 : Nat) ({ cls := "java/util/Arrays", name := "copyOf", desc := "([Ljava/lang/Object;ILjava/lang/Class;)[Ljava/lang/Object;" } : Jvm.MethodName)) ∈ x_tbl := x_in0 162 rfl rfl
theorem k_163 : (Cond.static ({ cls := "java/util/Arrays", name := "copyOf", desc := "([Ljava/lang/Object;ILjava/lang/Class;)[Ljava/lang/Object;" } : Jvm.MethodName)) ∈ x_tbl := x_in0 163 rfl rfl
theorem k_164 : (Cond.code ({ cls := "java/util/Arrays", name := "copyOf", desc := "([Ljava/lang/Object;ILjava/lang/Class;)[Ljava/lang/Object;" } : Jvm.MethodName) prog_28_method_120_code (4 : Nat) (Option.some (Jvm.ClassFile.FieldType.array (Jvm.ClassFile.FieldType.object "java/lang/Object")))) ∈ x_tbl := x_in0 164 rfl rfl
theorem k_165 : (Cond.classLink "java/util/Arrays" (110 : Nat) "[Ljava/lang/Object;") ∈ x_tbl := x_in0 165 rfl rfl
theorem k_166 : (Cond.arrayOver (Jvm.ClassFile.FieldType.object "java/lang/Object")) ∈ x_tbl := x_in0 166 rfl rfl
theorem k_167 : (Cond.classLink "java/util/Arrays" (2 : Nat) "java/lang/Object") ∈ x_tbl := x_in0 167 rfl rfl
theorem k_168 : (Cond.methodLink "java/util/Arrays" (304 : Nat) ({ cls := "java/lang/Math", name := "min", desc := "(II)I" } : Jvm.MethodName)) ∈ x_tbl := x_in0 168 rfl rfl
theorem k_169 : (Cond.static ({ cls := "java/lang/Math", name := "min", desc := "(II)I" } : Jvm.MethodName)) ∈ x_tbl := x_in0 169 rfl rfl
theorem k_170 : (Cond.code ({ cls := "java/lang/Math", name := "min", desc := "(II)I" } : Jvm.MethodName) prog_19_method_69_code (2 : Nat) (Option.some Jvm.ClassFile.FieldType.int)) ∈ x_tbl := x_in0 170 rfl rfl
theorem k_171 : (Cond.methodLink "java/util/Arrays" (150 : Nat) ({ cls := "java/lang/System", name := "arraycopy", desc := "(Ljava/lang/Object;ILjava/lang/Object;II)V" } : Jvm.MethodName)) ∈ x_tbl := x_in0 171 rfl rfl
theorem k_172 : (Cond.static ({ cls := "java/lang/System", name := "arraycopy", desc := "(Ljava/lang/Object;ILjava/lang/Object;II)V" } : Jvm.MethodName)) ∈ x_tbl := x_in0 172 rfl rfl
theorem k_173 : (Cond.native ({ cls := "java/lang/System", name := "arraycopy", desc := "(Ljava/lang/Object;ILjava/lang/Object;II)V" } : Jvm.MethodName)) ∈ x_tbl := x_in0 173 rfl rfl
theorem k_174 : (Cond.methodLink "java/util/ArrayList" (79 : Nat) ({ cls := "java/lang/Math", name := "max", desc := "(II)I" } : Jvm.MethodName)) ∈ x_tbl := x_in0 174 rfl rfl
theorem k_175 : (Cond.classLink "java/util/ArrayList" (7 : Nat) "java/lang/Object") ∈ x_tbl := x_in0 175 rfl rfl
theorem k_176 : (Cond.fieldLink "RedactCheck" (10 : Nat) "RedactCheck" "pages" "Ljava/util/ArrayList;") ∈ x_tbl := x_in0 176 rfl rfl
theorem k_177 : (Cond.fieldLink "RedactCheck" (16 : Nat) "RedactCheck" "forms" "Ljava/util/ArrayList;") ∈ x_tbl := x_in0 177 rfl rfl
theorem k_178 : (Cond.fieldLink "RedactCheck" (19 : Nat) "RedactCheck" "uses" "Ljava/util/ArrayList;") ∈ x_tbl := x_in0 178 rfl rfl
theorem k_179 : (Cond.fieldLink "RedactCheck" (22 : Nat) "RedactCheck" "words" "Ljava/util/ArrayList;") ∈ x_tbl := x_in0 179 rfl rfl
theorem k_180 : (Cond.fieldLink "RedactCheck" (25 : Nat) "RedactCheck" "areas" "Ljava/util/ArrayList;") ∈ x_tbl := x_in0 180 rfl rfl
theorem k_181 : (Cond.fieldLink "RedactCheck" (28 : Nat) "RedactCheck" "stores" "Ljava/util/ArrayList;") ∈ x_tbl := x_in0 181 rfl rfl
theorem k_182 : (Cond.fieldLink "RedactCheck" (34 : Nat) "RedactCheck" "findings" "LRedactCheck$Findings;") ∈ x_tbl := x_in0 182 rfl rfl
theorem k_183 : (Cond.fieldLink "RedactCheck" (41 : Nat) "RedactCheck" "codes" "LRedactCheck$Codes;") ∈ x_tbl := x_in0 183 rfl rfl
theorem k_184 : (Cond.laysFinal "RedactCheck" "RedactCheck" "pages" "Ljava/util/ArrayList;") ∈ x_tbl := x_in0 184 rfl rfl
theorem k_186 : (Cond.laysFinal "RedactCheck" "RedactCheck" "forms" "Ljava/util/ArrayList;") ∈ x_tbl := x_in0 186 rfl rfl
theorem k_188 : (Cond.laysFinal "RedactCheck" "RedactCheck" "uses" "Ljava/util/ArrayList;") ∈ x_tbl := x_in0 188 rfl rfl
theorem k_190 : (Cond.laysFinal "RedactCheck" "RedactCheck" "words" "Ljava/util/ArrayList;") ∈ x_tbl := x_in0 190 rfl rfl
theorem k_192 : (Cond.laysFinal "RedactCheck" "RedactCheck" "areas" "Ljava/util/ArrayList;") ∈ x_tbl := x_in0 192 rfl rfl
theorem k_194 : (Cond.laysFinal "RedactCheck" "RedactCheck" "stores" "Ljava/util/ArrayList;") ∈ x_tbl := x_in0 194 rfl rfl
theorem k_196 : (Cond.laysFinal "RedactCheck" "RedactCheck" "findings" "LRedactCheck$Findings;") ∈ x_tbl := x_in0 196 rfl rfl
theorem k_198 : (Cond.laysFinal "RedactCheck" "RedactCheck" "codes" "LRedactCheck$Codes;") ∈ x_tbl := x_in0 198 rfl rfl
theorem k_200 : (Cond.superclass "RedactCheck" "java/lang/Object") ∈ x_tbl := x_in0 200 rfl rfl
theorem k_201 : (Cond.methodLink "RedactCheckLaw" (112 : Nat) ({ cls := "RedactCheck", name := "look", desc := "()I" } : Jvm.MethodName)) ∈ x_tbl := x_in0 201 rfl rfl
theorem k_202 : (Cond.instanceMethod ({ cls := "RedactCheck", name := "look", desc := "()I" } : Jvm.MethodName)) ∈ x_tbl := x_in0 202 rfl rfl
theorem k_203 : (Cond.selects "RedactCheck" ({ cls := "RedactCheck", name := "look", desc := "()I" } : Jvm.MethodName) ({ cls := "RedactCheck", name := "look", desc := "()I" } : Jvm.MethodName)) ∈ x_tbl := x_in0 203 rfl rfl
theorem k_204 : (Cond.code ({ cls := "RedactCheck", name := "look", desc := "()I" } : Jvm.MethodName) prog_1_method_12_code (2 : Nat) (Option.some Jvm.ClassFile.FieldType.int)) ∈ x_tbl := x_in0 204 rfl rfl
theorem k_205 : (Cond.methodLink "RedactCheck" (135 : Nat) ({ cls := "RedactCheck$Findings", name := "clear", desc := "()V" } : Jvm.MethodName)) ∈ x_tbl := x_in0 205 rfl rfl
theorem k_206 : (Cond.instanceMethod ({ cls := "RedactCheck$Findings", name := "clear", desc := "()V" } : Jvm.MethodName)) ∈ x_tbl := x_in0 206 rfl rfl
theorem k_207 : (Cond.selects "RedactCheck$Findings" ({ cls := "RedactCheck$Findings", name := "clear", desc := "()V" } : Jvm.MethodName) ({ cls := "RedactCheck$Findings", name := "clear", desc := "()V" } : Jvm.MethodName)) ∈ x_tbl := x_in0 207 rfl rfl
theorem k_208 : (Cond.code ({ cls := "RedactCheck$Findings", name := "clear", desc := "()V" } : Jvm.MethodName) prog_4_method_2_code (1 : Nat) (Option.none : Option Jvm.ClassFile.FieldType)) ∈ x_tbl := x_in0 208 rfl rfl
theorem k_209 : (Cond.methodLink "RedactCheck" (62 : Nat) ({ cls := "java/util/ArrayList", name := "size", desc := "()I" } : Jvm.MethodName)) ∈ x_tbl := x_in0 209 rfl rfl
theorem k_210 : (Cond.instanceMethod ({ cls := "java/util/ArrayList", name := "size", desc := "()I" } : Jvm.MethodName)) ∈ x_tbl := x_in0 210 rfl rfl
theorem k_211 : (Cond.selects "java/util/ArrayList" ({ cls := "java/util/ArrayList", name := "size", desc := "()I" } : Jvm.MethodName) ({ cls := "java/util/ArrayList", name := "size", desc := "()I" } : Jvm.MethodName)) ∈ x_tbl := x_in0 211 rfl rfl
theorem k_212 : (Cond.code ({ cls := "java/util/ArrayList", name := "size", desc := "()I" } : Jvm.MethodName) prog_27_method_8_code (1 : Nat) (Option.some Jvm.ClassFile.FieldType.int)) ∈ x_tbl := x_in0 212 rfl rfl
theorem k_213 : (Cond.methodLink "RedactCheck" (138 : Nat) ({ cls := "java/util/ArrayList", name := "get", desc := "(I)Ljava/lang/Object;" } : Jvm.MethodName)) ∈ x_tbl := x_in0 213 rfl rfl
theorem k_214 : (Cond.instanceMethod ({ cls := "java/util/ArrayList", name := "get", desc := "(I)Ljava/lang/Object;" } : Jvm.MethodName)) ∈ x_tbl := x_in0 214 rfl rfl
theorem k_215 : (Cond.selects "java/util/ArrayList" ({ cls := "java/util/ArrayList", name := "get", desc := "(I)Ljava/lang/Object;" } : Jvm.MethodName) ({ cls := "java/util/ArrayList", name := "get", desc := "(I)Ljava/lang/Object;" } : Jvm.MethodName)) ∈ x_tbl := x_in0 215 rfl rfl
theorem k_216 : (Cond.code ({ cls := "java/util/ArrayList", name := "get", desc := "(I)Ljava/lang/Object;" } : Jvm.MethodName) prog_27_method_20_code (2 : Nat) (Option.some (Jvm.ClassFile.FieldType.object "java/lang/Object"))) ∈ x_tbl := x_in0 216 rfl rfl
theorem k_217 : (Cond.methodLink "java/util/ArrayList" (118 : Nat) ({ cls := "java/util/Objects", name := "checkIndex", desc := "(II)I" } : Jvm.MethodName)) ∈ x_tbl := x_in0 217 rfl rfl
theorem k_218 : (Cond.static ({ cls := "java/util/Objects", name := "checkIndex", desc := "(II)I" } : Jvm.MethodName)) ∈ x_tbl := x_in0 218 rfl rfl
theorem k_219 : (Cond.code ({ cls := "java/util/Objects", name := "checkIndex", desc := "(II)I" } : Jvm.MethodName) prog_31_method_17_code (2 : Nat) (Option.some Jvm.ClassFile.FieldType.int)) ∈ x_tbl := x_in0 219 rfl rfl
theorem k_220 : (Cond.methodLink "java/util/Objects" (105 : Nat) ({ cls := "jdk/internal/util/Preconditions", name := "checkIndex", desc := "(IILjava/util/function/BiFunction;)I" } : Jvm.MethodName)) ∈ x_tbl := x_in0 220 rfl rfl
theorem k_221 : (Cond.static ({ cls := "jdk/internal/util/Preconditions", name := "checkIndex", desc := "(IILjava/util/function/BiFunction;)I" } : Jvm.MethodName)) ∈ x_tbl := x_in0 221 rfl rfl
theorem k_222 : (Cond.code ({ cls := "jdk/internal/util/Preconditions", name := "checkIndex", desc := "(IILjava/util/function/BiFunction;)I" } : Jvm.MethodName) prog_35_method_11_code (3 : Nat) (Option.some Jvm.ClassFile.FieldType.int)) ∈ x_tbl := x_in0 222 rfl rfl
theorem k_223 : (Cond.methodLink "java/util/ArrayList" (123 : Nat) ({ cls := "java/util/ArrayList", name := "elementData", desc := "(I)Ljava/lang/Object;" } : Jvm.MethodName)) ∈ x_tbl := x_in0 223 rfl rfl
theorem k_224 : (Cond.instanceMethod ({ cls := "java/util/ArrayList", name := "elementData", desc := "(I)Ljava/lang/Object;" } : Jvm.MethodName)) ∈ x_tbl := x_in0 224 rfl rfl
theorem k_225 : (Cond.selects "java/util/ArrayList" ({ cls := "java/util/ArrayList", name := "elementData", desc := "(I)Ljava/lang/Object;" } : Jvm.MethodName) ({ cls := "java/util/ArrayList", name := "elementData", desc := "(I)Ljava/lang/Object;" } : Jvm.MethodName)) ∈ x_tbl := x_in0 225 rfl rfl
theorem k_226 : (Cond.code ({ cls := "java/util/ArrayList", name := "elementData", desc := "(I)Ljava/lang/Object;" } : Jvm.MethodName) prog_27_method_18_code (2 : Nat) (Option.some (Jvm.ClassFile.FieldType.object "java/lang/Object"))) ∈ x_tbl := x_in0 226 rfl rfl
theorem k_227 : (Cond.methodLink "RedactCheck" (142 : Nat) ({ cls := "RedactCheck$SignRow", name := "readInto", desc := "(LRedactCheck$Codes;)V" } : Jvm.MethodName)) ∈ x_tbl := x_in0 227 rfl rfl
theorem k_228 : (Cond.instanceMethod ({ cls := "RedactCheck$SignRow", name := "readInto", desc := "(LRedactCheck$Codes;)V" } : Jvm.MethodName)) ∈ x_tbl := x_in0 228 rfl rfl
theorem k_229 : (Cond.selects "RedactCheck$SignRow" ({ cls := "RedactCheck$SignRow", name := "readInto", desc := "(LRedactCheck$Codes;)V" } : Jvm.MethodName) ({ cls := "RedactCheck$SignRow", name := "readInto", desc := "(LRedactCheck$Codes;)V" } : Jvm.MethodName)) ∈ x_tbl := x_in0 229 rfl rfl
theorem k_230 : (Cond.code ({ cls := "RedactCheck$SignRow", name := "readInto", desc := "(LRedactCheck$Codes;)V" } : Jvm.MethodName) prog_6_method_4_code (3 : Nat) (Option.none : Option Jvm.ClassFile.FieldType)) ∈ x_tbl := x_in0 230 rfl rfl
theorem k_231 : (Cond.methodLink "RedactCheck$SignRow" (29 : Nat) ({ cls := "RedactCheck$SignRow", name := "part", desc := "(II)I" } : Jvm.MethodName)) ∈ x_tbl := x_in0 231 rfl rfl
theorem k_232 : (Cond.instanceMethod ({ cls := "RedactCheck$SignRow", name := "part", desc := "(II)I" } : Jvm.MethodName)) ∈ x_tbl := x_in0 232 rfl rfl
theorem k_233 : (Cond.selects "RedactCheck$SignRow" ({ cls := "RedactCheck$SignRow", name := "part", desc := "(II)I" } : Jvm.MethodName) ({ cls := "RedactCheck$SignRow", name := "part", desc := "(II)I" } : Jvm.MethodName)) ∈ x_tbl := x_in0 233 rfl rfl
theorem k_234 : (Cond.code ({ cls := "RedactCheck$SignRow", name := "part", desc := "(II)I" } : Jvm.MethodName) prog_6_method_3_code (3 : Nat) (Option.some Jvm.ClassFile.FieldType.int)) ∈ x_tbl := x_in0 234 rfl rfl
theorem k_235 : (Cond.methodLink "RedactCheck$SignRow" (33 : Nat) ({ cls := "RedactCheck$Codes", name := "add", desc := "(I)V" } : Jvm.MethodName)) ∈ x_tbl := x_in0 235 rfl rfl
theorem k_236 : (Cond.instanceMethod ({ cls := "RedactCheck$Codes", name := "add", desc := "(I)V" } : Jvm.MethodName)) ∈ x_tbl := x_in0 236 rfl rfl
theorem k_237 : (Cond.selects "RedactCheck$Codes" ({ cls := "RedactCheck$Codes", name := "add", desc := "(I)V" } : Jvm.MethodName) ({ cls := "RedactCheck$Codes", name := "add", desc := "(I)V" } : Jvm.MethodName)) ∈ x_tbl := x_in0 237 rfl rfl
theorem k_238 : (Cond.code ({ cls := "RedactCheck$Codes", name := "add", desc := "(I)V" } : Jvm.MethodName) prog_3_method_2_code (2 : Nat) (Option.none : Option Jvm.ClassFile.FieldType)) ∈ x_tbl := x_in0 238 rfl rfl
theorem k_239 : (Cond.methodLink "RedactCheck" (146 : Nat) ({ cls := "RedactCheck", name := "findWords", desc := "(III)V" } : Jvm.MethodName)) ∈ x_tbl := x_in0 239 rfl rfl
theorem k_241 : (Cond.instanceMethod ({ cls := "RedactCheck", name := "findWords", desc := "(III)V" } : Jvm.MethodName)) ∈ x_tbl := x_in1 1 rfl rfl
theorem k_242 : (Cond.code ({ cls := "RedactCheck", name := "findWords", desc := "(III)V" } : Jvm.MethodName) prog_1_method_37_code (6 : Nat) (Option.none : Option Jvm.ClassFile.FieldType)) ∈ x_tbl := x_in1 2 rfl rfl
theorem k_243 : (Cond.classLink "RedactCheck" (82 : Nat) "RedactCheck$Word") ∈ x_tbl := x_in1 3 rfl rfl
theorem k_244 : (Cond.methodLink "RedactCheck" (262 : Nat) ({ cls := "RedactCheck$Word", name := "standsIn", desc := "(LRedactCheck$Codes;I)Z" } : Jvm.MethodName)) ∈ x_tbl := x_in1 4 rfl rfl
theorem k_245 : (Cond.instanceMethod ({ cls := "RedactCheck$Word", name := "standsIn", desc := "(LRedactCheck$Codes;I)Z" } : Jvm.MethodName)) ∈ x_tbl := x_in1 5 rfl rfl
theorem k_246 : (Cond.selects "RedactCheck$Word" ({ cls := "RedactCheck$Word", name := "standsIn", desc := "(LRedactCheck$Codes;I)Z" } : Jvm.MethodName) ({ cls := "RedactCheck$Word", name := "standsIn", desc := "(LRedactCheck$Codes;I)Z" } : Jvm.MethodName)) ∈ x_tbl := x_in1 6 rfl rfl
theorem k_247 : (Cond.code ({ cls := "RedactCheck$Word", name := "standsIn", desc := "(LRedactCheck$Codes;I)Z" } : Jvm.MethodName) prog_9_method_3_code (4 : Nat) (Option.some Jvm.ClassFile.FieldType.boolean)) ∈ x_tbl := x_in1 7 rfl rfl
theorem k_248 : (Cond.methodLink "RedactCheck$Word" (22 : Nat) ({ cls := "RedactCheck$Codes", name := "value", desc := "(I)I" } : Jvm.MethodName)) ∈ x_tbl := x_in1 8 rfl rfl
theorem k_249 : (Cond.instanceMethod ({ cls := "RedactCheck$Codes", name := "value", desc := "(I)I" } : Jvm.MethodName)) ∈ x_tbl := x_in1 9 rfl rfl
theorem k_250 : (Cond.selects "RedactCheck$Codes" ({ cls := "RedactCheck$Codes", name := "value", desc := "(I)I" } : Jvm.MethodName) ({ cls := "RedactCheck$Codes", name := "value", desc := "(I)I" } : Jvm.MethodName)) ∈ x_tbl := x_in1 10 rfl rfl
theorem k_251 : (Cond.code ({ cls := "RedactCheck$Codes", name := "value", desc := "(I)I" } : Jvm.MethodName) prog_3_method_3_code (2 : Nat) (Option.some Jvm.ClassFile.FieldType.int)) ∈ x_tbl := x_in1 11 rfl rfl
theorem k_252 : (Cond.methodLink "RedactCheck" (265 : Nat) ({ cls := "RedactCheck$Findings", name := "add", desc := "(IIIII)V" } : Jvm.MethodName)) ∈ x_tbl := x_in1 12 rfl rfl
theorem k_253 : (Cond.instanceMethod ({ cls := "RedactCheck$Findings", name := "add", desc := "(IIIII)V" } : Jvm.MethodName)) ∈ x_tbl := x_in1 13 rfl rfl
theorem k_254 : (Cond.selects "RedactCheck$Findings" ({ cls := "RedactCheck$Findings", name := "add", desc := "(IIIII)V" } : Jvm.MethodName) ({ cls := "RedactCheck$Findings", name := "add", desc := "(IIIII)V" } : Jvm.MethodName)) ∈ x_tbl := x_in1 14 rfl rfl
theorem k_255 : (Cond.code ({ cls := "RedactCheck$Findings", name := "add", desc := "(IIIII)V" } : Jvm.MethodName) prog_4_method_3_code (7 : Nat) (Option.none : Option Jvm.ClassFile.FieldType)) ∈ x_tbl := x_in1 15 rfl rfl
theorem k_256 : (Cond.classLink "RedactCheck" (77 : Nat) "RedactCheck$Use") ∈ x_tbl := x_in1 16 rfl rfl
theorem k_257 : (Cond.methodLink "RedactCheck" (153 : Nat) ({ cls := "RedactCheck", name := "lookThroughStore", desc := "(I)V" } : Jvm.MethodName)) ∈ x_tbl := x_in1 17 rfl rfl
theorem k_259 : (Cond.instanceMethod ({ cls := "RedactCheck", name := "lookThroughStore", desc := "(I)V" } : Jvm.MethodName)) ∈ x_tbl := x_in1 19 rfl rfl
theorem k_260 : (Cond.code ({ cls := "RedactCheck", name := "lookThroughStore", desc := "(I)V" } : Jvm.MethodName) prog_1_method_36_code (4 : Nat) (Option.none : Option Jvm.ClassFile.FieldType)) ∈ x_tbl := x_in1 20 rfl rfl
theorem k_261 : (Cond.classLink "RedactCheck" (107 : Nat) "RedactCheck$Store") ∈ x_tbl := x_in1 21 rfl rfl
theorem k_262 : (Cond.methodLink "RedactCheck" (238 : Nat) ({ cls := "RedactCheck$Store", name := "readInto", desc := "(LRedactCheck$Codes;I)Z" } : Jvm.MethodName)) ∈ x_tbl := x_in1 22 rfl rfl
theorem k_263 : (Cond.instanceMethod ({ cls := "RedactCheck$Store", name := "readInto", desc := "(LRedactCheck$Codes;I)Z" } : Jvm.MethodName)) ∈ x_tbl := x_in1 23 rfl rfl
theorem k_264 : (Cond.selects "RedactCheck$Store" ({ cls := "RedactCheck$Store", name := "readInto", desc := "(LRedactCheck$Codes;I)Z" } : Jvm.MethodName) ({ cls := "RedactCheck$Store", name := "readInto", desc := "(LRedactCheck$Codes;I)Z" } : Jvm.MethodName)) ∈ x_tbl := x_in1 24 rfl rfl
theorem k_265 : (Cond.code ({ cls := "RedactCheck$Store", name := "readInto", desc := "(LRedactCheck$Codes;I)Z" } : Jvm.MethodName) prog_7_method_4_code (6 : Nat) (Option.some Jvm.ClassFile.FieldType.boolean)) ∈ x_tbl := x_in1 25 rfl rfl
theorem k_266 : (Cond.methodLink "RedactCheck$Store" (25 : Nat) ({ cls := "RedactCheck$Store", name := "unsigned", desc := "(I)I" } : Jvm.MethodName)) ∈ x_tbl := x_in1 26 rfl rfl
theorem k_268 : (Cond.instanceMethod ({ cls := "RedactCheck$Store", name := "unsigned", desc := "(I)I" } : Jvm.MethodName)) ∈ x_tbl := x_in1 28 rfl rfl
theorem k_269 : (Cond.instantiable "RedactCheck$Store" (3 : Nat)) ∈ x_tbl := x_in1 29 rfl rfl
theorem k_270 : (Cond.code ({ cls := "RedactCheck$Store", name := "unsigned", desc := "(I)I" } : Jvm.MethodName) prog_7_method_7_code (2 : Nat) (Option.some Jvm.ClassFile.FieldType.int)) ∈ x_tbl := x_in1 30 rfl rfl
theorem k_271 : (Cond.methodLink "RedactCheck$Store" (50 : Nat) ({ cls := "RedactCheck$Store", name := "value", desc := "(I)B" } : Jvm.MethodName)) ∈ x_tbl := x_in1 31 rfl rfl
theorem k_272 : (Cond.instanceMethod ({ cls := "RedactCheck$Store", name := "value", desc := "(I)B" } : Jvm.MethodName)) ∈ x_tbl := x_in1 32 rfl rfl
theorem k_273 : (Cond.selects "RedactCheck$Store" ({ cls := "RedactCheck$Store", name := "value", desc := "(I)B" } : Jvm.MethodName) ({ cls := "RedactCheck$Store", name := "value", desc := "(I)B" } : Jvm.MethodName)) ∈ x_tbl := x_in1 33 rfl rfl
theorem k_274 : (Cond.code ({ cls := "RedactCheck$Store", name := "value", desc := "(I)B" } : Jvm.MethodName) prog_7_method_3_code (2 : Nat) (Option.some Jvm.ClassFile.FieldType.byte)) ∈ x_tbl := x_in1 34 rfl rfl
theorem k_275 : (Cond.methodLink "RedactCheck$Store" (29 : Nat) ({ cls := "RedactCheck$Store", name := "decode", desc := "(III)I" } : Jvm.MethodName)) ∈ x_tbl := x_in1 35 rfl rfl
theorem k_276 : (Cond.static ({ cls := "RedactCheck$Store", name := "decode", desc := "(III)I" } : Jvm.MethodName)) ∈ x_tbl := x_in1 36 rfl rfl
theorem k_277 : (Cond.code ({ cls := "RedactCheck$Store", name := "decode", desc := "(III)I" } : Jvm.MethodName) prog_7_method_8_code (5 : Nat) (Option.some Jvm.ClassFile.FieldType.int)) ∈ x_tbl := x_in1 37 rfl rfl
theorem k_278 : (Cond.methodLink "RedactCheck$Store" (52 : Nat) ({ cls := "RedactCheck$Store", name := "valueOfDigit", desc := "(I)I" } : Jvm.MethodName)) ∈ x_tbl := x_in1 38 rfl rfl
theorem k_279 : (Cond.static ({ cls := "RedactCheck$Store", name := "valueOfDigit", desc := "(I)I" } : Jvm.MethodName)) ∈ x_tbl := x_in1 39 rfl rfl
theorem k_280 : (Cond.code ({ cls := "RedactCheck$Store", name := "valueOfDigit", desc := "(I)I" } : Jvm.MethodName) prog_7_method_9_code (1 : Nat) (Option.some Jvm.ClassFile.FieldType.int)) ∈ x_tbl := x_in1 40 rfl rfl
theorem k_281 : (Cond.methodLink "RedactCheck$Store" (33 : Nat) ({ cls := "RedactCheck$Codes", name := "add", desc := "(I)V" } : Jvm.MethodName)) ∈ x_tbl := x_in1 41 rfl rfl
theorem k_282 : (Cond.methodLink "RedactCheckLaw" (131 : Nat) ({ cls := "RedactCheck", name := "told", desc := "(I)I" } : Jvm.MethodName)) ∈ x_tbl := x_in1 42 rfl rfl
theorem k_283 : (Cond.instanceMethod ({ cls := "RedactCheck", name := "told", desc := "(I)I" } : Jvm.MethodName)) ∈ x_tbl := x_in1 43 rfl rfl
theorem k_284 : (Cond.selects "RedactCheck" ({ cls := "RedactCheck", name := "told", desc := "(I)I" } : Jvm.MethodName) ({ cls := "RedactCheck", name := "told", desc := "(I)I" } : Jvm.MethodName)) ∈ x_tbl := x_in1 44 rfl rfl
theorem k_285 : (Cond.code ({ cls := "RedactCheck", name := "told", desc := "(I)I" } : Jvm.MethodName) prog_1_method_18_code (2 : Nat) (Option.some Jvm.ClassFile.FieldType.int)) ∈ x_tbl := x_in1 45 rfl rfl
theorem k_286 : (Cond.methodLink "RedactCheckLaw" (71 : Nat) ({ cls := "RedactCheckLaw", name := "sign", desc := "(LRedactCheck;IIIII[J)I" } : Jvm.MethodName)) ∈ x_tbl := x_in1 46 rfl rfl
theorem k_287 : (Cond.static ({ cls := "RedactCheckLaw", name := "sign", desc := "(LRedactCheck;IIIII[J)I" } : Jvm.MethodName)) ∈ x_tbl := x_in1 47 rfl rfl
theorem k_288 : (Cond.codeWith ({ cls := "RedactCheckLaw", name := "sign", desc := "(LRedactCheck;IIIII[J)I" } : Jvm.MethodName) method_3_code (8 : Nat) (Option.some Jvm.ClassFile.FieldType.int) [((0 : Nat), (16 : Nat), (19 : Nat), (13 : Nat)), ((0 : Nat), (16 : Nat), (23 : Nat), (15 : Nat)), ((0 : Nat), (16 : Nat), (27 : Nat), (17 : Nat))]) ∈ x_tbl := x_in1 48 rfl rfl
theorem k_289 : (Cond.classLink "RedactCheckLaw" (13 : Nat) "java/lang/IndexOutOfBoundsException") ∈ x_tbl := x_in1 49 rfl rfl
theorem k_290 : (Cond.classLink "RedactCheckLaw" (15 : Nat) "java/lang/IllegalArgumentException") ∈ x_tbl := x_in1 50 rfl rfl
theorem k_291 : (Cond.classLink "RedactCheckLaw" (17 : Nat) "java/lang/UnsupportedOperationException") ∈ x_tbl := x_in1 51 rfl rfl
theorem k_292 : (Cond.methodLink "RedactCheckLaw" (7 : Nat) ({ cls := "RedactCheck", name := "sign", desc := "(IIIII)I" } : Jvm.MethodName)) ∈ x_tbl := x_in1 52 rfl rfl
theorem k_293 : (Cond.instanceMethod ({ cls := "RedactCheck", name := "sign", desc := "(IIIII)I" } : Jvm.MethodName)) ∈ x_tbl := x_in1 53 rfl rfl
theorem k_294 : (Cond.selects "RedactCheck" ({ cls := "RedactCheck", name := "sign", desc := "(IIIII)I" } : Jvm.MethodName) ({ cls := "RedactCheck", name := "sign", desc := "(IIIII)I" } : Jvm.MethodName)) ∈ x_tbl := x_in1 54 rfl rfl
theorem k_295 : (Cond.code ({ cls := "RedactCheck", name := "sign", desc := "(IIIII)I" } : Jvm.MethodName) prog_1_method_2_code (6 : Nat) (Option.some Jvm.ClassFile.FieldType.int)) ∈ x_tbl := x_in1 55 rfl rfl
theorem k_296 : (Cond.methodLink "RedactCheck" (54 : Nat) ({ cls := "RedactCheck", name := "rowOf", desc := "(Ljava/util/ArrayList;I)LRedactCheck$SignRow;" } : Jvm.MethodName)) ∈ x_tbl := x_in1 56 rfl rfl
theorem k_297 : (Cond.static ({ cls := "RedactCheck", name := "rowOf", desc := "(Ljava/util/ArrayList;I)LRedactCheck$SignRow;" } : Jvm.MethodName)) ∈ x_tbl := x_in1 57 rfl rfl
theorem k_298 : (Cond.code ({ cls := "RedactCheck", name := "rowOf", desc := "(Ljava/util/ArrayList;I)LRedactCheck$SignRow;" } : Jvm.MethodName) prog_1_method_22_code (2 : Nat) (Option.some (Jvm.ClassFile.FieldType.object "RedactCheck$SignRow"))) ∈ x_tbl := x_in1 58 rfl rfl
theorem k_299 : (Cond.classLink "RedactCheck" (167 : Nat) "java/lang/IndexOutOfBoundsException") ∈ x_tbl := x_in1 59 rfl rfl
theorem k_300 : (Cond.instantiable "java/lang/IndexOutOfBoundsException" (6 : Nat)) ∈ x_tbl := x_in1 60 rfl rfl
theorem k_301 : (Cond.castable "java/lang/IndexOutOfBoundsException" "java/lang/IndexOutOfBoundsException") ∈ x_tbl := x_in1 61 rfl rfl
theorem k_302 : (Cond.declares ({ cls := "java/lang/RuntimeException", name := "<init>", desc := "()V" } : Jvm.MethodName)) ∈ x_tbl := x_in1 62 rfl rfl
theorem k_303 : (Cond.declares ({ cls := "java/lang/RuntimeException", name := "<init>", desc := "(Ljava/lang/String;)V" } : Jvm.MethodName)) ∈ x_tbl := x_in1 63 rfl rfl
theorem k_304 : (Cond.declares ({ cls := "java/lang/Exception", name := "<init>", desc := "()V" } : Jvm.MethodName)) ∈ x_tbl := x_in1 64 rfl rfl
theorem k_305 : (Cond.declares ({ cls := "java/lang/Exception", name := "<init>", desc := "(Ljava/lang/String;)V" } : Jvm.MethodName)) ∈ x_tbl := x_in1 65 rfl rfl
theorem k_306 : (Cond.declares ({ cls := "java/lang/Throwable", name := "<init>", desc := "()V" } : Jvm.MethodName)) ∈ x_tbl := x_in1 66 rfl rfl
theorem k_307 : (Cond.declares ({ cls := "java/lang/Throwable", name := "<init>", desc := "(Ljava/lang/String;)V" } : Jvm.MethodName)) ∈ x_tbl := x_in1 67 rfl rfl
theorem k_308 : (Cond.selects "java/lang/IndexOutOfBoundsException" ({ cls := "java/lang/Throwable", name := "fillInStackTrace", desc := "(I)Ljava/lang/Throwable;" } : Jvm.MethodName) ({ cls := "java/lang/Throwable", name := "fillInStackTrace", desc := "(I)Ljava/lang/Throwable;" } : Jvm.MethodName)) ∈ x_tbl := x_in1 68 rfl rfl
theorem k_309 : (Cond.selects "java/lang/IndexOutOfBoundsException" ({ cls := "java/lang/Throwable", name := "fillInStackTrace", desc := "()Ljava/lang/Throwable;" } : Jvm.MethodName) ({ cls := "java/lang/Throwable", name := "fillInStackTrace", desc := "()Ljava/lang/Throwable;" } : Jvm.MethodName)) ∈ x_tbl := x_in1 69 rfl rfl
theorem k_310 : (Cond.lays "java/lang/IndexOutOfBoundsException" "java/lang/Throwable" "cause" "Ljava/lang/Throwable;") ∈ x_tbl := x_in1 70 rfl rfl
theorem k_311 : (Cond.lays "java/lang/Throwable" "java/lang/Throwable" "cause" "Ljava/lang/Throwable;") ∈ x_tbl := x_in1 71 rfl rfl
theorem k_312 : (Cond.lays "java/lang/IndexOutOfBoundsException" "java/lang/Throwable" "stackTrace" "[Ljava/lang/StackTraceElement;") ∈ x_tbl := x_in1 72 rfl rfl
theorem k_313 : (Cond.lays "java/lang/Throwable" "java/lang/Throwable" "stackTrace" "[Ljava/lang/StackTraceElement;") ∈ x_tbl := x_in1 73 rfl rfl
theorem k_314 : (Cond.lays "java/lang/IndexOutOfBoundsException" "java/lang/Throwable" "suppressedExceptions" "Ljava/util/List;") ∈ x_tbl := x_in1 74 rfl rfl
theorem k_315 : (Cond.lays "java/lang/Throwable" "java/lang/Throwable" "suppressedExceptions" "Ljava/util/List;") ∈ x_tbl := x_in1 75 rfl rfl
theorem k_316 : (Cond.lays "java/lang/IndexOutOfBoundsException" "java/lang/Throwable" "detailMessage" "Ljava/lang/String;") ∈ x_tbl := x_in1 76 rfl rfl
theorem k_317 : (Cond.lays "java/lang/Throwable" "java/lang/Throwable" "detailMessage" "Ljava/lang/String;") ∈ x_tbl := x_in1 77 rfl rfl
theorem k_318 : (Cond.lays "java/lang/IndexOutOfBoundsException" "java/lang/Throwable" "backtrace" "Ljava/lang/Object;") ∈ x_tbl := x_in1 78 rfl rfl
theorem k_319 : (Cond.lays "java/lang/Throwable" "java/lang/Throwable" "backtrace" "Ljava/lang/Object;") ∈ x_tbl := x_in1 79 rfl rfl
theorem k_320 : (Cond.fieldLink "java/lang/Throwable" (198 : Nat) "java/lang/Throwable" "backtrace" "Ljava/lang/Object;") ∈ x_tbl := x_in1 80 rfl rfl
theorem k_321 : (Cond.superclass "java/lang/Throwable" "java/lang/Object") ∈ x_tbl := x_in1 81 rfl rfl
theorem k_322 : (Cond.instanceMethod ({ cls := "java/lang/Throwable", name := "<init>", desc := "()V" } : Jvm.MethodName)) ∈ x_tbl := x_in1 82 rfl rfl
theorem k_323 : (Cond.code ({ cls := "java/lang/Throwable", name := "<init>", desc := "()V" } : Jvm.MethodName) prog_23_method_1_code (1 : Nat) (Option.none : Option Jvm.ClassFile.FieldType)) ∈ x_tbl := x_in1 83 rfl rfl
theorem k_324 : (Cond.methodLink "java/lang/Throwable" (1 : Nat) ({ cls := "java/lang/Object", name := "<init>", desc := "()V" } : Jvm.MethodName)) ∈ x_tbl := x_in1 84 rfl rfl
theorem k_325 : (Cond.fieldLink "java/lang/Throwable" (13 : Nat) "java/lang/Throwable" "UNASSIGNED_STACK" "[Ljava/lang/StackTraceElement;") ∈ x_tbl := x_in1 85 rfl rfl
theorem k_327 : (Cond.fieldLink "java/lang/Throwable" (20 : Nat) "java/lang/Throwable" "SUPPRESSED_SENTINEL" "Ljava/util/List;") ∈ x_tbl := x_in1 87 rfl rfl
theorem k_329 : (Cond.methodLink "java/lang/Throwable" (27 : Nat) ({ cls := "java/lang/Throwable", name := "fillInStackTrace", desc := "()Ljava/lang/Throwable;" } : Jvm.MethodName)) ∈ x_tbl := x_in1 89 rfl rfl
theorem k_330 : (Cond.instanceMethod ({ cls := "java/lang/Throwable", name := "fillInStackTrace", desc := "()Ljava/lang/Throwable;" } : Jvm.MethodName)) ∈ x_tbl := x_in1 90 rfl rfl
theorem k_331 : (Cond.sameMethod "java/lang/Throwable" "java/lang/Throwable" "fillInStackTrace" "()Ljava/lang/Throwable;") ∈ x_tbl := x_in1 91 rfl rfl
theorem k_332 : (Cond.selects "java/lang/IllegalArgumentException" ({ cls := "java/lang/Throwable", name := "fillInStackTrace", desc := "()Ljava/lang/Throwable;" } : Jvm.MethodName) ({ cls := "java/lang/Throwable", name := "fillInStackTrace", desc := "()Ljava/lang/Throwable;" } : Jvm.MethodName)) ∈ x_tbl := x_in1 92 rfl rfl
theorem k_333 : (Cond.selects "java/lang/UnsupportedOperationException" ({ cls := "java/lang/Throwable", name := "fillInStackTrace", desc := "()Ljava/lang/Throwable;" } : Jvm.MethodName) ({ cls := "java/lang/Throwable", name := "fillInStackTrace", desc := "()Ljava/lang/Throwable;" } : Jvm.MethodName)) ∈ x_tbl := x_in1 93 rfl rfl
theorem k_334 : (Cond.codeSync ({ cls := "java/lang/Throwable", name := "fillInStackTrace", desc := "()Ljava/lang/Throwable;" } : Jvm.MethodName) prog_23_method_18_code (1 : Nat) (Option.some (Jvm.ClassFile.FieldType.object "java/lang/Throwable"))) ∈ x_tbl := x_in1 94 rfl rfl
theorem k_335 : (Cond.methodLink "java/lang/Throwable" (202 : Nat) ({ cls := "java/lang/Throwable", name := "fillInStackTrace", desc := "(I)Ljava/lang/Throwable;" } : Jvm.MethodName)) ∈ x_tbl := x_in1 95 rfl rfl
theorem k_337 : (Cond.instanceMethod ({ cls := "java/lang/Throwable", name := "fillInStackTrace", desc := "(I)Ljava/lang/Throwable;" } : Jvm.MethodName)) ∈ x_tbl := x_in1 97 rfl rfl
theorem k_338 : (Cond.instantiable "java/lang/Throwable" (6 : Nat)) ∈ x_tbl := x_in1 98 rfl rfl
theorem k_339 : (Cond.native ({ cls := "java/lang/Throwable", name := "fillInStackTrace", desc := "(I)Ljava/lang/Throwable;" } : Jvm.MethodName)) ∈ x_tbl := x_in1 99 rfl rfl
theorem k_340 : (Cond.stringRef "RedactCheck" (183 : Nat) "there is no such page or form") ∈ x_tbl := x_in1 100 rfl rfl
theorem k_341 : (Cond.methodLink "RedactCheck" (171 : Nat) ({ cls := "java/lang/IndexOutOfBoundsException", name := "<init>", desc := "(Ljava/lang/String;)V" } : Jvm.MethodName)) ∈ x_tbl := x_in1 101 rfl rfl
theorem k_342 : (Cond.instanceMethod ({ cls := "java/lang/IndexOutOfBoundsException", name := "<init>", desc := "(Ljava/lang/String;)V" } : Jvm.MethodName)) ∈ x_tbl := x_in1 102 rfl rfl
theorem k_343 : (Cond.code ({ cls := "java/lang/IndexOutOfBoundsException", name := "<init>", desc := "(Ljava/lang/String;)V" } : Jvm.MethodName) prog_16_method_2_code (2 : Nat) (Option.none : Option Jvm.ClassFile.FieldType)) ∈ x_tbl := x_in1 103 rfl rfl
theorem k_344 : (Cond.methodLink "java/lang/IndexOutOfBoundsException" (7 : Nat) ({ cls := "java/lang/RuntimeException", name := "<init>", desc := "(Ljava/lang/String;)V" } : Jvm.MethodName)) ∈ x_tbl := x_in1 104 rfl rfl
theorem k_345 : (Cond.instanceMethod ({ cls := "java/lang/RuntimeException", name := "<init>", desc := "(Ljava/lang/String;)V" } : Jvm.MethodName)) ∈ x_tbl := x_in1 105 rfl rfl
theorem k_346 : (Cond.code ({ cls := "java/lang/RuntimeException", name := "<init>", desc := "(Ljava/lang/String;)V" } : Jvm.MethodName) prog_20_method_2_code (2 : Nat) (Option.none : Option Jvm.ClassFile.FieldType)) ∈ x_tbl := x_in1 106 rfl rfl
theorem k_347 : (Cond.methodLink "java/lang/RuntimeException" (7 : Nat) ({ cls := "java/lang/Exception", name := "<init>", desc := "(Ljava/lang/String;)V" } : Jvm.MethodName)) ∈ x_tbl := x_in1 107 rfl rfl
theorem k_348 : (Cond.instanceMethod ({ cls := "java/lang/Exception", name := "<init>", desc := "(Ljava/lang/String;)V" } : Jvm.MethodName)) ∈ x_tbl := x_in1 108 rfl rfl
theorem k_349 : (Cond.code ({ cls := "java/lang/Exception", name := "<init>", desc := "(Ljava/lang/String;)V" } : Jvm.MethodName) prog_14_method_2_code (2 : Nat) (Option.none : Option Jvm.ClassFile.FieldType)) ∈ x_tbl := x_in1 109 rfl rfl
theorem k_350 : (Cond.methodLink "java/lang/Exception" (7 : Nat) ({ cls := "java/lang/Throwable", name := "<init>", desc := "(Ljava/lang/String;)V" } : Jvm.MethodName)) ∈ x_tbl := x_in1 110 rfl rfl
theorem k_351 : (Cond.instanceMethod ({ cls := "java/lang/Throwable", name := "<init>", desc := "(Ljava/lang/String;)V" } : Jvm.MethodName)) ∈ x_tbl := x_in1 111 rfl rfl
theorem k_352 : (Cond.code ({ cls := "java/lang/Throwable", name := "<init>", desc := "(Ljava/lang/String;)V" } : Jvm.MethodName) prog_23_method_2_code (2 : Nat) (Option.none : Option Jvm.ClassFile.FieldType)) ∈ x_tbl := x_in1 112 rfl rfl
theorem k_353 : (Cond.fieldLink "java/lang/Throwable" (198 : Nat) "java/lang/Throwable" "backtrace" "Ljava/lang/Object;") ∈ x_tbl := x_in1 113 rfl rfl
theorem k_354 : (Cond.fieldLink "java/lang/Throwable" (31 : Nat) "java/lang/Throwable" "detailMessage" "Ljava/lang/String;") ∈ x_tbl := x_in1 114 rfl rfl
theorem k_355 : (Cond.fieldLink "java/lang/Throwable" (7 : Nat) "java/lang/Throwable" "cause" "Ljava/lang/Throwable;") ∈ x_tbl := x_in1 115 rfl rfl
theorem k_356 : (Cond.fieldLink "java/lang/Throwable" (17 : Nat) "java/lang/Throwable" "stackTrace" "[Ljava/lang/StackTraceElement;") ∈ x_tbl := x_in1 116 rfl rfl
theorem k_357 : (Cond.fieldLink "java/lang/Throwable" (24 : Nat) "java/lang/Throwable" "suppressedExceptions" "Ljava/util/List;") ∈ x_tbl := x_in1 117 rfl rfl
theorem k_362 : (Cond.lays "java/lang/IndexOutOfBoundsException" "java/lang/Throwable" "depth" "I") ∈ x_tbl := x_in1 122 rfl rfl
theorem k_365 : (Cond.superclass "java/lang/IndexOutOfBoundsException" "java/lang/RuntimeException") ∈ x_tbl := x_in1 125 rfl rfl
theorem k_366 : (Cond.arrayClass Jvm.ClassFile.FieldType.byte) ∈ x_tbl := x_in1 126 rfl rfl
theorem k_367 : (Cond.methodLink "RedactCheck" (58 : Nat) ({ cls := "RedactCheck", name := "addSign", desc := "(LRedactCheck$SignRow;IIII)I" } : Jvm.MethodName)) ∈ x_tbl := x_in1 127 rfl rfl
theorem k_368 : (Cond.static ({ cls := "RedactCheck", name := "addSign", desc := "(LRedactCheck$SignRow;IIII)I" } : Jvm.MethodName)) ∈ x_tbl := x_in1 128 rfl rfl
theorem k_369 : (Cond.code ({ cls := "RedactCheck", name := "addSign", desc := "(LRedactCheck$SignRow;IIII)I" } : Jvm.MethodName) prog_1_method_25_code (5 : Nat) (Option.some Jvm.ClassFile.FieldType.int)) ∈ x_tbl := x_in1 129 rfl rfl
theorem k_370 : (Cond.methodLink "RedactCheck" (73 : Nat) ({ cls := "RedactCheck", name := "checkWithin", desc := "(III)V" } : Jvm.MethodName)) ∈ x_tbl := x_in1 130 rfl rfl
theorem k_371 : (Cond.static ({ cls := "RedactCheck", name := "checkWithin", desc := "(III)V" } : Jvm.MethodName)) ∈ x_tbl := x_in1 131 rfl rfl
theorem k_372 : (Cond.code ({ cls := "RedactCheck", name := "checkWithin", desc := "(III)V" } : Jvm.MethodName) prog_1_method_20_code (3 : Nat) (Option.none : Option Jvm.ClassFile.FieldType)) ∈ x_tbl := x_in1 132 rfl rfl
theorem k_373 : (Cond.classLink "RedactCheck" (89 : Nat) "java/lang/IllegalArgumentException") ∈ x_tbl := x_in1 133 rfl rfl
theorem k_374 : (Cond.instantiable "java/lang/IllegalArgumentException" (6 : Nat)) ∈ x_tbl := x_in1 134 rfl rfl
theorem k_375 : (Cond.castable "java/lang/IllegalArgumentException" "java/lang/IllegalArgumentException") ∈ x_tbl := x_in1 135 rfl rfl
theorem k_376 : (Cond.selects "java/lang/IllegalArgumentException" ({ cls := "java/lang/Throwable", name := "fillInStackTrace", desc := "(I)Ljava/lang/Throwable;" } : Jvm.MethodName) ({ cls := "java/lang/Throwable", name := "fillInStackTrace", desc := "(I)Ljava/lang/Throwable;" } : Jvm.MethodName)) ∈ x_tbl := x_in1 136 rfl rfl
theorem k_377 : (Cond.lays "java/lang/IllegalArgumentException" "java/lang/Throwable" "cause" "Ljava/lang/Throwable;") ∈ x_tbl := x_in1 137 rfl rfl
theorem k_378 : (Cond.lays "java/lang/IllegalArgumentException" "java/lang/Throwable" "stackTrace" "[Ljava/lang/StackTraceElement;") ∈ x_tbl := x_in1 138 rfl rfl
theorem k_379 : (Cond.lays "java/lang/IllegalArgumentException" "java/lang/Throwable" "suppressedExceptions" "Ljava/util/List;") ∈ x_tbl := x_in1 139 rfl rfl
theorem k_380 : (Cond.lays "java/lang/IllegalArgumentException" "java/lang/Throwable" "detailMessage" "Ljava/lang/String;") ∈ x_tbl := x_in1 140 rfl rfl
theorem k_381 : (Cond.lays "java/lang/IllegalArgumentException" "java/lang/Throwable" "backtrace" "Ljava/lang/Object;") ∈ x_tbl := x_in1 141 rfl rfl
theorem k_382 : (Cond.stringRef "RedactCheck" (179 : Nat) "a number is outside its bounds") ∈ x_tbl := x_in1 142 rfl rfl
theorem k_383 : (Cond.methodLink "RedactCheck" (93 : Nat) ({ cls := "java/lang/IllegalArgumentException", name := "<init>", desc := "(Ljava/lang/String;)V" } : Jvm.MethodName)) ∈ x_tbl := x_in1 143 rfl rfl
theorem k_384 : (Cond.instanceMethod ({ cls := "java/lang/IllegalArgumentException", name := "<init>", desc := "(Ljava/lang/String;)V" } : Jvm.MethodName)) ∈ x_tbl := x_in1 144 rfl rfl
theorem k_385 : (Cond.code ({ cls := "java/lang/IllegalArgumentException", name := "<init>", desc := "(Ljava/lang/String;)V" } : Jvm.MethodName) prog_15_method_2_code (2 : Nat) (Option.none : Option Jvm.ClassFile.FieldType)) ∈ x_tbl := x_in1 145 rfl rfl
theorem k_386 : (Cond.methodLink "java/lang/IllegalArgumentException" (7 : Nat) ({ cls := "java/lang/RuntimeException", name := "<init>", desc := "(Ljava/lang/String;)V" } : Jvm.MethodName)) ∈ x_tbl := x_in1 146 rfl rfl
theorem k_387 : (Cond.lays "java/lang/IllegalArgumentException" "java/lang/Throwable" "depth" "I") ∈ x_tbl := x_in1 147 rfl rfl
theorem k_388 : (Cond.superclass "java/lang/IllegalArgumentException" "java/lang/RuntimeException") ∈ x_tbl := x_in1 148 rfl rfl
theorem k_389 : (Cond.methodLink "RedactCheck" (66 : Nat) ({ cls := "RedactCheck", name := "checkRoom", desc := "(II)V" } : Jvm.MethodName)) ∈ x_tbl := x_in1 149 rfl rfl
theorem k_390 : (Cond.static ({ cls := "RedactCheck", name := "checkRoom", desc := "(II)V" } : Jvm.MethodName)) ∈ x_tbl := x_in1 150 rfl rfl
theorem k_391 : (Cond.code ({ cls := "RedactCheck", name := "checkRoom", desc := "(II)V" } : Jvm.MethodName) prog_1_method_21_code (2 : Nat) (Option.none : Option Jvm.ClassFile.FieldType)) ∈ x_tbl := x_in1 151 rfl rfl
theorem k_392 : (Cond.classLink "RedactCheck" (121 : Nat) "java/lang/UnsupportedOperationException") ∈ x_tbl := x_in1 152 rfl rfl
theorem k_393 : (Cond.instantiable "java/lang/UnsupportedOperationException" (6 : Nat)) ∈ x_tbl := x_in1 153 rfl rfl
theorem k_394 : (Cond.castable "java/lang/UnsupportedOperationException" "java/lang/UnsupportedOperationException") ∈ x_tbl := x_in1 154 rfl rfl
theorem k_395 : (Cond.selects "java/lang/UnsupportedOperationException" ({ cls := "java/lang/Throwable", name := "fillInStackTrace", desc := "(I)Ljava/lang/Throwable;" } : Jvm.MethodName) ({ cls := "java/lang/Throwable", name := "fillInStackTrace", desc := "(I)Ljava/lang/Throwable;" } : Jvm.MethodName)) ∈ x_tbl := x_in1 155 rfl rfl
theorem k_396 : (Cond.lays "java/lang/UnsupportedOperationException" "java/lang/Throwable" "cause" "Ljava/lang/Throwable;") ∈ x_tbl := x_in1 156 rfl rfl
theorem k_397 : (Cond.lays "java/lang/UnsupportedOperationException" "java/lang/Throwable" "stackTrace" "[Ljava/lang/StackTraceElement;") ∈ x_tbl := x_in1 157 rfl rfl
theorem k_398 : (Cond.lays "java/lang/UnsupportedOperationException" "java/lang/Throwable" "suppressedExceptions" "Ljava/util/List;") ∈ x_tbl := x_in1 158 rfl rfl
theorem k_399 : (Cond.lays "java/lang/UnsupportedOperationException" "java/lang/Throwable" "detailMessage" "Ljava/lang/String;") ∈ x_tbl := x_in1 159 rfl rfl
theorem k_400 : (Cond.lays "java/lang/UnsupportedOperationException" "java/lang/Throwable" "backtrace" "Ljava/lang/Object;") ∈ x_tbl := x_in1 160 rfl rfl
theorem k_401 : (Cond.stringRef "RedactCheck" (181 : Nat) "there may be no more") ∈ x_tbl := x_in1 161 rfl rfl
theorem k_402 : (Cond.methodLink "RedactCheck" (125 : Nat) ({ cls := "java/lang/UnsupportedOperationException", name := "<init>", desc := "(Ljava/lang/String;)V" } : Jvm.MethodName)) ∈ x_tbl := x_in1 162 rfl rfl
theorem k_403 : (Cond.instanceMethod ({ cls := "java/lang/UnsupportedOperationException", name := "<init>", desc := "(Ljava/lang/String;)V" } : Jvm.MethodName)) ∈ x_tbl := x_in1 163 rfl rfl
theorem k_404 : (Cond.code ({ cls := "java/lang/UnsupportedOperationException", name := "<init>", desc := "(Ljava/lang/String;)V" } : Jvm.MethodName) prog_24_method_2_code (2 : Nat) (Option.none : Option Jvm.ClassFile.FieldType)) ∈ x_tbl := x_in1 164 rfl rfl
theorem k_405 : (Cond.methodLink "java/lang/UnsupportedOperationException" (7 : Nat) ({ cls := "java/lang/RuntimeException", name := "<init>", desc := "(Ljava/lang/String;)V" } : Jvm.MethodName)) ∈ x_tbl := x_in1 165 rfl rfl
theorem k_406 : (Cond.lays "java/lang/UnsupportedOperationException" "java/lang/Throwable" "depth" "I") ∈ x_tbl := x_in1 166 rfl rfl
theorem k_407 : (Cond.superclass "java/lang/UnsupportedOperationException" "java/lang/RuntimeException") ∈ x_tbl := x_in1 167 rfl rfl
theorem k_408 : (Cond.methodLink "RedactCheck" (189 : Nat) ({ cls := "RedactCheck$SignRow", name := "add", desc := "(IIII)V" } : Jvm.MethodName)) ∈ x_tbl := x_in1 168 rfl rfl
theorem k_409 : (Cond.instanceMethod ({ cls := "RedactCheck$SignRow", name := "add", desc := "(IIII)V" } : Jvm.MethodName)) ∈ x_tbl := x_in1 169 rfl rfl
theorem k_410 : (Cond.selects "RedactCheck$SignRow" ({ cls := "RedactCheck$SignRow", name := "add", desc := "(IIII)V" } : Jvm.MethodName) ({ cls := "RedactCheck$SignRow", name := "add", desc := "(IIII)V" } : Jvm.MethodName)) ∈ x_tbl := x_in1 170 rfl rfl
theorem k_411 : (Cond.code ({ cls := "RedactCheck$SignRow", name := "add", desc := "(IIII)V" } : Jvm.MethodName) prog_6_method_2_code (5 : Nat) (Option.none : Option Jvm.ClassFile.FieldType)) ∈ x_tbl := x_in1 171 rfl rfl
theorem k_412 : (Cond.methodLink "RedactCheck$SignRow" (22 : Nat) ({ cls := "RedactCheck$SignRow", name := "put", desc := "(IIIII)V" } : Jvm.MethodName)) ∈ x_tbl := x_in1 172 rfl rfl
theorem k_414 : (Cond.instanceMethod ({ cls := "RedactCheck$SignRow", name := "put", desc := "(IIIII)V" } : Jvm.MethodName)) ∈ x_tbl := x_in1 174 rfl rfl
theorem k_415 : (Cond.code ({ cls := "RedactCheck$SignRow", name := "put", desc := "(IIIII)V" } : Jvm.MethodName) prog_6_method_8_code (7 : Nat) (Option.none : Option Jvm.ClassFile.FieldType)) ∈ x_tbl := x_in1 175 rfl rfl
theorem k_416 : (Cond.methodLink "RedactCheckLaw" (80 : Nat) ({ cls := "RedactCheckLaw", name := "form", desc := "(LRedactCheck;[J)I" } : Jvm.MethodName)) ∈ x_tbl := x_in1 176 rfl rfl
theorem k_417 : (Cond.static ({ cls := "RedactCheckLaw", name := "form", desc := "(LRedactCheck;[J)I" } : Jvm.MethodName)) ∈ x_tbl := x_in1 177 rfl rfl
theorem k_418 : (Cond.codeWith ({ cls := "RedactCheckLaw", name := "form", desc := "(LRedactCheck;[J)I" } : Jvm.MethodName) method_4_code (3 : Nat) (Option.some Jvm.ClassFile.FieldType.int) [((0 : Nat), (8 : Nat), (11 : Nat), (17 : Nat))]) ∈ x_tbl := x_in1 178 rfl rfl
theorem k_419 : (Cond.methodLink "RedactCheckLaw" (19 : Nat) ({ cls := "RedactCheck", name := "form", desc := "()I" } : Jvm.MethodName)) ∈ x_tbl := x_in1 179 rfl rfl
theorem k_420 : (Cond.instanceMethod ({ cls := "RedactCheck", name := "form", desc := "()I" } : Jvm.MethodName)) ∈ x_tbl := x_in1 180 rfl rfl
theorem k_421 : (Cond.selects "RedactCheck" ({ cls := "RedactCheck", name := "form", desc := "()I" } : Jvm.MethodName) ({ cls := "RedactCheck", name := "form", desc := "()I" } : Jvm.MethodName)) ∈ x_tbl := x_in1 181 rfl rfl
theorem k_422 : (Cond.code ({ cls := "RedactCheck", name := "form", desc := "()I" } : Jvm.MethodName) prog_1_method_3_code (1 : Nat) (Option.some Jvm.ClassFile.FieldType.int)) ∈ x_tbl := x_in1 182 rfl rfl
theorem k_423 : (Cond.methodLink "RedactCheckLaw" (84 : Nat) ({ cls := "RedactCheckLaw", name := "formSign", desc := "(LRedactCheck;IIIII[J)I" } : Jvm.MethodName)) ∈ x_tbl := x_in1 183 rfl rfl
theorem k_424 : (Cond.static ({ cls := "RedactCheckLaw", name := "formSign", desc := "(LRedactCheck;IIIII[J)I" } : Jvm.MethodName)) ∈ x_tbl := x_in1 184 rfl rfl
theorem k_425 : (Cond.codeWith ({ cls := "RedactCheckLaw", name := "formSign", desc := "(LRedactCheck;IIIII[J)I" } : Jvm.MethodName) method_5_code (8 : Nat) (Option.some Jvm.ClassFile.FieldType.int) [((0 : Nat), (16 : Nat), (19 : Nat), (13 : Nat)), ((0 : Nat), (16 : Nat), (23 : Nat), (15 : Nat)), ((0 : Nat), (16 : Nat), (27 : Nat), (17 : Nat))]) ∈ x_tbl := x_in1 185 rfl rfl
theorem k_426 : (Cond.methodLink "RedactCheckLaw" (23 : Nat) ({ cls := "RedactCheck", name := "formSign", desc := "(IIIII)I" } : Jvm.MethodName)) ∈ x_tbl := x_in1 186 rfl rfl
theorem k_427 : (Cond.instanceMethod ({ cls := "RedactCheck", name := "formSign", desc := "(IIIII)I" } : Jvm.MethodName)) ∈ x_tbl := x_in1 187 rfl rfl
theorem k_428 : (Cond.selects "RedactCheck" ({ cls := "RedactCheck", name := "formSign", desc := "(IIIII)I" } : Jvm.MethodName) ({ cls := "RedactCheck", name := "formSign", desc := "(IIIII)I" } : Jvm.MethodName)) ∈ x_tbl := x_in1 188 rfl rfl
theorem k_429 : (Cond.code ({ cls := "RedactCheck", name := "formSign", desc := "(IIIII)I" } : Jvm.MethodName) prog_1_method_4_code (6 : Nat) (Option.some Jvm.ClassFile.FieldType.int)) ∈ x_tbl := x_in1 189 rfl rfl
theorem k_430 : (Cond.methodLink "RedactCheckLaw" (87 : Nat) ({ cls := "RedactCheckLaw", name := "use", desc := "(LRedactCheck;IIII[J)I" } : Jvm.MethodName)) ∈ x_tbl := x_in1 190 rfl rfl
theorem k_431 : (Cond.static ({ cls := "RedactCheckLaw", name := "use", desc := "(LRedactCheck;IIII[J)I" } : Jvm.MethodName)) ∈ x_tbl := x_in1 191 rfl rfl
theorem k_432 : (Cond.codeWith ({ cls := "RedactCheckLaw", name := "use", desc := "(LRedactCheck;IIII[J)I" } : Jvm.MethodName) method_6_code (7 : Nat) (Option.some Jvm.ClassFile.FieldType.int) [((0 : Nat), (14 : Nat), (17 : Nat), (13 : Nat)), ((0 : Nat), (14 : Nat), (21 : Nat), (15 : Nat)), ((0 : Nat), (14 : Nat), (25 : Nat), (17 : Nat))]) ∈ x_tbl := x_in1 192 rfl rfl
theorem k_433 : (Cond.methodLink "RedactCheckLaw" (26 : Nat) ({ cls := "RedactCheck", name := "use", desc := "(IIII)I" } : Jvm.MethodName)) ∈ x_tbl := x_in1 193 rfl rfl
theorem k_434 : (Cond.instanceMethod ({ cls := "RedactCheck", name := "use", desc := "(IIII)I" } : Jvm.MethodName)) ∈ x_tbl := x_in1 194 rfl rfl
theorem k_435 : (Cond.selects "RedactCheck" ({ cls := "RedactCheck", name := "use", desc := "(IIII)I" } : Jvm.MethodName) ({ cls := "RedactCheck", name := "use", desc := "(IIII)I" } : Jvm.MethodName)) ∈ x_tbl := x_in1 195 rfl rfl
theorem k_436 : (Cond.code ({ cls := "RedactCheck", name := "use", desc := "(IIII)I" } : Jvm.MethodName) prog_1_method_5_code (6 : Nat) (Option.some Jvm.ClassFile.FieldType.int)) ∈ x_tbl := x_in1 196 rfl rfl
theorem k_437 : (Cond.methodLink "RedactCheck" (70 : Nat) ({ cls := "RedactCheck", name := "checkNumber", desc := "(II)V" } : Jvm.MethodName)) ∈ x_tbl := x_in1 197 rfl rfl
theorem k_438 : (Cond.static ({ cls := "RedactCheck", name := "checkNumber", desc := "(II)V" } : Jvm.MethodName)) ∈ x_tbl := x_in1 198 rfl rfl
theorem k_439 : (Cond.code ({ cls := "RedactCheck", name := "checkNumber", desc := "(II)V" } : Jvm.MethodName) prog_1_method_19_code (2 : Nat) (Option.none : Option Jvm.ClassFile.FieldType)) ∈ x_tbl := x_in1 199 rfl rfl
theorem k_440 : (Cond.stringRef "RedactCheck" (177 : Nat) "there is no such number") ∈ x_tbl := x_in1 200 rfl rfl
theorem k_441 : (Cond.instantiable "RedactCheck$Use" (6 : Nat)) ∈ x_tbl := x_in1 201 rfl rfl
theorem k_442 : (Cond.methodLink "RedactCheck" (79 : Nat) ({ cls := "RedactCheck$Use", name := "<init>", desc := "(ILRedactCheck$SignRow;II)V" } : Jvm.MethodName)) ∈ x_tbl := x_in1 202 rfl rfl
theorem k_443 : (Cond.instanceMethod ({ cls := "RedactCheck$Use", name := "<init>", desc := "(ILRedactCheck$SignRow;II)V" } : Jvm.MethodName)) ∈ x_tbl := x_in1 203 rfl rfl
theorem k_444 : (Cond.code ({ cls := "RedactCheck$Use", name := "<init>", desc := "(ILRedactCheck$SignRow;II)V" } : Jvm.MethodName) prog_8_method_1_code (5 : Nat) (Option.none : Option Jvm.ClassFile.FieldType)) ∈ x_tbl := x_in1 204 rfl rfl
theorem k_445 : (Cond.methodLink "RedactCheck$Use" (1 : Nat) ({ cls := "java/lang/Object", name := "<init>", desc := "()V" } : Jvm.MethodName)) ∈ x_tbl := x_in1 205 rfl rfl
theorem k_446 : (Cond.fieldLink "RedactCheck$Use" (7 : Nat) "RedactCheck$Use" "page" "I") ∈ x_tbl := x_in1 206 rfl rfl
theorem k_447 : (Cond.fieldLink "RedactCheck" (192 : Nat) "RedactCheck$Use" "page" "I") ∈ x_tbl := x_in1 207 rfl rfl
theorem k_448 : (Cond.fieldLink "RedactCheck$Use" (17 : Nat) "RedactCheck$Use" "dx" "I") ∈ x_tbl := x_in1 208 rfl rfl
theorem k_449 : (Cond.fieldLink "RedactCheck" (195 : Nat) "RedactCheck$Use" "dx" "I") ∈ x_tbl := x_in1 209 rfl rfl
theorem k_450 : (Cond.fieldLink "RedactCheck$Use" (20 : Nat) "RedactCheck$Use" "dy" "I") ∈ x_tbl := x_in1 210 rfl rfl
theorem k_451 : (Cond.fieldLink "RedactCheck" (198 : Nat) "RedactCheck$Use" "dy" "I") ∈ x_tbl := x_in1 211 rfl rfl
theorem k_452 : (Cond.fieldLink "RedactCheck$Use" (13 : Nat) "RedactCheck$Use" "form" "LRedactCheck$SignRow;") ∈ x_tbl := x_in1 212 rfl rfl
theorem k_453 : (Cond.fieldLink "RedactCheck" (149 : Nat) "RedactCheck$Use" "form" "LRedactCheck$SignRow;") ∈ x_tbl := x_in1 213 rfl rfl
theorem k_454 : (Cond.fieldLink "RedactCheck" (205 : Nat) "RedactCheck$Use" "marks" "J") ∈ x_tbl := x_in1 214 rfl rfl
theorem k_455 : (Cond.fieldLink "RedactCheck" (213 : Nat) "RedactCheck$Use" "twin" "LRedactCheck$Use;") ∈ x_tbl := x_in1 215 rfl rfl
theorem k_456 : (Cond.laysFinal "RedactCheck$Use" "RedactCheck$Use" "page" "I") ∈ x_tbl := x_in1 216 rfl rfl
theorem k_458 : (Cond.laysFinal "RedactCheck$Use" "RedactCheck$Use" "dx" "I") ∈ x_tbl := x_in1 218 rfl rfl
theorem k_460 : (Cond.laysFinal "RedactCheck$Use" "RedactCheck$Use" "dy" "I") ∈ x_tbl := x_in1 220 rfl rfl
theorem k_462 : (Cond.lays "RedactCheck$Use" "RedactCheck$Use" "form" "LRedactCheck$SignRow;") ∈ x_tbl := x_in1 222 rfl rfl
theorem k_464 : (Cond.lays "RedactCheck$Use" "RedactCheck$Use" "marks" "J") ∈ x_tbl := x_in1 224 rfl rfl
theorem k_466 : (Cond.lays "RedactCheck$Use" "RedactCheck$Use" "twin" "LRedactCheck$Use;") ∈ x_tbl := x_in1 226 rfl rfl
theorem k_468 : (Cond.superclass "RedactCheck$Use" "java/lang/Object") ∈ x_tbl := x_in1 228 rfl rfl
theorem k_469 : (Cond.methodLink "RedactCheckLaw" (91 : Nat) ({ cls := "RedactCheckLaw", name := "word", desc := "(LRedactCheck;[J)I" } : Jvm.MethodName)) ∈ x_tbl := x_in1 229 rfl rfl
theorem k_470 : (Cond.static ({ cls := "RedactCheckLaw", name := "word", desc := "(LRedactCheck;[J)I" } : Jvm.MethodName)) ∈ x_tbl := x_in1 230 rfl rfl
theorem k_471 : (Cond.codeWith ({ cls := "RedactCheckLaw", name := "word", desc := "(LRedactCheck;[J)I" } : Jvm.MethodName) method_7_code (3 : Nat) (Option.some Jvm.ClassFile.FieldType.int) [((0 : Nat), (8 : Nat), (11 : Nat), (17 : Nat))]) ∈ x_tbl := x_in1 231 rfl rfl
theorem k_472 : (Cond.methodLink "RedactCheckLaw" (30 : Nat) ({ cls := "RedactCheck", name := "word", desc := "()I" } : Jvm.MethodName)) ∈ x_tbl := x_in1 232 rfl rfl
theorem k_473 : (Cond.instanceMethod ({ cls := "RedactCheck", name := "word", desc := "()I" } : Jvm.MethodName)) ∈ x_tbl := x_in1 233 rfl rfl
theorem k_474 : (Cond.selects "RedactCheck" ({ cls := "RedactCheck", name := "word", desc := "()I" } : Jvm.MethodName) ({ cls := "RedactCheck", name := "word", desc := "()I" } : Jvm.MethodName)) ∈ x_tbl := x_in1 234 rfl rfl
theorem k_475 : (Cond.code ({ cls := "RedactCheck", name := "word", desc := "()I" } : Jvm.MethodName) prog_1_method_6_code (1 : Nat) (Option.some Jvm.ClassFile.FieldType.int)) ∈ x_tbl := x_in1 235 rfl rfl
theorem k_476 : (Cond.instantiable "RedactCheck$Word" (2 : Nat)) ∈ x_tbl := x_in1 236 rfl rfl
theorem k_477 : (Cond.methodLinkNest "RedactCheck" (84 : Nat) ({ cls := "RedactCheck$Word", name := "<init>", desc := "()V" } : Jvm.MethodName) "RedactCheck") ∈ x_tbl := x_in1 237 rfl rfl
theorem k_478 : (Cond.instanceMethod ({ cls := "RedactCheck$Word", name := "<init>", desc := "()V" } : Jvm.MethodName)) ∈ x_tbl := x_in1 238 rfl rfl
theorem k_479 : (Cond.code ({ cls := "RedactCheck$Word", name := "<init>", desc := "()V" } : Jvm.MethodName) prog_9_method_1_code (1 : Nat) (Option.none : Option Jvm.ClassFile.FieldType)) ∈ x_tbl := x_in1 239 rfl rfl
theorem k_480 : (Cond.methodLink "RedactCheck$Word" (3 : Nat) ({ cls := "java/lang/Object", name := "<init>", desc := "()V" } : Jvm.MethodName)) ∈ x_tbl := x_in2 0 rfl rfl
theorem k_481 : (Cond.fieldLink "RedactCheck$Word" (15 : Nat) "RedactCheck$Word" "count" "I") ∈ x_tbl := x_in2 1 rfl rfl
theorem k_482 : (Cond.fieldLink "RedactCheck" (96 : Nat) "RedactCheck$Word" "count" "I") ∈ x_tbl := x_in2 2 rfl rfl
theorem k_483 : (Cond.fieldLink "RedactCheck$Word" (9 : Nat) "RedactCheck$Word" "letters" "[I") ∈ x_tbl := x_in2 3 rfl rfl
theorem k_484 : (Cond.lays "RedactCheck$Word" "RedactCheck$Word" "count" "I") ∈ x_tbl := x_in2 4 rfl rfl
theorem k_486 : (Cond.laysFinal "RedactCheck$Word" "RedactCheck$Word" "letters" "[I") ∈ x_tbl := x_in2 6 rfl rfl
theorem k_488 : (Cond.superclass "RedactCheck$Word" "java/lang/Object") ∈ x_tbl := x_in2 8 rfl rfl
theorem k_489 : (Cond.methodLink "RedactCheckLaw" (94 : Nat) ({ cls := "RedactCheckLaw", name := "letter", desc := "(LRedactCheck;II[J)I" } : Jvm.MethodName)) ∈ x_tbl := x_in2 9 rfl rfl
theorem k_490 : (Cond.static ({ cls := "RedactCheckLaw", name := "letter", desc := "(LRedactCheck;II[J)I" } : Jvm.MethodName)) ∈ x_tbl := x_in2 10 rfl rfl
theorem k_491 : (Cond.codeWith ({ cls := "RedactCheckLaw", name := "letter", desc := "(LRedactCheck;II[J)I" } : Jvm.MethodName) method_8_code (5 : Nat) (Option.some Jvm.ClassFile.FieldType.int) [((0 : Nat), (10 : Nat), (13 : Nat), (13 : Nat)), ((0 : Nat), (10 : Nat), (17 : Nat), (15 : Nat)), ((0 : Nat), (10 : Nat), (21 : Nat), (17 : Nat))]) ∈ x_tbl := x_in2 11 rfl rfl
theorem k_492 : (Cond.methodLink "RedactCheckLaw" (33 : Nat) ({ cls := "RedactCheck", name := "letter", desc := "(II)I" } : Jvm.MethodName)) ∈ x_tbl := x_in2 12 rfl rfl
theorem k_493 : (Cond.instanceMethod ({ cls := "RedactCheck", name := "letter", desc := "(II)I" } : Jvm.MethodName)) ∈ x_tbl := x_in2 13 rfl rfl
theorem k_494 : (Cond.selects "RedactCheck" ({ cls := "RedactCheck", name := "letter", desc := "(II)I" } : Jvm.MethodName) ({ cls := "RedactCheck", name := "letter", desc := "(II)I" } : Jvm.MethodName)) ∈ x_tbl := x_in2 14 rfl rfl
theorem k_495 : (Cond.code ({ cls := "RedactCheck", name := "letter", desc := "(II)I" } : Jvm.MethodName) prog_1_method_7_code (4 : Nat) (Option.some Jvm.ClassFile.FieldType.int)) ∈ x_tbl := x_in2 15 rfl rfl
theorem k_496 : (Cond.methodLink "RedactCheck" (85 : Nat) ({ cls := "RedactCheck", name := "wordOf", desc := "(I)LRedactCheck$Word;" } : Jvm.MethodName)) ∈ x_tbl := x_in2 16 rfl rfl
theorem k_498 : (Cond.instanceMethod ({ cls := "RedactCheck", name := "wordOf", desc := "(I)LRedactCheck$Word;" } : Jvm.MethodName)) ∈ x_tbl := x_in2 18 rfl rfl
theorem k_499 : (Cond.code ({ cls := "RedactCheck", name := "wordOf", desc := "(I)LRedactCheck$Word;" } : Jvm.MethodName) prog_1_method_23_code (2 : Nat) (Option.some (Jvm.ClassFile.FieldType.object "RedactCheck$Word"))) ∈ x_tbl := x_in2 19 rfl rfl
theorem k_500 : (Cond.stringRef "RedactCheck" (185 : Nat) "there is no such word") ∈ x_tbl := x_in2 20 rfl rfl
theorem k_501 : (Cond.stringRef "RedactCheck" (91 : Nat) "42 stands for what went from a store") ∈ x_tbl := x_in2 21 rfl rfl
theorem k_502 : (Cond.methodLink "RedactCheck" (100 : Nat) ({ cls := "RedactCheck$Word", name := "add", desc := "(I)V" } : Jvm.MethodName)) ∈ x_tbl := x_in2 22 rfl rfl
theorem k_503 : (Cond.instanceMethod ({ cls := "RedactCheck$Word", name := "add", desc := "(I)V" } : Jvm.MethodName)) ∈ x_tbl := x_in2 23 rfl rfl
theorem k_504 : (Cond.selects "RedactCheck$Word" ({ cls := "RedactCheck$Word", name := "add", desc := "(I)V" } : Jvm.MethodName) ({ cls := "RedactCheck$Word", name := "add", desc := "(I)V" } : Jvm.MethodName)) ∈ x_tbl := x_in2 24 rfl rfl
theorem k_505 : (Cond.code ({ cls := "RedactCheck$Word", name := "add", desc := "(I)V" } : Jvm.MethodName) prog_9_method_2_code (2 : Nat) (Option.none : Option Jvm.ClassFile.FieldType)) ∈ x_tbl := x_in2 25 rfl rfl
theorem k_506 : (Cond.methodLink "RedactCheckLaw" (98 : Nat) ({ cls := "RedactCheckLaw", name := "area", desc := "(LRedactCheck;IIIII[J)I" } : Jvm.MethodName)) ∈ x_tbl := x_in2 26 rfl rfl
theorem k_507 : (Cond.static ({ cls := "RedactCheckLaw", name := "area", desc := "(LRedactCheck;IIIII[J)I" } : Jvm.MethodName)) ∈ x_tbl := x_in2 27 rfl rfl
theorem k_508 : (Cond.codeWith ({ cls := "RedactCheckLaw", name := "area", desc := "(LRedactCheck;IIIII[J)I" } : Jvm.MethodName) method_9_code (8 : Nat) (Option.some Jvm.ClassFile.FieldType.int) [((0 : Nat), (16 : Nat), (19 : Nat), (13 : Nat)), ((0 : Nat), (16 : Nat), (23 : Nat), (15 : Nat)), ((0 : Nat), (16 : Nat), (27 : Nat), (17 : Nat))]) ∈ x_tbl := x_in2 28 rfl rfl
theorem k_509 : (Cond.methodLink "RedactCheckLaw" (37 : Nat) ({ cls := "RedactCheck", name := "area", desc := "(IIIII)I" } : Jvm.MethodName)) ∈ x_tbl := x_in2 29 rfl rfl
theorem k_510 : (Cond.instanceMethod ({ cls := "RedactCheck", name := "area", desc := "(IIIII)I" } : Jvm.MethodName)) ∈ x_tbl := x_in2 30 rfl rfl
theorem k_511 : (Cond.selects "RedactCheck" ({ cls := "RedactCheck", name := "area", desc := "(IIIII)I" } : Jvm.MethodName) ({ cls := "RedactCheck", name := "area", desc := "(IIIII)I" } : Jvm.MethodName)) ∈ x_tbl := x_in2 31 rfl rfl
theorem k_512 : (Cond.code ({ cls := "RedactCheck", name := "area", desc := "(IIIII)I" } : Jvm.MethodName) prog_1_method_8_code (6 : Nat) (Option.some Jvm.ClassFile.FieldType.int)) ∈ x_tbl := x_in2 32 rfl rfl
theorem k_513 : (Cond.classLink "RedactCheck" (102 : Nat) "RedactCheck$Area") ∈ x_tbl := x_in2 33 rfl rfl
theorem k_514 : (Cond.instantiable "RedactCheck$Area" (5 : Nat)) ∈ x_tbl := x_in2 34 rfl rfl
theorem k_515 : (Cond.methodLink "RedactCheck" (104 : Nat) ({ cls := "RedactCheck$Area", name := "<init>", desc := "(IIIII)V" } : Jvm.MethodName)) ∈ x_tbl := x_in2 35 rfl rfl
theorem k_516 : (Cond.instanceMethod ({ cls := "RedactCheck$Area", name := "<init>", desc := "(IIIII)V" } : Jvm.MethodName)) ∈ x_tbl := x_in2 36 rfl rfl
theorem k_517 : (Cond.code ({ cls := "RedactCheck$Area", name := "<init>", desc := "(IIIII)V" } : Jvm.MethodName) prog_2_method_1_code (6 : Nat) (Option.none : Option Jvm.ClassFile.FieldType)) ∈ x_tbl := x_in2 37 rfl rfl
theorem k_518 : (Cond.methodLink "RedactCheck$Area" (3 : Nat) ({ cls := "java/lang/Object", name := "<init>", desc := "()V" } : Jvm.MethodName)) ∈ x_tbl := x_in2 38 rfl rfl
theorem k_519 : (Cond.fieldLink "RedactCheck$Area" (9 : Nat) "RedactCheck$Area" "page" "I") ∈ x_tbl := x_in2 39 rfl rfl
theorem k_520 : (Cond.fieldLink "RedactCheck" (256 : Nat) "RedactCheck$Area" "page" "I") ∈ x_tbl := x_in2 40 rfl rfl
theorem k_521 : (Cond.fieldLink "RedactCheck$Area" (15 : Nat) "RedactCheck$Area" "x" "I") ∈ x_tbl := x_in2 41 rfl rfl
theorem k_522 : (Cond.fieldLink "RedactCheck$Area" (18 : Nat) "RedactCheck$Area" "y" "I") ∈ x_tbl := x_in2 42 rfl rfl
theorem k_523 : (Cond.fieldLink "RedactCheck$Area" (21 : Nat) "RedactCheck$Area" "wide" "I") ∈ x_tbl := x_in2 43 rfl rfl
theorem k_524 : (Cond.fieldLink "RedactCheck$Area" (24 : Nat) "RedactCheck$Area" "high" "I") ∈ x_tbl := x_in2 44 rfl rfl
theorem k_525 : (Cond.laysFinal "RedactCheck$Area" "RedactCheck$Area" "page" "I") ∈ x_tbl := x_in2 45 rfl rfl
theorem k_527 : (Cond.laysFinal "RedactCheck$Area" "RedactCheck$Area" "x" "I") ∈ x_tbl := x_in2 47 rfl rfl
theorem k_529 : (Cond.laysFinal "RedactCheck$Area" "RedactCheck$Area" "y" "I") ∈ x_tbl := x_in2 49 rfl rfl
theorem k_531 : (Cond.laysFinal "RedactCheck$Area" "RedactCheck$Area" "wide" "I") ∈ x_tbl := x_in2 51 rfl rfl
theorem k_533 : (Cond.laysFinal "RedactCheck$Area" "RedactCheck$Area" "high" "I") ∈ x_tbl := x_in2 53 rfl rfl
theorem k_535 : (Cond.superclass "RedactCheck$Area" "java/lang/Object") ∈ x_tbl := x_in2 55 rfl rfl
theorem k_536 : (Cond.methodLink "RedactCheckLaw" (101 : Nat) ({ cls := "RedactCheckLaw", name := "store", desc := "(LRedactCheck;I[J)I" } : Jvm.MethodName)) ∈ x_tbl := x_in2 56 rfl rfl
theorem k_537 : (Cond.static ({ cls := "RedactCheckLaw", name := "store", desc := "(LRedactCheck;I[J)I" } : Jvm.MethodName)) ∈ x_tbl := x_in2 57 rfl rfl
theorem k_538 : (Cond.codeWith ({ cls := "RedactCheckLaw", name := "store", desc := "(LRedactCheck;I[J)I" } : Jvm.MethodName) method_10_code (4 : Nat) (Option.some Jvm.ClassFile.FieldType.int) [((0 : Nat), (9 : Nat), (12 : Nat), (15 : Nat)), ((0 : Nat), (9 : Nat), (15 : Nat), (17 : Nat))]) ∈ x_tbl := x_in2 58 rfl rfl
theorem k_539 : (Cond.methodLink "RedactCheckLaw" (40 : Nat) ({ cls := "RedactCheck", name := "store", desc := "(I)I" } : Jvm.MethodName)) ∈ x_tbl := x_in2 59 rfl rfl
theorem k_540 : (Cond.instanceMethod ({ cls := "RedactCheck", name := "store", desc := "(I)I" } : Jvm.MethodName)) ∈ x_tbl := x_in2 60 rfl rfl
theorem k_541 : (Cond.selects "RedactCheck" ({ cls := "RedactCheck", name := "store", desc := "(I)I" } : Jvm.MethodName) ({ cls := "RedactCheck", name := "store", desc := "(I)I" } : Jvm.MethodName)) ∈ x_tbl := x_in2 61 rfl rfl
theorem k_542 : (Cond.code ({ cls := "RedactCheck", name := "store", desc := "(I)I" } : Jvm.MethodName) prog_1_method_9_code (2 : Nat) (Option.some Jvm.ClassFile.FieldType.int)) ∈ x_tbl := x_in2 62 rfl rfl
theorem k_543 : (Cond.methodLink "RedactCheck" (109 : Nat) ({ cls := "RedactCheck$Store", name := "<init>", desc := "(I)V" } : Jvm.MethodName)) ∈ x_tbl := x_in2 63 rfl rfl
theorem k_544 : (Cond.instanceMethod ({ cls := "RedactCheck$Store", name := "<init>", desc := "(I)V" } : Jvm.MethodName)) ∈ x_tbl := x_in2 64 rfl rfl
theorem k_545 : (Cond.code ({ cls := "RedactCheck$Store", name := "<init>", desc := "(I)V" } : Jvm.MethodName) prog_7_method_1_code (2 : Nat) (Option.none : Option Jvm.ClassFile.FieldType)) ∈ x_tbl := x_in2 65 rfl rfl
theorem k_546 : (Cond.methodLink "RedactCheck$Store" (3 : Nat) ({ cls := "java/lang/Object", name := "<init>", desc := "()V" } : Jvm.MethodName)) ∈ x_tbl := x_in2 66 rfl rfl
theorem k_547 : (Cond.fieldLink "RedactCheck$Store" (15 : Nat) "RedactCheck$Store" "encoding" "I") ∈ x_tbl := x_in2 67 rfl rfl
theorem k_548 : (Cond.fieldLink "RedactCheck" (235 : Nat) "RedactCheck$Store" "encoding" "I") ∈ x_tbl := x_in2 68 rfl rfl
theorem k_549 : (Cond.fieldLink "RedactCheck$Store" (19 : Nat) "RedactCheck$Store" "count" "I") ∈ x_tbl := x_in2 69 rfl rfl
theorem k_550 : (Cond.fieldLink "RedactCheck" (114 : Nat) "RedactCheck$Store" "count" "I") ∈ x_tbl := x_in2 70 rfl rfl
theorem k_551 : (Cond.fieldLink "RedactCheck$Store" (9 : Nat) "RedactCheck$Store" "bytes" "[B") ∈ x_tbl := x_in2 71 rfl rfl
theorem k_552 : (Cond.laysFinal "RedactCheck$Store" "RedactCheck$Store" "encoding" "I") ∈ x_tbl := x_in2 72 rfl rfl
theorem k_554 : (Cond.lays "RedactCheck$Store" "RedactCheck$Store" "count" "I") ∈ x_tbl := x_in2 74 rfl rfl
theorem k_556 : (Cond.laysFinal "RedactCheck$Store" "RedactCheck$Store" "bytes" "[B") ∈ x_tbl := x_in2 76 rfl rfl
theorem k_558 : (Cond.superclass "RedactCheck$Store" "java/lang/Object") ∈ x_tbl := x_in2 78 rfl rfl
theorem k_559 : (Cond.methodLink "RedactCheckLaw" (105 : Nat) ({ cls := "RedactCheckLaw", name := "octet", desc := "(LRedactCheck;IB[J)I" } : Jvm.MethodName)) ∈ x_tbl := x_in2 79 rfl rfl
theorem k_560 : (Cond.static ({ cls := "RedactCheckLaw", name := "octet", desc := "(LRedactCheck;IB[J)I" } : Jvm.MethodName)) ∈ x_tbl := x_in2 80 rfl rfl
theorem k_561 : (Cond.codeWith ({ cls := "RedactCheckLaw", name := "octet", desc := "(LRedactCheck;IB[J)I" } : Jvm.MethodName) method_11_code (5 : Nat) (Option.some Jvm.ClassFile.FieldType.int) [((0 : Nat), (10 : Nat), (13 : Nat), (13 : Nat)), ((0 : Nat), (10 : Nat), (17 : Nat), (17 : Nat))]) ∈ x_tbl := x_in2 81 rfl rfl
theorem k_562 : (Cond.methodLink "RedactCheckLaw" (44 : Nat) ({ cls := "RedactCheck", name := "octet", desc := "(IB)I" } : Jvm.MethodName)) ∈ x_tbl := x_in2 82 rfl rfl
theorem k_563 : (Cond.instanceMethod ({ cls := "RedactCheck", name := "octet", desc := "(IB)I" } : Jvm.MethodName)) ∈ x_tbl := x_in2 83 rfl rfl
theorem k_564 : (Cond.selects "RedactCheck" ({ cls := "RedactCheck", name := "octet", desc := "(IB)I" } : Jvm.MethodName) ({ cls := "RedactCheck", name := "octet", desc := "(IB)I" } : Jvm.MethodName)) ∈ x_tbl := x_in2 84 rfl rfl
theorem k_565 : (Cond.code ({ cls := "RedactCheck", name := "octet", desc := "(IB)I" } : Jvm.MethodName) prog_1_method_10_code (4 : Nat) (Option.some Jvm.ClassFile.FieldType.int)) ∈ x_tbl := x_in2 85 rfl rfl
theorem k_566 : (Cond.methodLink "RedactCheck" (110 : Nat) ({ cls := "RedactCheck", name := "storeOf", desc := "(I)LRedactCheck$Store;" } : Jvm.MethodName)) ∈ x_tbl := x_in2 86 rfl rfl
theorem k_568 : (Cond.instanceMethod ({ cls := "RedactCheck", name := "storeOf", desc := "(I)LRedactCheck$Store;" } : Jvm.MethodName)) ∈ x_tbl := x_in2 88 rfl rfl
theorem k_569 : (Cond.code ({ cls := "RedactCheck", name := "storeOf", desc := "(I)LRedactCheck$Store;" } : Jvm.MethodName) prog_1_method_24_code (2 : Nat) (Option.some (Jvm.ClassFile.FieldType.object "RedactCheck$Store"))) ∈ x_tbl := x_in2 89 rfl rfl
theorem k_570 : (Cond.stringRef "RedactCheck" (187 : Nat) "there is no such store") ∈ x_tbl := x_in2 90 rfl rfl
theorem k_571 : (Cond.methodLink "RedactCheck" (115 : Nat) ({ cls := "RedactCheck$Store", name := "add", desc := "(B)V" } : Jvm.MethodName)) ∈ x_tbl := x_in2 91 rfl rfl
theorem k_572 : (Cond.instanceMethod ({ cls := "RedactCheck$Store", name := "add", desc := "(B)V" } : Jvm.MethodName)) ∈ x_tbl := x_in2 92 rfl rfl
theorem k_573 : (Cond.selects "RedactCheck$Store" ({ cls := "RedactCheck$Store", name := "add", desc := "(B)V" } : Jvm.MethodName) ({ cls := "RedactCheck$Store", name := "add", desc := "(B)V" } : Jvm.MethodName)) ∈ x_tbl := x_in2 93 rfl rfl
theorem k_574 : (Cond.code ({ cls := "RedactCheck$Store", name := "add", desc := "(B)V" } : Jvm.MethodName) prog_7_method_2_code (2 : Nat) (Option.none : Option Jvm.ClassFile.FieldType)) ∈ x_tbl := x_in2 94 rfl rfl
theorem k_575 : (Cond.methodLink "RedactCheckLaw" (109 : Nat) ({ cls := "RedactCheckLaw", name := "black", desc := "(LRedactCheck;[J)I" } : Jvm.MethodName)) ∈ x_tbl := x_in2 95 rfl rfl
theorem k_576 : (Cond.static ({ cls := "RedactCheckLaw", name := "black", desc := "(LRedactCheck;[J)I" } : Jvm.MethodName)) ∈ x_tbl := x_in2 96 rfl rfl
theorem k_577 : (Cond.codeWith ({ cls := "RedactCheckLaw", name := "black", desc := "(LRedactCheck;[J)I" } : Jvm.MethodName) method_12_code (3 : Nat) (Option.some Jvm.ClassFile.FieldType.int) [((0 : Nat), (8 : Nat), (11 : Nat), (17 : Nat))]) ∈ x_tbl := x_in2 97 rfl rfl
theorem k_578 : (Cond.methodLink "RedactCheckLaw" (48 : Nat) ({ cls := "RedactCheck", name := "black", desc := "()I" } : Jvm.MethodName)) ∈ x_tbl := x_in2 98 rfl rfl
theorem k_579 : (Cond.instanceMethod ({ cls := "RedactCheck", name := "black", desc := "()I" } : Jvm.MethodName)) ∈ x_tbl := x_in2 99 rfl rfl
theorem k_580 : (Cond.selects "RedactCheck" ({ cls := "RedactCheck", name := "black", desc := "()I" } : Jvm.MethodName) ({ cls := "RedactCheck", name := "black", desc := "()I" } : Jvm.MethodName)) ∈ x_tbl := x_in2 100 rfl rfl
theorem k_581 : (Cond.code ({ cls := "RedactCheck", name := "black", desc := "()I" } : Jvm.MethodName) prog_1_method_11_code (1 : Nat) (Option.some Jvm.ClassFile.FieldType.int)) ∈ x_tbl := x_in2 101 rfl rfl
theorem k_582 : (Cond.methodLink "RedactCheck" (118 : Nat) ({ cls := "RedactCheck", name := "markUses", desc := "()I" } : Jvm.MethodName)) ∈ x_tbl := x_in2 102 rfl rfl
theorem k_584 : (Cond.instanceMethod ({ cls := "RedactCheck", name := "markUses", desc := "()I" } : Jvm.MethodName)) ∈ x_tbl := x_in2 104 rfl rfl
theorem k_585 : (Cond.code ({ cls := "RedactCheck", name := "markUses", desc := "()I" } : Jvm.MethodName) prog_1_method_26_code (4 : Nat) (Option.some Jvm.ClassFile.FieldType.int)) ∈ x_tbl := x_in2 105 rfl rfl
theorem k_586 : (Cond.methodLink "RedactCheck" (201 : Nat) ({ cls := "RedactCheck", name := "marksOf", desc := "(LRedactCheck$SignRow;III)J" } : Jvm.MethodName)) ∈ x_tbl := x_in2 106 rfl rfl
theorem k_588 : (Cond.instanceMethod ({ cls := "RedactCheck", name := "marksOf", desc := "(LRedactCheck$SignRow;III)J" } : Jvm.MethodName)) ∈ x_tbl := x_in2 108 rfl rfl
theorem k_589 : (Cond.code ({ cls := "RedactCheck", name := "marksOf", desc := "(LRedactCheck$SignRow;III)J" } : Jvm.MethodName) prog_1_method_32_code (5 : Nat) (Option.some Jvm.ClassFile.FieldType.long)) ∈ x_tbl := x_in2 109 rfl rfl
theorem k_590 : (Cond.methodLink "RedactCheck" (241 : Nat) ({ cls := "RedactCheck", name := "marksOfWords", desc := "()J" } : Jvm.MethodName)) ∈ x_tbl := x_in2 110 rfl rfl
theorem k_592 : (Cond.instanceMethod ({ cls := "RedactCheck", name := "marksOfWords", desc := "()J" } : Jvm.MethodName)) ∈ x_tbl := x_in2 112 rfl rfl
theorem k_593 : (Cond.code ({ cls := "RedactCheck", name := "marksOfWords", desc := "()J" } : Jvm.MethodName) prog_1_method_35_code (6 : Nat) (Option.some Jvm.ClassFile.FieldType.long)) ∈ x_tbl := x_in2 113 rfl rfl
theorem k_594 : (Cond.methodLink "RedactCheck" (249 : Nat) ({ cls := "RedactCheck", name := "marksOfAreas", desc := "(LRedactCheck$SignRow;III)J" } : Jvm.MethodName)) ∈ x_tbl := x_in2 114 rfl rfl
theorem k_596 : (Cond.instanceMethod ({ cls := "RedactCheck", name := "marksOfAreas", desc := "(LRedactCheck$SignRow;III)J" } : Jvm.MethodName)) ∈ x_tbl := x_in2 116 rfl rfl
theorem k_597 : (Cond.code ({ cls := "RedactCheck", name := "marksOfAreas", desc := "(LRedactCheck$SignRow;III)J" } : Jvm.MethodName) prog_1_method_33_code (8 : Nat) (Option.some Jvm.ClassFile.FieldType.long)) ∈ x_tbl := x_in2 117 rfl rfl
theorem k_598 : (Cond.methodLink "RedactCheck" (162 : Nat) ({ cls := "RedactCheck$SignRow", name := "part", desc := "(II)I" } : Jvm.MethodName)) ∈ x_tbl := x_in2 118 rfl rfl
theorem k_599 : (Cond.methodLink "RedactCheck" (252 : Nat) ({ cls := "RedactCheck", name := "isInArea", desc := "(IIII)Z" } : Jvm.MethodName)) ∈ x_tbl := x_in2 119 rfl rfl
theorem k_601 : (Cond.instanceMethod ({ cls := "RedactCheck", name := "isInArea", desc := "(IIII)Z" } : Jvm.MethodName)) ∈ x_tbl := x_in2 121 rfl rfl
theorem k_602 : (Cond.code ({ cls := "RedactCheck", name := "isInArea", desc := "(IIII)Z" } : Jvm.MethodName) prog_1_method_34_code (7 : Nat) (Option.some Jvm.ClassFile.FieldType.boolean)) ∈ x_tbl := x_in2 122 rfl rfl
theorem k_603 : (Cond.methodLink "RedactCheck" (257 : Nat) ({ cls := "RedactCheck$Area", name := "touches", desc := "(III)Z" } : Jvm.MethodName)) ∈ x_tbl := x_in2 123 rfl rfl
theorem k_604 : (Cond.instanceMethod ({ cls := "RedactCheck$Area", name := "touches", desc := "(III)Z" } : Jvm.MethodName)) ∈ x_tbl := x_in2 124 rfl rfl
theorem k_605 : (Cond.selects "RedactCheck$Area" ({ cls := "RedactCheck$Area", name := "touches", desc := "(III)Z" } : Jvm.MethodName) ({ cls := "RedactCheck$Area", name := "touches", desc := "(III)Z" } : Jvm.MethodName)) ∈ x_tbl := x_in2 125 rfl rfl
theorem k_606 : (Cond.code ({ cls := "RedactCheck$Area", name := "touches", desc := "(III)Z" } : Jvm.MethodName) prog_2_method_2_code (4 : Nat) (Option.some Jvm.ClassFile.FieldType.boolean)) ∈ x_tbl := x_in2 126 rfl rfl
theorem k_607 : (Cond.methodLink "RedactCheck" (209 : Nat) ({ cls := "RedactCheck", name := "twinOf", desc := "(LRedactCheck$Use;I)LRedactCheck$Use;" } : Jvm.MethodName)) ∈ x_tbl := x_in2 127 rfl rfl
theorem k_609 : (Cond.instanceMethod ({ cls := "RedactCheck", name := "twinOf", desc := "(LRedactCheck$Use;I)LRedactCheck$Use;" } : Jvm.MethodName)) ∈ x_tbl := x_in2 129 rfl rfl
theorem k_610 : (Cond.code ({ cls := "RedactCheck", name := "twinOf", desc := "(LRedactCheck$Use;I)LRedactCheck$Use;" } : Jvm.MethodName) prog_1_method_27_code (5 : Nat) (Option.some (Jvm.ClassFile.FieldType.object "RedactCheck$Use"))) ∈ x_tbl := x_in2 130 rfl rfl
theorem k_611 : (Cond.stringRef "RedactCheck" (123 : Nat) "there would be too many forms") ∈ x_tbl := x_in2 131 rfl rfl
theorem k_612 : (Cond.methodLink "RedactCheck" (126 : Nat) ({ cls := "RedactCheck", name := "cutPages", desc := "()I" } : Jvm.MethodName)) ∈ x_tbl := x_in2 132 rfl rfl
theorem k_614 : (Cond.instanceMethod ({ cls := "RedactCheck", name := "cutPages", desc := "()I" } : Jvm.MethodName)) ∈ x_tbl := x_in2 134 rfl rfl
theorem k_615 : (Cond.code ({ cls := "RedactCheck", name := "cutPages", desc := "()I" } : Jvm.MethodName) prog_1_method_28_code (6 : Nat) (Option.some Jvm.ClassFile.FieldType.int)) ∈ x_tbl := x_in2 135 rfl rfl
theorem k_616 : (Cond.methodLink "RedactCheck" (217 : Nat) ({ cls := "RedactCheck$SignRow", name := "cut", desc := "(J)V" } : Jvm.MethodName)) ∈ x_tbl := x_in2 136 rfl rfl
theorem k_617 : (Cond.sameMethod "RedactCheck$SignRow" "RedactCheck$Row" "cut" "(J)V") ∈ x_tbl := x_in2 137 rfl rfl
theorem k_618 : (Cond.declares ({ cls := "RedactCheck$Row", name := "cut", desc := "(J)V" } : Jvm.MethodName)) ∈ x_tbl := x_in2 138 rfl rfl
theorem k_619 : (Cond.selects "RedactCheck$SignRow" ({ cls := "RedactCheck$SignRow", name := "cut", desc := "(J)V" } : Jvm.MethodName) ({ cls := "RedactCheck$Row", name := "cut", desc := "(J)V" } : Jvm.MethodName)) ∈ x_tbl := x_in2 139 rfl rfl
theorem k_620 : (Cond.instanceMethod ({ cls := "RedactCheck$Row", name := "cut", desc := "(J)V" } : Jvm.MethodName)) ∈ x_tbl := x_in2 140 rfl rfl
theorem k_621 : (Cond.code ({ cls := "RedactCheck$Row", name := "cut", desc := "(J)V" } : Jvm.MethodName) prog_5_method_4_code (7 : Nat) (Option.none : Option Jvm.ClassFile.FieldType)) ∈ x_tbl := x_in2 141 rfl rfl
theorem k_622 : (Cond.methodLink "RedactCheck$Row" (13 : Nat) ({ cls := "RedactCheck$Row", name := "keep", desc := "(II)V" } : Jvm.MethodName)) ∈ x_tbl := x_in2 142 rfl rfl
theorem k_623 : (Cond.declares ({ cls := "RedactCheck$Row", name := "keep", desc := "(II)V" } : Jvm.MethodName)) ∈ x_tbl := x_in2 143 rfl rfl
theorem k_624 : (Cond.sameMethod "RedactCheck$Row" "RedactCheck$Row" "keep" "(II)V") ∈ x_tbl := x_in2 144 rfl rfl
theorem k_625 : (Cond.selects "RedactCheck$Codes" ({ cls := "RedactCheck$Row", name := "keep", desc := "(II)V" } : Jvm.MethodName) ({ cls := "RedactCheck$Codes", name := "keep", desc := "(II)V" } : Jvm.MethodName)) ∈ x_tbl := x_in2 145 rfl rfl
theorem k_626 : (Cond.instanceMethod ({ cls := "RedactCheck$Codes", name := "keep", desc := "(II)V" } : Jvm.MethodName)) ∈ x_tbl := x_in2 146 rfl rfl
theorem k_627 : (Cond.code ({ cls := "RedactCheck$Codes", name := "keep", desc := "(II)V" } : Jvm.MethodName) prog_3_method_4_code (3 : Nat) (Option.none : Option Jvm.ClassFile.FieldType)) ∈ x_tbl := x_in2 147 rfl rfl
theorem k_628 : (Cond.methodLink "RedactCheck$Codes" (19 : Nat) ({ cls := "RedactCheck$Codes", name := "value", desc := "(I)I" } : Jvm.MethodName)) ∈ x_tbl := x_in2 148 rfl rfl
theorem k_629 : (Cond.methodLink "RedactCheck$Codes" (23 : Nat) ({ cls := "RedactCheck$Codes", name := "put", desc := "(II)V" } : Jvm.MethodName)) ∈ x_tbl := x_in2 149 rfl rfl
theorem k_631 : (Cond.instanceMethod ({ cls := "RedactCheck$Codes", name := "put", desc := "(II)V" } : Jvm.MethodName)) ∈ x_tbl := x_in2 151 rfl rfl
theorem k_632 : (Cond.code ({ cls := "RedactCheck$Codes", name := "put", desc := "(II)V" } : Jvm.MethodName) prog_3_method_6_code (3 : Nat) (Option.none : Option Jvm.ClassFile.FieldType)) ∈ x_tbl := x_in2 152 rfl rfl
theorem k_633 : (Cond.selects "RedactCheck$SignRow" ({ cls := "RedactCheck$Row", name := "keep", desc := "(II)V" } : Jvm.MethodName) ({ cls := "RedactCheck$SignRow", name := "keep", desc := "(II)V" } : Jvm.MethodName)) ∈ x_tbl := x_in2 153 rfl rfl
theorem k_634 : (Cond.instanceMethod ({ cls := "RedactCheck$SignRow", name := "keep", desc := "(II)V" } : Jvm.MethodName)) ∈ x_tbl := x_in2 154 rfl rfl
theorem k_635 : (Cond.code ({ cls := "RedactCheck$SignRow", name := "keep", desc := "(II)V" } : Jvm.MethodName) prog_6_method_6_code (3 : Nat) (Option.none : Option Jvm.ClassFile.FieldType)) ∈ x_tbl := x_in2 155 rfl rfl
theorem k_636 : (Cond.methodLink "RedactCheck$Row" (17 : Nat) ({ cls := "RedactCheck$Row", name := "blot", desc := "(II)V" } : Jvm.MethodName)) ∈ x_tbl := x_in2 156 rfl rfl
theorem k_637 : (Cond.declares ({ cls := "RedactCheck$Row", name := "blot", desc := "(II)V" } : Jvm.MethodName)) ∈ x_tbl := x_in2 157 rfl rfl
theorem k_638 : (Cond.sameMethod "RedactCheck$Row" "RedactCheck$Row" "blot" "(II)V") ∈ x_tbl := x_in2 158 rfl rfl
theorem k_639 : (Cond.selects "RedactCheck$Codes" ({ cls := "RedactCheck$Row", name := "blot", desc := "(II)V" } : Jvm.MethodName) ({ cls := "RedactCheck$Codes", name := "blot", desc := "(II)V" } : Jvm.MethodName)) ∈ x_tbl := x_in2 159 rfl rfl
theorem k_640 : (Cond.instanceMethod ({ cls := "RedactCheck$Codes", name := "blot", desc := "(II)V" } : Jvm.MethodName)) ∈ x_tbl := x_in2 160 rfl rfl
theorem k_641 : (Cond.code ({ cls := "RedactCheck$Codes", name := "blot", desc := "(II)V" } : Jvm.MethodName) prog_3_method_5_code (3 : Nat) (Option.none : Option Jvm.ClassFile.FieldType)) ∈ x_tbl := x_in2 161 rfl rfl
theorem k_642 : (Cond.selects "RedactCheck$SignRow" ({ cls := "RedactCheck$Row", name := "blot", desc := "(II)V" } : Jvm.MethodName) ({ cls := "RedactCheck$SignRow", name := "blot", desc := "(II)V" } : Jvm.MethodName)) ∈ x_tbl := x_in2 162 rfl rfl
theorem k_643 : (Cond.instanceMethod ({ cls := "RedactCheck$SignRow", name := "blot", desc := "(II)V" } : Jvm.MethodName)) ∈ x_tbl := x_in2 163 rfl rfl
theorem k_644 : (Cond.code ({ cls := "RedactCheck$SignRow", name := "blot", desc := "(II)V" } : Jvm.MethodName) prog_6_method_7_code (3 : Nat) (Option.none : Option Jvm.ClassFile.FieldType)) ∈ x_tbl := x_in2 164 rfl rfl
theorem k_645 : (Cond.methodLink "RedactCheck" (221 : Nat) ({ cls := "java/lang/Long", name := "bitCount", desc := "(J)I" } : Jvm.MethodName)) ∈ x_tbl := x_in2 165 rfl rfl
theorem k_646 : (Cond.static ({ cls := "java/lang/Long", name := "bitCount", desc := "(J)I" } : Jvm.MethodName)) ∈ x_tbl := x_in2 166 rfl rfl
theorem k_647 : (Cond.code ({ cls := "java/lang/Long", name := "bitCount", desc := "(J)I" } : Jvm.MethodName) prog_18_method_50_code (2 : Nat) (Option.some Jvm.ClassFile.FieldType.int)) ∈ x_tbl := x_in2 167 rfl rfl
theorem k_648 : (Cond.constantLong "java/lang/Long" (314 : Nat) (6148914691236517205 : Int64)) ∈ x_tbl := x_in2 168 rfl rfl
theorem k_649 : (Cond.constantLong "java/lang/Long" (316 : Nat) (3689348814741910323 : Int64)) ∈ x_tbl := x_in2 169 rfl rfl
theorem k_650 : (Cond.constantLong "java/lang/Long" (318 : Nat) (1085102592571150095 : Int64)) ∈ x_tbl := x_in2 170 rfl rfl
theorem k_651 : (Cond.methodLink "RedactCheck" (129 : Nat) ({ cls := "RedactCheck", name := "cutUses", desc := "()I" } : Jvm.MethodName)) ∈ x_tbl := x_in2 171 rfl rfl
theorem k_653 : (Cond.instanceMethod ({ cls := "RedactCheck", name := "cutUses", desc := "()I" } : Jvm.MethodName)) ∈ x_tbl := x_in2 173 rfl rfl
theorem k_654 : (Cond.code ({ cls := "RedactCheck", name := "cutUses", desc := "()I" } : Jvm.MethodName) prog_1_method_29_code (4 : Nat) (Option.some Jvm.ClassFile.FieldType.int)) ∈ x_tbl := x_in2 174 rfl rfl
theorem k_655 : (Cond.methodLink "RedactCheck" (227 : Nat) ({ cls := "RedactCheck", name := "addCutCopy", desc := "(LRedactCheck$SignRow;J)LRedactCheck$SignRow;" } : Jvm.MethodName)) ∈ x_tbl := x_in2 175 rfl rfl
theorem k_657 : (Cond.instanceMethod ({ cls := "RedactCheck", name := "addCutCopy", desc := "(LRedactCheck$SignRow;J)LRedactCheck$SignRow;" } : Jvm.MethodName)) ∈ x_tbl := x_in2 177 rfl rfl
theorem k_658 : (Cond.code ({ cls := "RedactCheck", name := "addCutCopy", desc := "(LRedactCheck$SignRow;J)LRedactCheck$SignRow;" } : Jvm.MethodName) prog_1_method_30_code (5 : Nat) (Option.some (Jvm.ClassFile.FieldType.object "RedactCheck$SignRow"))) ∈ x_tbl := x_in2 178 rfl rfl
theorem k_659 : (Cond.methodLink "RedactCheck" (231 : Nat) ({ cls := "RedactCheck$SignRow", name := "copyNumbered", desc := "(I)LRedactCheck$SignRow;" } : Jvm.MethodName)) ∈ x_tbl := x_in2 179 rfl rfl
theorem k_660 : (Cond.instanceMethod ({ cls := "RedactCheck$SignRow", name := "copyNumbered", desc := "(I)LRedactCheck$SignRow;" } : Jvm.MethodName)) ∈ x_tbl := x_in2 180 rfl rfl
theorem k_661 : (Cond.selects "RedactCheck$SignRow" ({ cls := "RedactCheck$SignRow", name := "copyNumbered", desc := "(I)LRedactCheck$SignRow;" } : Jvm.MethodName) ({ cls := "RedactCheck$SignRow", name := "copyNumbered", desc := "(I)LRedactCheck$SignRow;" } : Jvm.MethodName)) ∈ x_tbl := x_in2 181 rfl rfl
theorem k_662 : (Cond.code ({ cls := "RedactCheck$SignRow", name := "copyNumbered", desc := "(I)LRedactCheck$SignRow;" } : Jvm.MethodName) prog_6_method_5_code (4 : Nat) (Option.some (Jvm.ClassFile.FieldType.object "RedactCheck$SignRow"))) ∈ x_tbl := x_in2 182 rfl rfl
theorem k_663 : (Cond.classLink "RedactCheck$SignRow" (10 : Nat) "RedactCheck$SignRow") ∈ x_tbl := x_in2 183 rfl rfl
theorem k_664 : (Cond.methodLink "RedactCheck$SignRow" (37 : Nat) ({ cls := "RedactCheck$SignRow", name := "<init>", desc := "(I)V" } : Jvm.MethodName)) ∈ x_tbl := x_in2 184 rfl rfl
theorem k_665 : (Cond.methodLink "RedactCheck$SignRow" (39 : Nat) ({ cls := "RedactCheck$SignRow", name := "add", desc := "(IIII)V" } : Jvm.MethodName)) ∈ x_tbl := x_in2 185 rfl rfl
theorem k_666 : (Cond.methodLink "RedactCheck" (132 : Nat) ({ cls := "RedactCheck", name := "cutStores", desc := "()I" } : Jvm.MethodName)) ∈ x_tbl := x_in2 186 rfl rfl
theorem k_668 : (Cond.instanceMethod ({ cls := "RedactCheck", name := "cutStores", desc := "()I" } : Jvm.MethodName)) ∈ x_tbl := x_in2 188 rfl rfl
theorem k_669 : (Cond.code ({ cls := "RedactCheck", name := "cutStores", desc := "()I" } : Jvm.MethodName) prog_1_method_31_code (6 : Nat) (Option.some Jvm.ClassFile.FieldType.int)) ∈ x_tbl := x_in2 189 rfl rfl
theorem k_670 : (Cond.methodLink "RedactCheck" (245 : Nat) ({ cls := "RedactCheck$Codes", name := "cut", desc := "(J)V" } : Jvm.MethodName)) ∈ x_tbl := x_in2 190 rfl rfl
theorem k_671 : (Cond.sameMethod "RedactCheck$Codes" "RedactCheck$Row" "cut" "(J)V") ∈ x_tbl := x_in2 191 rfl rfl
theorem k_672 : (Cond.selects "RedactCheck$Codes" ({ cls := "RedactCheck$Codes", name := "cut", desc := "(J)V" } : Jvm.MethodName) ({ cls := "RedactCheck$Row", name := "cut", desc := "(J)V" } : Jvm.MethodName)) ∈ x_tbl := x_in2 192 rfl rfl
theorem k_673 : (Cond.methodLink "RedactCheck" (246 : Nat) ({ cls := "RedactCheck$Store", name := "write", desc := "(LRedactCheck$Codes;)V" } : Jvm.MethodName)) ∈ x_tbl := x_in2 193 rfl rfl
theorem k_674 : (Cond.instanceMethod ({ cls := "RedactCheck$Store", name := "write", desc := "(LRedactCheck$Codes;)V" } : Jvm.MethodName)) ∈ x_tbl := x_in2 194 rfl rfl
theorem k_675 : (Cond.selects "RedactCheck$Store" ({ cls := "RedactCheck$Store", name := "write", desc := "(LRedactCheck$Codes;)V" } : Jvm.MethodName) ({ cls := "RedactCheck$Store", name := "write", desc := "(LRedactCheck$Codes;)V" } : Jvm.MethodName)) ∈ x_tbl := x_in2 195 rfl rfl
theorem k_676 : (Cond.code ({ cls := "RedactCheck$Store", name := "write", desc := "(LRedactCheck$Codes;)V" } : Jvm.MethodName) prog_7_method_5_code (3 : Nat) (Option.none : Option Jvm.ClassFile.FieldType)) ∈ x_tbl := x_in2 196 rfl rfl
theorem k_677 : (Cond.methodLink "RedactCheck$Store" (37 : Nat) ({ cls := "RedactCheck$Codes", name := "value", desc := "(I)I" } : Jvm.MethodName)) ∈ x_tbl := x_in2 197 rfl rfl
theorem k_678 : (Cond.methodLink "RedactCheck$Store" (40 : Nat) ({ cls := "RedactCheck$Store", name := "writeCode", desc := "(I)V" } : Jvm.MethodName)) ∈ x_tbl := x_in2 198 rfl rfl
theorem k_680 : (Cond.instanceMethod ({ cls := "RedactCheck$Store", name := "writeCode", desc := "(I)V" } : Jvm.MethodName)) ∈ x_tbl := x_in2 200 rfl rfl
theorem k_681 : (Cond.code ({ cls := "RedactCheck$Store", name := "writeCode", desc := "(I)V" } : Jvm.MethodName) prog_7_method_6_code (2 : Nat) (Option.none : Option Jvm.ClassFile.FieldType)) ∈ x_tbl := x_in2 201 rfl rfl
theorem k_682 : (Cond.methodLink "RedactCheck$Store" (43 : Nat) ({ cls := "RedactCheck$Store", name := "add", desc := "(B)V" } : Jvm.MethodName)) ∈ x_tbl := x_in2 202 rfl rfl
theorem k_683 : (Cond.methodLink "RedactCheck$Store" (46 : Nat) ({ cls := "RedactCheck$Store", name := "digitOf", desc := "(I)B" } : Jvm.MethodName)) ∈ x_tbl := x_in2 203 rfl rfl
theorem k_684 : (Cond.static ({ cls := "RedactCheck$Store", name := "digitOf", desc := "(I)B" } : Jvm.MethodName)) ∈ x_tbl := x_in2 204 rfl rfl
theorem k_685 : (Cond.code ({ cls := "RedactCheck$Store", name := "digitOf", desc := "(I)B" } : Jvm.MethodName) prog_7_method_10_code (1 : Nat) (Option.some Jvm.ClassFile.FieldType.byte)) ∈ x_tbl := x_in2 205 rfl rfl
theorem k_686 : (Cond.methodLink "RedactCheckLaw" (116 : Nat) ({ cls := "RedactCheckLaw", name := "left", desc := "(LRedactCheck;II[J)I" } : Jvm.MethodName)) ∈ x_tbl := x_in2 206 rfl rfl
theorem k_687 : (Cond.static ({ cls := "RedactCheckLaw", name := "left", desc := "(LRedactCheck;II[J)I" } : Jvm.MethodName)) ∈ x_tbl := x_in2 207 rfl rfl
theorem k_688 : (Cond.codeWith ({ cls := "RedactCheckLaw", name := "left", desc := "(LRedactCheck;II[J)I" } : Jvm.MethodName) method_13_code (5 : Nat) (Option.some Jvm.ClassFile.FieldType.int) [((0 : Nat), (10 : Nat), (13 : Nat), (13 : Nat))]) ∈ x_tbl := x_in2 208 rfl rfl
theorem k_689 : (Cond.methodLink "RedactCheckLaw" (51 : Nat) ({ cls := "RedactCheck", name := "left", desc := "(II)I" } : Jvm.MethodName)) ∈ x_tbl := x_in2 209 rfl rfl
theorem k_690 : (Cond.instanceMethod ({ cls := "RedactCheck", name := "left", desc := "(II)I" } : Jvm.MethodName)) ∈ x_tbl := x_in2 210 rfl rfl
theorem k_691 : (Cond.selects "RedactCheck" ({ cls := "RedactCheck", name := "left", desc := "(II)I" } : Jvm.MethodName) ({ cls := "RedactCheck", name := "left", desc := "(II)I" } : Jvm.MethodName)) ∈ x_tbl := x_in2 211 rfl rfl
theorem k_692 : (Cond.code ({ cls := "RedactCheck", name := "left", desc := "(II)I" } : Jvm.MethodName) prog_1_method_13_code (3 : Nat) (Option.some Jvm.ClassFile.FieldType.int)) ∈ x_tbl := x_in2 212 rfl rfl
theorem k_693 : (Cond.methodLink "RedactCheck" (157 : Nat) ({ cls := "RedactCheck$Findings", name := "part", desc := "(II)I" } : Jvm.MethodName)) ∈ x_tbl := x_in2 213 rfl rfl
theorem k_694 : (Cond.instanceMethod ({ cls := "RedactCheck$Findings", name := "part", desc := "(II)I" } : Jvm.MethodName)) ∈ x_tbl := x_in2 214 rfl rfl
theorem k_695 : (Cond.selects "RedactCheck$Findings" ({ cls := "RedactCheck$Findings", name := "part", desc := "(II)I" } : Jvm.MethodName) ({ cls := "RedactCheck$Findings", name := "part", desc := "(II)I" } : Jvm.MethodName)) ∈ x_tbl := x_in2 215 rfl rfl
theorem k_696 : (Cond.code ({ cls := "RedactCheck$Findings", name := "part", desc := "(II)I" } : Jvm.MethodName) prog_4_method_4_code (3 : Nat) (Option.some Jvm.ClassFile.FieldType.int)) ∈ x_tbl := x_in2 216 rfl rfl
theorem k_697 : (Cond.methodLink "RedactCheckLaw" (119 : Nat) ({ cls := "RedactCheckLaw", name := "at", desc := "(LRedactCheck;IIII[J)I" } : Jvm.MethodName)) ∈ x_tbl := x_in2 217 rfl rfl
theorem k_698 : (Cond.static ({ cls := "RedactCheckLaw", name := "at", desc := "(LRedactCheck;IIII[J)I" } : Jvm.MethodName)) ∈ x_tbl := x_in2 218 rfl rfl
theorem k_699 : (Cond.codeWith ({ cls := "RedactCheckLaw", name := "at", desc := "(LRedactCheck;IIII[J)I" } : Jvm.MethodName) method_14_code (7 : Nat) (Option.some Jvm.ClassFile.FieldType.int) [((0 : Nat), (14 : Nat), (17 : Nat), (13 : Nat))]) ∈ x_tbl := x_in2 219 rfl rfl
theorem k_700 : (Cond.methodLink "RedactCheckLaw" (54 : Nat) ({ cls := "RedactCheck", name := "at", desc := "(IIII)I" } : Jvm.MethodName)) ∈ x_tbl := x_in2 220 rfl rfl
theorem k_701 : (Cond.instanceMethod ({ cls := "RedactCheck", name := "at", desc := "(IIII)I" } : Jvm.MethodName)) ∈ x_tbl := x_in2 221 rfl rfl
theorem k_702 : (Cond.selects "RedactCheck" ({ cls := "RedactCheck", name := "at", desc := "(IIII)I" } : Jvm.MethodName) ({ cls := "RedactCheck", name := "at", desc := "(IIII)I" } : Jvm.MethodName)) ∈ x_tbl := x_in2 222 rfl rfl
theorem k_703 : (Cond.code ({ cls := "RedactCheck", name := "at", desc := "(IIII)I" } : Jvm.MethodName) prog_1_method_14_code (6 : Nat) (Option.some Jvm.ClassFile.FieldType.int)) ∈ x_tbl := x_in2 223 rfl rfl
theorem k_704 : (Cond.methodLink "RedactCheckLaw" (122 : Nat) ({ cls := "RedactCheckLaw", name := "byteOf", desc := "(LRedactCheck;II[J)I" } : Jvm.MethodName)) ∈ x_tbl := x_in2 224 rfl rfl
theorem k_705 : (Cond.static ({ cls := "RedactCheckLaw", name := "byteOf", desc := "(LRedactCheck;II[J)I" } : Jvm.MethodName)) ∈ x_tbl := x_in2 225 rfl rfl
theorem k_706 : (Cond.codeWith ({ cls := "RedactCheckLaw", name := "byteOf", desc := "(LRedactCheck;II[J)I" } : Jvm.MethodName) method_15_code (5 : Nat) (Option.some Jvm.ClassFile.FieldType.int) [((0 : Nat), (10 : Nat), (13 : Nat), (13 : Nat))]) ∈ x_tbl := x_in2 226 rfl rfl
theorem k_707 : (Cond.methodLink "RedactCheckLaw" (57 : Nat) ({ cls := "RedactCheck", name := "byteOf", desc := "(II)B" } : Jvm.MethodName)) ∈ x_tbl := x_in2 227 rfl rfl
theorem k_708 : (Cond.instanceMethod ({ cls := "RedactCheck", name := "byteOf", desc := "(II)B" } : Jvm.MethodName)) ∈ x_tbl := x_in2 228 rfl rfl
theorem k_709 : (Cond.selects "RedactCheck" ({ cls := "RedactCheck", name := "byteOf", desc := "(II)B" } : Jvm.MethodName) ({ cls := "RedactCheck", name := "byteOf", desc := "(II)B" } : Jvm.MethodName)) ∈ x_tbl := x_in2 229 rfl rfl
theorem k_710 : (Cond.code ({ cls := "RedactCheck", name := "byteOf", desc := "(II)B" } : Jvm.MethodName) prog_1_method_15_code (4 : Nat) (Option.some Jvm.ClassFile.FieldType.byte)) ∈ x_tbl := x_in2 230 rfl rfl
theorem k_711 : (Cond.methodLink "RedactCheck" (163 : Nat) ({ cls := "RedactCheck$Store", name := "value", desc := "(I)B" } : Jvm.MethodName)) ∈ x_tbl := x_in2 231 rfl rfl
theorem k_712 : (Cond.methodLink "RedactCheckLaw" (125 : Nat) ({ cls := "RedactCheckLaw", name := "formOf", desc := "(LRedactCheck;I[J)I" } : Jvm.MethodName)) ∈ x_tbl := x_in2 232 rfl rfl
theorem k_713 : (Cond.static ({ cls := "RedactCheckLaw", name := "formOf", desc := "(LRedactCheck;I[J)I" } : Jvm.MethodName)) ∈ x_tbl := x_in2 233 rfl rfl
theorem k_714 : (Cond.codeWith ({ cls := "RedactCheckLaw", name := "formOf", desc := "(LRedactCheck;I[J)I" } : Jvm.MethodName) method_16_code (4 : Nat) (Option.some Jvm.ClassFile.FieldType.int) [((0 : Nat), (9 : Nat), (12 : Nat), (13 : Nat))]) ∈ x_tbl := x_in2 234 rfl rfl
theorem k_715 : (Cond.methodLink "RedactCheckLaw" (61 : Nat) ({ cls := "RedactCheck", name := "formOf", desc := "(I)I" } : Jvm.MethodName)) ∈ x_tbl := x_in2 235 rfl rfl
theorem k_716 : (Cond.instanceMethod ({ cls := "RedactCheck", name := "formOf", desc := "(I)I" } : Jvm.MethodName)) ∈ x_tbl := x_in2 236 rfl rfl
theorem k_717 : (Cond.selects "RedactCheck" ({ cls := "RedactCheck", name := "formOf", desc := "(I)I" } : Jvm.MethodName) ({ cls := "RedactCheck", name := "formOf", desc := "(I)I" } : Jvm.MethodName)) ∈ x_tbl := x_in2 237 rfl rfl
theorem k_718 : (Cond.code ({ cls := "RedactCheck", name := "formOf", desc := "(I)I" } : Jvm.MethodName) prog_1_method_16_code (2 : Nat) (Option.some Jvm.ClassFile.FieldType.int)) ∈ x_tbl := x_in2 238 rfl rfl
theorem k_719 : (Cond.stringRef "RedactCheck" (169 : Nat) "there is no such use") ∈ x_tbl := x_in2 239 rfl rfl
theorem k_720 : (Cond.methodLink "RedactCheckLaw" (128 : Nat) ({ cls := "RedactCheckLaw", name := "many", desc := "(LRedactCheck;II[J)I" } : Jvm.MethodName)) ∈ x_tbl := x_in3 0 rfl rfl
theorem k_721 : (Cond.static ({ cls := "RedactCheckLaw", name := "many", desc := "(LRedactCheck;II[J)I" } : Jvm.MethodName)) ∈ x_tbl := x_in3 1 rfl rfl
theorem k_722 : (Cond.codeWith ({ cls := "RedactCheckLaw", name := "many", desc := "(LRedactCheck;II[J)I" } : Jvm.MethodName) method_17_code (5 : Nat) (Option.some Jvm.ClassFile.FieldType.int) [((0 : Nat), (10 : Nat), (13 : Nat), (13 : Nat))]) ∈ x_tbl := x_in3 2 rfl rfl
theorem k_723 : (Cond.methodLink "RedactCheckLaw" (64 : Nat) ({ cls := "RedactCheck", name := "many", desc := "(II)I" } : Jvm.MethodName)) ∈ x_tbl := x_in3 3 rfl rfl
theorem k_724 : (Cond.instanceMethod ({ cls := "RedactCheck", name := "many", desc := "(II)I" } : Jvm.MethodName)) ∈ x_tbl := x_in3 4 rfl rfl
theorem k_725 : (Cond.selects "RedactCheck" ({ cls := "RedactCheck", name := "many", desc := "(II)I" } : Jvm.MethodName) ({ cls := "RedactCheck", name := "many", desc := "(II)I" } : Jvm.MethodName)) ∈ x_tbl := x_in3 5 rfl rfl
theorem k_726 : (Cond.code ({ cls := "RedactCheck", name := "many", desc := "(II)I" } : Jvm.MethodName) prog_1_method_17_code (3 : Nat) (Option.some Jvm.ClassFile.FieldType.int)) ∈ x_tbl := x_in3 6 rfl rfl
theorem k_727 : (Cond.stringRef "RedactCheck" (175 : Nat) "nothing of that kind is counted") ∈ x_tbl := x_in3 7 rfl rfl
theorem k_728 : (Cond.classLink "RedactCheckLaw" (68 : Nat) "RedactCheckModel") ∈ x_tbl := x_in3 8 rfl rfl
theorem k_729 : (Cond.instantiable "RedactCheckModel" (32 : Nat)) ∈ x_tbl := x_in3 9 rfl rfl
theorem k_730 : (Cond.methodLink "RedactCheckLaw" (70 : Nat) ({ cls := "RedactCheckModel", name := "<init>", desc := "()V" } : Jvm.MethodName)) ∈ x_tbl := x_in3 10 rfl rfl
theorem k_731 : (Cond.instanceMethod ({ cls := "RedactCheckModel", name := "<init>", desc := "()V" } : Jvm.MethodName)) ∈ x_tbl := x_in3 11 rfl rfl
theorem k_732 : (Cond.code ({ cls := "RedactCheckModel", name := "<init>", desc := "()V" } : Jvm.MethodName) prog_11_method_1_code (1 : Nat) (Option.none : Option Jvm.ClassFile.FieldType)) ∈ x_tbl := x_in3 12 rfl rfl
theorem k_733 : (Cond.methodLink "RedactCheckModel" (1 : Nat) ({ cls := "java/lang/Object", name := "<init>", desc := "()V" } : Jvm.MethodName)) ∈ x_tbl := x_in3 13 rfl rfl
theorem k_734 : (Cond.fieldLink "RedactCheckModel" (87 : Nat) "RedactCheckModel" "thrown" "I") ∈ x_tbl := x_in3 14 rfl rfl
theorem k_735 : (Cond.fieldLink "RedactCheckModel" (7 : Nat) "RedactCheckModel" "sizes" "[I") ∈ x_tbl := x_in3 15 rfl rfl
theorem k_736 : (Cond.fieldLink "RedactCheckModel" (13 : Nat) "RedactCheckModel" "codes" "[I") ∈ x_tbl := x_in3 16 rfl rfl
theorem k_737 : (Cond.fieldLink "RedactCheckModel" (16 : Nat) "RedactCheckModel" "xs" "[I") ∈ x_tbl := x_in3 17 rfl rfl
theorem k_738 : (Cond.fieldLink "RedactCheckModel" (19 : Nat) "RedactCheckModel" "ys" "[I") ∈ x_tbl := x_in3 18 rfl rfl
theorem k_739 : (Cond.fieldLink "RedactCheckModel" (22 : Nat) "RedactCheckModel" "widths" "[I") ∈ x_tbl := x_in3 19 rfl rfl
theorem k_740 : (Cond.fieldLink "RedactCheckModel" (83 : Nat) "RedactCheckModel" "forms" "I") ∈ x_tbl := x_in3 20 rfl rfl
theorem k_741 : (Cond.fieldLink "RedactCheckModel" (102 : Nat) "RedactCheckModel" "uses" "I") ∈ x_tbl := x_in3 21 rfl rfl
theorem k_742 : (Cond.fieldLink "RedactCheckModel" (25 : Nat) "RedactCheckModel" "usePage" "[I") ∈ x_tbl := x_in3 22 rfl rfl
theorem k_743 : (Cond.fieldLink "RedactCheckModel" (28 : Nat) "RedactCheckModel" "useForm" "[I") ∈ x_tbl := x_in3 23 rfl rfl
theorem k_744 : (Cond.fieldLink "RedactCheckModel" (31 : Nat) "RedactCheckModel" "useX" "[I") ∈ x_tbl := x_in3 24 rfl rfl
theorem k_745 : (Cond.fieldLink "RedactCheckModel" (34 : Nat) "RedactCheckModel" "useY" "[I") ∈ x_tbl := x_in3 25 rfl rfl
theorem k_746 : (Cond.fieldLink "RedactCheckModel" (105 : Nat) "RedactCheckModel" "words" "I") ∈ x_tbl := x_in3 26 rfl rfl
theorem k_747 : (Cond.fieldLink "RedactCheckModel" (37 : Nat) "RedactCheckModel" "wordSizes" "[I") ∈ x_tbl := x_in3 27 rfl rfl
theorem k_748 : (Cond.fieldLink "RedactCheckModel" (40 : Nat) "RedactCheckModel" "letters" "[I") ∈ x_tbl := x_in3 28 rfl rfl
theorem k_749 : (Cond.fieldLink "RedactCheckModel" (108 : Nat) "RedactCheckModel" "areas" "I") ∈ x_tbl := x_in3 29 rfl rfl
theorem k_750 : (Cond.fieldLink "RedactCheckModel" (43 : Nat) "RedactCheckModel" "areaPage" "[I") ∈ x_tbl := x_in3 30 rfl rfl
theorem k_751 : (Cond.fieldLink "RedactCheckModel" (46 : Nat) "RedactCheckModel" "areaX" "[I") ∈ x_tbl := x_in3 31 rfl rfl
theorem k_752 : (Cond.fieldLink "RedactCheckModel" (49 : Nat) "RedactCheckModel" "areaY" "[I") ∈ x_tbl := x_in3 32 rfl rfl
theorem k_753 : (Cond.fieldLink "RedactCheckModel" (52 : Nat) "RedactCheckModel" "areaWide" "[I") ∈ x_tbl := x_in3 33 rfl rfl
theorem k_754 : (Cond.fieldLink "RedactCheckModel" (55 : Nat) "RedactCheckModel" "areaHigh" "[I") ∈ x_tbl := x_in3 34 rfl rfl
theorem k_755 : (Cond.fieldLink "RedactCheckModel" (111 : Nat) "RedactCheckModel" "stores" "I") ∈ x_tbl := x_in3 35 rfl rfl
theorem k_756 : (Cond.fieldLink "RedactCheckModel" (58 : Nat) "RedactCheckModel" "encodings" "[I") ∈ x_tbl := x_in3 36 rfl rfl
theorem k_757 : (Cond.fieldLink "RedactCheckModel" (61 : Nat) "RedactCheckModel" "storeSizes" "[I") ∈ x_tbl := x_in3 37 rfl rfl
theorem k_758 : (Cond.fieldLink "RedactCheckModel" (64 : Nat) "RedactCheckModel" "bytes" "[I") ∈ x_tbl := x_in3 38 rfl rfl
theorem k_759 : (Cond.fieldLink "RedactCheckModel" (166 : Nat) "RedactCheckModel" "left" "I") ∈ x_tbl := x_in3 39 rfl rfl
theorem k_760 : (Cond.fieldLink "RedactCheckModel" (67 : Nat) "RedactCheckModel" "found" "[I") ∈ x_tbl := x_in3 40 rfl rfl
theorem k_761 : (Cond.fieldLink "RedactCheckModel" (70 : Nat) "RedactCheckModel" "marks" "[Z") ∈ x_tbl := x_in3 41 rfl rfl
theorem k_762 : (Cond.fieldLink "RedactCheckModel" (74 : Nat) "RedactCheckModel" "copyOf" "[I") ∈ x_tbl := x_in3 42 rfl rfl
theorem k_763 : (Cond.fieldLink "RedactCheckModel" (114 : Nat) "RedactCheckModel" "rowSize" "I") ∈ x_tbl := x_in3 43 rfl rfl
theorem k_764 : (Cond.fieldLink "RedactCheckModel" (77 : Nat) "RedactCheckModel" "row" "[I") ∈ x_tbl := x_in3 44 rfl rfl
theorem k_765 : (Cond.fieldLink "RedactCheckModel" (80 : Nat) "RedactCheckModel" "inWord" "[Z") ∈ x_tbl := x_in3 45 rfl rfl
theorem k_766 : (Cond.lays "RedactCheckModel" "RedactCheckModel" "thrown" "I") ∈ x_tbl := x_in3 46 rfl rfl
theorem k_768 : (Cond.laysFinal "RedactCheckModel" "RedactCheckModel" "sizes" "[I") ∈ x_tbl := x_in3 48 rfl rfl
theorem k_770 : (Cond.laysFinal "RedactCheckModel" "RedactCheckModel" "codes" "[I") ∈ x_tbl := x_in3 50 rfl rfl
theorem k_772 : (Cond.laysFinal "RedactCheckModel" "RedactCheckModel" "xs" "[I") ∈ x_tbl := x_in3 52 rfl rfl
theorem k_774 : (Cond.laysFinal "RedactCheckModel" "RedactCheckModel" "ys" "[I") ∈ x_tbl := x_in3 54 rfl rfl
theorem k_776 : (Cond.laysFinal "RedactCheckModel" "RedactCheckModel" "widths" "[I") ∈ x_tbl := x_in3 56 rfl rfl
theorem k_778 : (Cond.lays "RedactCheckModel" "RedactCheckModel" "forms" "I") ∈ x_tbl := x_in3 58 rfl rfl
theorem k_780 : (Cond.lays "RedactCheckModel" "RedactCheckModel" "uses" "I") ∈ x_tbl := x_in3 60 rfl rfl
theorem k_782 : (Cond.laysFinal "RedactCheckModel" "RedactCheckModel" "usePage" "[I") ∈ x_tbl := x_in3 62 rfl rfl
theorem k_784 : (Cond.laysFinal "RedactCheckModel" "RedactCheckModel" "useForm" "[I") ∈ x_tbl := x_in3 64 rfl rfl
theorem k_786 : (Cond.laysFinal "RedactCheckModel" "RedactCheckModel" "useX" "[I") ∈ x_tbl := x_in3 66 rfl rfl
theorem k_788 : (Cond.laysFinal "RedactCheckModel" "RedactCheckModel" "useY" "[I") ∈ x_tbl := x_in3 68 rfl rfl
theorem k_790 : (Cond.lays "RedactCheckModel" "RedactCheckModel" "words" "I") ∈ x_tbl := x_in3 70 rfl rfl
theorem k_792 : (Cond.laysFinal "RedactCheckModel" "RedactCheckModel" "wordSizes" "[I") ∈ x_tbl := x_in3 72 rfl rfl
theorem k_794 : (Cond.laysFinal "RedactCheckModel" "RedactCheckModel" "letters" "[I") ∈ x_tbl := x_in3 74 rfl rfl
theorem k_796 : (Cond.lays "RedactCheckModel" "RedactCheckModel" "areas" "I") ∈ x_tbl := x_in3 76 rfl rfl
theorem k_798 : (Cond.laysFinal "RedactCheckModel" "RedactCheckModel" "areaPage" "[I") ∈ x_tbl := x_in3 78 rfl rfl
theorem k_800 : (Cond.laysFinal "RedactCheckModel" "RedactCheckModel" "areaX" "[I") ∈ x_tbl := x_in3 80 rfl rfl
theorem k_802 : (Cond.laysFinal "RedactCheckModel" "RedactCheckModel" "areaY" "[I") ∈ x_tbl := x_in3 82 rfl rfl
theorem k_804 : (Cond.laysFinal "RedactCheckModel" "RedactCheckModel" "areaWide" "[I") ∈ x_tbl := x_in3 84 rfl rfl
theorem k_806 : (Cond.laysFinal "RedactCheckModel" "RedactCheckModel" "areaHigh" "[I") ∈ x_tbl := x_in3 86 rfl rfl
theorem k_808 : (Cond.lays "RedactCheckModel" "RedactCheckModel" "stores" "I") ∈ x_tbl := x_in3 88 rfl rfl
theorem k_810 : (Cond.laysFinal "RedactCheckModel" "RedactCheckModel" "encodings" "[I") ∈ x_tbl := x_in3 90 rfl rfl
theorem k_812 : (Cond.laysFinal "RedactCheckModel" "RedactCheckModel" "storeSizes" "[I") ∈ x_tbl := x_in3 92 rfl rfl
theorem k_814 : (Cond.laysFinal "RedactCheckModel" "RedactCheckModel" "bytes" "[I") ∈ x_tbl := x_in3 94 rfl rfl
theorem k_816 : (Cond.lays "RedactCheckModel" "RedactCheckModel" "left" "I") ∈ x_tbl := x_in3 96 rfl rfl
theorem k_818 : (Cond.laysFinal "RedactCheckModel" "RedactCheckModel" "found" "[I") ∈ x_tbl := x_in3 98 rfl rfl
theorem k_820 : (Cond.laysFinal "RedactCheckModel" "RedactCheckModel" "marks" "[Z") ∈ x_tbl := x_in3 100 rfl rfl
theorem k_822 : (Cond.laysFinal "RedactCheckModel" "RedactCheckModel" "copyOf" "[I") ∈ x_tbl := x_in3 102 rfl rfl
theorem k_824 : (Cond.lays "RedactCheckModel" "RedactCheckModel" "rowSize" "I") ∈ x_tbl := x_in3 104 rfl rfl
theorem k_826 : (Cond.laysFinal "RedactCheckModel" "RedactCheckModel" "row" "[I") ∈ x_tbl := x_in3 106 rfl rfl
theorem k_828 : (Cond.laysFinal "RedactCheckModel" "RedactCheckModel" "inWord" "[Z") ∈ x_tbl := x_in3 108 rfl rfl
theorem k_830 : (Cond.superclass "RedactCheckModel" "java/lang/Object") ∈ x_tbl := x_in3 110 rfl rfl
theorem k_831 : (Cond.arrayClass Jvm.ClassFile.FieldType.boolean) ∈ x_tbl := x_in3 111 rfl rfl
theorem k_832 : (Cond.methodLink "RedactCheckLaw" (77 : Nat) ({ cls := "RedactCheckModel", name := "thrown", desc := "()I" } : Jvm.MethodName)) ∈ x_tbl := x_in3 112 rfl rfl
theorem k_833 : (Cond.instanceMethod ({ cls := "RedactCheckModel", name := "thrown", desc := "()I" } : Jvm.MethodName)) ∈ x_tbl := x_in3 113 rfl rfl
theorem k_834 : (Cond.selects "RedactCheckModel" ({ cls := "RedactCheckModel", name := "thrown", desc := "()I" } : Jvm.MethodName) ({ cls := "RedactCheckModel", name := "thrown", desc := "()I" } : Jvm.MethodName)) ∈ x_tbl := x_in3 114 rfl rfl
theorem k_835 : (Cond.code ({ cls := "RedactCheckModel", name := "thrown", desc := "()I" } : Jvm.MethodName) prog_11_method_2_code (1 : Nat) (Option.some Jvm.ClassFile.FieldType.int)) ∈ x_tbl := x_in3 115 rfl rfl
theorem k_836 : (Cond.methodLink "RedactCheckLaw" (76 : Nat) ({ cls := "RedactCheckModel", name := "sign", desc := "(IIIII)I" } : Jvm.MethodName)) ∈ x_tbl := x_in3 116 rfl rfl
theorem k_837 : (Cond.instanceMethod ({ cls := "RedactCheckModel", name := "sign", desc := "(IIIII)I" } : Jvm.MethodName)) ∈ x_tbl := x_in3 117 rfl rfl
theorem k_838 : (Cond.selects "RedactCheckModel" ({ cls := "RedactCheckModel", name := "sign", desc := "(IIIII)I" } : Jvm.MethodName) ({ cls := "RedactCheckModel", name := "sign", desc := "(IIIII)I" } : Jvm.MethodName)) ∈ x_tbl := x_in3 118 rfl rfl
theorem k_839 : (Cond.code ({ cls := "RedactCheckModel", name := "sign", desc := "(IIIII)I" } : Jvm.MethodName) prog_11_method_6_code (6 : Nat) (Option.some Jvm.ClassFile.FieldType.int)) ∈ x_tbl := x_in3 119 rfl rfl
theorem k_840 : (Cond.methodLink "RedactCheckModel" (90 : Nat) ({ cls := "RedactCheckModel", name := "in", desc := "(III)Z" } : Jvm.MethodName)) ∈ x_tbl := x_in3 120 rfl rfl
theorem k_841 : (Cond.static ({ cls := "RedactCheckModel", name := "in", desc := "(III)Z" } : Jvm.MethodName)) ∈ x_tbl := x_in3 121 rfl rfl
theorem k_842 : (Cond.code ({ cls := "RedactCheckModel", name := "in", desc := "(III)Z" } : Jvm.MethodName) prog_11_method_3_code (3 : Nat) (Option.some Jvm.ClassFile.FieldType.boolean)) ∈ x_tbl := x_in3 122 rfl rfl
theorem k_843 : (Cond.methodLink "RedactCheckModel" (98 : Nat) ({ cls := "RedactCheckModel", name := "addSign", desc := "(IIIII)I" } : Jvm.MethodName)) ∈ x_tbl := x_in3 123 rfl rfl
theorem k_845 : (Cond.instanceMethod ({ cls := "RedactCheckModel", name := "addSign", desc := "(IIIII)I" } : Jvm.MethodName)) ∈ x_tbl := x_in3 125 rfl rfl
theorem k_846 : (Cond.code ({ cls := "RedactCheckModel", name := "addSign", desc := "(IIIII)I" } : Jvm.MethodName) prog_11_method_4_code (6 : Nat) (Option.some Jvm.ClassFile.FieldType.int)) ∈ x_tbl := x_in3 126 rfl rfl
theorem k_847 : (Cond.methodLink "RedactCheckModel" (94 : Nat) ({ cls := "RedactCheckModel", name := "lay", desc := "(IIIII)V" } : Jvm.MethodName)) ∈ x_tbl := x_in3 127 rfl rfl
theorem k_849 : (Cond.instanceMethod ({ cls := "RedactCheckModel", name := "lay", desc := "(IIIII)V" } : Jvm.MethodName)) ∈ x_tbl := x_in3 129 rfl rfl
theorem k_850 : (Cond.code ({ cls := "RedactCheckModel", name := "lay", desc := "(IIIII)V" } : Jvm.MethodName) prog_11_method_5_code (7 : Nat) (Option.none : Option Jvm.ClassFile.FieldType)) ∈ x_tbl := x_in3 130 rfl rfl
theorem k_851 : (Cond.methodLink "RedactCheckLaw" (83 : Nat) ({ cls := "RedactCheckModel", name := "form", desc := "()I" } : Jvm.MethodName)) ∈ x_tbl := x_in3 131 rfl rfl
theorem k_852 : (Cond.instanceMethod ({ cls := "RedactCheckModel", name := "form", desc := "()I" } : Jvm.MethodName)) ∈ x_tbl := x_in3 132 rfl rfl
theorem k_853 : (Cond.selects "RedactCheckModel" ({ cls := "RedactCheckModel", name := "form", desc := "()I" } : Jvm.MethodName) ({ cls := "RedactCheckModel", name := "form", desc := "()I" } : Jvm.MethodName)) ∈ x_tbl := x_in3 133 rfl rfl
theorem k_854 : (Cond.code ({ cls := "RedactCheckModel", name := "form", desc := "()I" } : Jvm.MethodName) prog_11_method_7_code (1 : Nat) (Option.some Jvm.ClassFile.FieldType.int)) ∈ x_tbl := x_in3 134 rfl rfl
theorem k_855 : (Cond.methodLink "RedactCheckLaw" (86 : Nat) ({ cls := "RedactCheckModel", name := "formSign", desc := "(IIIII)I" } : Jvm.MethodName)) ∈ x_tbl := x_in3 135 rfl rfl
theorem k_856 : (Cond.instanceMethod ({ cls := "RedactCheckModel", name := "formSign", desc := "(IIIII)I" } : Jvm.MethodName)) ∈ x_tbl := x_in3 136 rfl rfl
theorem k_857 : (Cond.selects "RedactCheckModel" ({ cls := "RedactCheckModel", name := "formSign", desc := "(IIIII)I" } : Jvm.MethodName) ({ cls := "RedactCheckModel", name := "formSign", desc := "(IIIII)I" } : Jvm.MethodName)) ∈ x_tbl := x_in3 137 rfl rfl
theorem k_858 : (Cond.code ({ cls := "RedactCheckModel", name := "formSign", desc := "(IIIII)I" } : Jvm.MethodName) prog_11_method_8_code (6 : Nat) (Option.some Jvm.ClassFile.FieldType.int)) ∈ x_tbl := x_in3 138 rfl rfl
theorem k_859 : (Cond.methodLink "RedactCheckLaw" (90 : Nat) ({ cls := "RedactCheckModel", name := "use", desc := "(IIII)I" } : Jvm.MethodName)) ∈ x_tbl := x_in3 139 rfl rfl
theorem k_860 : (Cond.instanceMethod ({ cls := "RedactCheckModel", name := "use", desc := "(IIII)I" } : Jvm.MethodName)) ∈ x_tbl := x_in3 140 rfl rfl
theorem k_861 : (Cond.selects "RedactCheckModel" ({ cls := "RedactCheckModel", name := "use", desc := "(IIII)I" } : Jvm.MethodName) ({ cls := "RedactCheckModel", name := "use", desc := "(IIII)I" } : Jvm.MethodName)) ∈ x_tbl := x_in3 141 rfl rfl
theorem k_862 : (Cond.code ({ cls := "RedactCheckModel", name := "use", desc := "(IIII)I" } : Jvm.MethodName) prog_11_method_9_code (5 : Nat) (Option.some Jvm.ClassFile.FieldType.int)) ∈ x_tbl := x_in3 142 rfl rfl
theorem k_863 : (Cond.methodLink "RedactCheckLaw" (93 : Nat) ({ cls := "RedactCheckModel", name := "word", desc := "()I" } : Jvm.MethodName)) ∈ x_tbl := x_in3 143 rfl rfl
theorem k_864 : (Cond.instanceMethod ({ cls := "RedactCheckModel", name := "word", desc := "()I" } : Jvm.MethodName)) ∈ x_tbl := x_in3 144 rfl rfl
theorem k_865 : (Cond.selects "RedactCheckModel" ({ cls := "RedactCheckModel", name := "word", desc := "()I" } : Jvm.MethodName) ({ cls := "RedactCheckModel", name := "word", desc := "()I" } : Jvm.MethodName)) ∈ x_tbl := x_in3 145 rfl rfl
theorem k_866 : (Cond.code ({ cls := "RedactCheckModel", name := "word", desc := "()I" } : Jvm.MethodName) prog_11_method_10_code (1 : Nat) (Option.some Jvm.ClassFile.FieldType.int)) ∈ x_tbl := x_in3 146 rfl rfl
theorem k_867 : (Cond.methodLink "RedactCheckLaw" (97 : Nat) ({ cls := "RedactCheckModel", name := "letter", desc := "(II)I" } : Jvm.MethodName)) ∈ x_tbl := x_in3 147 rfl rfl
theorem k_868 : (Cond.instanceMethod ({ cls := "RedactCheckModel", name := "letter", desc := "(II)I" } : Jvm.MethodName)) ∈ x_tbl := x_in3 148 rfl rfl
theorem k_869 : (Cond.selects "RedactCheckModel" ({ cls := "RedactCheckModel", name := "letter", desc := "(II)I" } : Jvm.MethodName) ({ cls := "RedactCheckModel", name := "letter", desc := "(II)I" } : Jvm.MethodName)) ∈ x_tbl := x_in3 149 rfl rfl
theorem k_870 : (Cond.code ({ cls := "RedactCheckModel", name := "letter", desc := "(II)I" } : Jvm.MethodName) prog_11_method_11_code (3 : Nat) (Option.some Jvm.ClassFile.FieldType.int)) ∈ x_tbl := x_in3 150 rfl rfl
theorem k_871 : (Cond.methodLink "RedactCheckLaw" (100 : Nat) ({ cls := "RedactCheckModel", name := "area", desc := "(IIIII)I" } : Jvm.MethodName)) ∈ x_tbl := x_in3 151 rfl rfl
theorem k_872 : (Cond.instanceMethod ({ cls := "RedactCheckModel", name := "area", desc := "(IIIII)I" } : Jvm.MethodName)) ∈ x_tbl := x_in3 152 rfl rfl
theorem k_873 : (Cond.selects "RedactCheckModel" ({ cls := "RedactCheckModel", name := "area", desc := "(IIIII)I" } : Jvm.MethodName) ({ cls := "RedactCheckModel", name := "area", desc := "(IIIII)I" } : Jvm.MethodName)) ∈ x_tbl := x_in3 153 rfl rfl
theorem k_874 : (Cond.code ({ cls := "RedactCheckModel", name := "area", desc := "(IIIII)I" } : Jvm.MethodName) prog_11_method_12_code (6 : Nat) (Option.some Jvm.ClassFile.FieldType.int)) ∈ x_tbl := x_in3 154 rfl rfl
theorem k_875 : (Cond.methodLink "RedactCheckLaw" (104 : Nat) ({ cls := "RedactCheckModel", name := "store", desc := "(I)I" } : Jvm.MethodName)) ∈ x_tbl := x_in3 155 rfl rfl
theorem k_876 : (Cond.instanceMethod ({ cls := "RedactCheckModel", name := "store", desc := "(I)I" } : Jvm.MethodName)) ∈ x_tbl := x_in3 156 rfl rfl
theorem k_877 : (Cond.selects "RedactCheckModel" ({ cls := "RedactCheckModel", name := "store", desc := "(I)I" } : Jvm.MethodName) ({ cls := "RedactCheckModel", name := "store", desc := "(I)I" } : Jvm.MethodName)) ∈ x_tbl := x_in3 157 rfl rfl
theorem k_878 : (Cond.code ({ cls := "RedactCheckModel", name := "store", desc := "(I)I" } : Jvm.MethodName) prog_11_method_13_code (2 : Nat) (Option.some Jvm.ClassFile.FieldType.int)) ∈ x_tbl := x_in3 158 rfl rfl
theorem k_879 : (Cond.methodLink "RedactCheckLaw" (108 : Nat) ({ cls := "RedactCheckModel", name := "octet", desc := "(IB)I" } : Jvm.MethodName)) ∈ x_tbl := x_in3 159 rfl rfl
theorem k_880 : (Cond.instanceMethod ({ cls := "RedactCheckModel", name := "octet", desc := "(IB)I" } : Jvm.MethodName)) ∈ x_tbl := x_in3 160 rfl rfl
theorem k_881 : (Cond.selects "RedactCheckModel" ({ cls := "RedactCheckModel", name := "octet", desc := "(IB)I" } : Jvm.MethodName) ({ cls := "RedactCheckModel", name := "octet", desc := "(IB)I" } : Jvm.MethodName)) ∈ x_tbl := x_in3 161 rfl rfl
theorem k_882 : (Cond.code ({ cls := "RedactCheckModel", name := "octet", desc := "(IB)I" } : Jvm.MethodName) prog_11_method_14_code (3 : Nat) (Option.some Jvm.ClassFile.FieldType.int)) ∈ x_tbl := x_in3 162 rfl rfl
theorem k_883 : (Cond.methodLink "RedactCheckLaw" (111 : Nat) ({ cls := "RedactCheckModel", name := "black", desc := "()I" } : Jvm.MethodName)) ∈ x_tbl := x_in3 163 rfl rfl
theorem k_884 : (Cond.instanceMethod ({ cls := "RedactCheckModel", name := "black", desc := "()I" } : Jvm.MethodName)) ∈ x_tbl := x_in3 164 rfl rfl
theorem k_885 : (Cond.selects "RedactCheckModel" ({ cls := "RedactCheckModel", name := "black", desc := "()I" } : Jvm.MethodName) ({ cls := "RedactCheckModel", name := "black", desc := "()I" } : Jvm.MethodName)) ∈ x_tbl := x_in3 165 rfl rfl
theorem k_886 : (Cond.code ({ cls := "RedactCheckModel", name := "black", desc := "()I" } : Jvm.MethodName) prog_11_method_29_code (5 : Nat) (Option.some Jvm.ClassFile.FieldType.int)) ∈ x_tbl := x_in3 166 rfl rfl
theorem k_887 : (Cond.methodLink "RedactCheckModel" (149 : Nat) ({ cls := "RedactCheckModel", name := "mark", desc := "(IIIII)I" } : Jvm.MethodName)) ∈ x_tbl := x_in3 167 rfl rfl
theorem k_889 : (Cond.instanceMethod ({ cls := "RedactCheckModel", name := "mark", desc := "(IIIII)I" } : Jvm.MethodName)) ∈ x_tbl := x_in3 169 rfl rfl
theorem k_890 : (Cond.code ({ cls := "RedactCheckModel", name := "mark", desc := "(IIIII)I" } : Jvm.MethodName) prog_11_method_21_code (8 : Nat) (Option.some Jvm.ClassFile.FieldType.int)) ∈ x_tbl := x_in3 170 rfl rfl
theorem k_891 : (Cond.methodLink "RedactCheckModel" (125 : Nat) ({ cls := "RedactCheckModel", name := "takeRow", desc := "(I)V" } : Jvm.MethodName)) ∈ x_tbl := x_in3 171 rfl rfl
theorem k_893 : (Cond.instanceMethod ({ cls := "RedactCheckModel", name := "takeRow", desc := "(I)V" } : Jvm.MethodName)) ∈ x_tbl := x_in3 173 rfl rfl
theorem k_894 : (Cond.code ({ cls := "RedactCheckModel", name := "takeRow", desc := "(I)V" } : Jvm.MethodName) prog_11_method_17_code (3 : Nat) (Option.none : Option Jvm.ClassFile.FieldType)) ∈ x_tbl := x_in3 174 rfl rfl
theorem k_895 : (Cond.methodLink "RedactCheckModel" (129 : Nat) ({ cls := "RedactCheckModel", name := "findWords", desc := "()V" } : Jvm.MethodName)) ∈ x_tbl := x_in3 175 rfl rfl
theorem k_897 : (Cond.instanceMethod ({ cls := "RedactCheckModel", name := "findWords", desc := "()V" } : Jvm.MethodName)) ∈ x_tbl := x_in3 177 rfl rfl
theorem k_898 : (Cond.code ({ cls := "RedactCheckModel", name := "findWords", desc := "()V" } : Jvm.MethodName) prog_11_method_16_code (4 : Nat) (Option.none : Option Jvm.ClassFile.FieldType)) ∈ x_tbl := x_in3 178 rfl rfl
theorem k_899 : (Cond.methodLink "RedactCheckModel" (117 : Nat) ({ cls := "RedactCheckModel", name := "stands", desc := "(II)Z" } : Jvm.MethodName)) ∈ x_tbl := x_in3 179 rfl rfl
theorem k_901 : (Cond.instanceMethod ({ cls := "RedactCheckModel", name := "stands", desc := "(II)Z" } : Jvm.MethodName)) ∈ x_tbl := x_in3 181 rfl rfl
theorem k_902 : (Cond.code ({ cls := "RedactCheckModel", name := "stands", desc := "(II)Z" } : Jvm.MethodName) prog_11_method_15_code (6 : Nat) (Option.some Jvm.ClassFile.FieldType.boolean)) ∈ x_tbl := x_in3 182 rfl rfl
theorem k_903 : (Cond.methodLink "RedactCheckModel" (132 : Nat) ({ cls := "RedactCheckModel", name := "meets", desc := "(IIII)Z" } : Jvm.MethodName)) ∈ x_tbl := x_in3 183 rfl rfl
theorem k_905 : (Cond.instanceMethod ({ cls := "RedactCheckModel", name := "meets", desc := "(IIII)Z" } : Jvm.MethodName)) ∈ x_tbl := x_in3 185 rfl rfl
theorem k_906 : (Cond.code ({ cls := "RedactCheckModel", name := "meets", desc := "(IIII)Z" } : Jvm.MethodName) prog_11_method_20_code (12 : Nat) (Option.some Jvm.ClassFile.FieldType.boolean)) ∈ x_tbl := x_in3 186 rfl rfl
theorem k_907 : (Cond.methodLink "RedactCheckModel" (136 : Nat) ({ cls := "RedactCheckModel", name := "markPlace", desc := "(I)I" } : Jvm.MethodName)) ∈ x_tbl := x_in3 187 rfl rfl
theorem k_908 : (Cond.static ({ cls := "RedactCheckModel", name := "markPlace", desc := "(I)I" } : Jvm.MethodName)) ∈ x_tbl := x_in3 188 rfl rfl
theorem k_909 : (Cond.code ({ cls := "RedactCheckModel", name := "markPlace", desc := "(I)I" } : Jvm.MethodName) prog_11_method_23_code (1 : Nat) (Option.some Jvm.ClassFile.FieldType.int)) ∈ x_tbl := x_in3 189 rfl rfl
theorem k_910 : (Cond.methodLink "RedactCheckModel" (152 : Nat) ({ cls := "RedactCheckModel", name := "hasMark", desc := "(I)Z" } : Jvm.MethodName)) ∈ x_tbl := x_in3 190 rfl rfl
theorem k_912 : (Cond.instanceMethod ({ cls := "RedactCheckModel", name := "hasMark", desc := "(I)Z" } : Jvm.MethodName)) ∈ x_tbl := x_in3 192 rfl rfl
theorem k_913 : (Cond.code ({ cls := "RedactCheckModel", name := "hasMark", desc := "(I)Z" } : Jvm.MethodName) prog_11_method_25_code (4 : Nat) (Option.some Jvm.ClassFile.FieldType.boolean)) ∈ x_tbl := x_in3 193 rfl rfl
theorem k_914 : (Cond.methodLink "RedactCheckModel" (156 : Nat) ({ cls := "RedactCheckModel", name := "areAlike", desc := "(II)Z" } : Jvm.MethodName)) ∈ x_tbl := x_in3 194 rfl rfl
theorem k_916 : (Cond.instanceMethod ({ cls := "RedactCheckModel", name := "areAlike", desc := "(II)Z" } : Jvm.MethodName)) ∈ x_tbl := x_in3 196 rfl rfl
theorem k_917 : (Cond.code ({ cls := "RedactCheckModel", name := "areAlike", desc := "(II)Z" } : Jvm.MethodName) prog_11_method_24_code (5 : Nat) (Option.some Jvm.ClassFile.FieldType.boolean)) ∈ x_tbl := x_in3 197 rfl rfl
theorem k_918 : (Cond.methodLink "RedactCheckModel" (159 : Nat) ({ cls := "RedactCheckModel", name := "cut", desc := "(III)V" } : Jvm.MethodName)) ∈ x_tbl := x_in3 198 rfl rfl
theorem k_920 : (Cond.instanceMethod ({ cls := "RedactCheckModel", name := "cut", desc := "(III)V" } : Jvm.MethodName)) ∈ x_tbl := x_in3 200 rfl rfl
theorem k_921 : (Cond.code ({ cls := "RedactCheckModel", name := "cut", desc := "(III)V" } : Jvm.MethodName) prog_11_method_22_code (8 : Nat) (Option.none : Option Jvm.ClassFile.FieldType)) ∈ x_tbl := x_in3 201 rfl rfl
theorem k_922 : (Cond.methodLink "RedactCheckModel" (163 : Nat) ({ cls := "RedactCheckModel", name := "cutStore", desc := "(I)I" } : Jvm.MethodName)) ∈ x_tbl := x_in3 202 rfl rfl
theorem k_924 : (Cond.instanceMethod ({ cls := "RedactCheckModel", name := "cutStore", desc := "(I)I" } : Jvm.MethodName)) ∈ x_tbl := x_in3 204 rfl rfl
theorem k_925 : (Cond.code ({ cls := "RedactCheckModel", name := "cutStore", desc := "(I)I" } : Jvm.MethodName) prog_11_method_28_code (5 : Nat) (Option.some Jvm.ClassFile.FieldType.int)) ∈ x_tbl := x_in3 205 rfl rfl
theorem k_926 : (Cond.methodLink "RedactCheckModel" (142 : Nat) ({ cls := "RedactCheckModel", name := "takeStore", desc := "(II)Z" } : Jvm.MethodName)) ∈ x_tbl := x_in3 206 rfl rfl
theorem k_928 : (Cond.instanceMethod ({ cls := "RedactCheckModel", name := "takeStore", desc := "(II)Z" } : Jvm.MethodName)) ∈ x_tbl := x_in3 208 rfl rfl
theorem k_929 : (Cond.code ({ cls := "RedactCheckModel", name := "takeStore", desc := "(II)Z" } : Jvm.MethodName) prog_11_method_19_code (9 : Nat) (Option.some Jvm.ClassFile.FieldType.boolean)) ∈ x_tbl := x_in3 209 rfl rfl
theorem k_930 : (Cond.methodLink "RedactCheckModel" (121 : Nat) ({ cls := "RedactCheckModel", name := "digit", desc := "(I)I" } : Jvm.MethodName)) ∈ x_tbl := x_in3 210 rfl rfl
theorem k_931 : (Cond.static ({ cls := "RedactCheckModel", name := "digit", desc := "(I)I" } : Jvm.MethodName)) ∈ x_tbl := x_in3 211 rfl rfl
theorem k_932 : (Cond.code ({ cls := "RedactCheckModel", name := "digit", desc := "(I)I" } : Jvm.MethodName) prog_11_method_18_code (1 : Nat) (Option.some Jvm.ClassFile.FieldType.int)) ∈ x_tbl := x_in3 212 rfl rfl
theorem k_933 : (Cond.methodLink "RedactCheckModel" (145 : Nat) ({ cls := "RedactCheckModel", name := "write", desc := "(II)V" } : Jvm.MethodName)) ∈ x_tbl := x_in3 213 rfl rfl
theorem k_935 : (Cond.instanceMethod ({ cls := "RedactCheckModel", name := "write", desc := "(II)V" } : Jvm.MethodName)) ∈ x_tbl := x_in3 215 rfl rfl
theorem k_936 : (Cond.code ({ cls := "RedactCheckModel", name := "write", desc := "(II)V" } : Jvm.MethodName) prog_11_method_27_code (5 : Nat) (Option.none : Option Jvm.ClassFile.FieldType)) ∈ x_tbl := x_in3 216 rfl rfl
theorem k_937 : (Cond.methodLink "RedactCheckModel" (139 : Nat) ({ cls := "RedactCheckModel", name := "hex", desc := "(I)I" } : Jvm.MethodName)) ∈ x_tbl := x_in3 217 rfl rfl
theorem k_938 : (Cond.static ({ cls := "RedactCheckModel", name := "hex", desc := "(I)I" } : Jvm.MethodName)) ∈ x_tbl := x_in3 218 rfl rfl
theorem k_939 : (Cond.code ({ cls := "RedactCheckModel", name := "hex", desc := "(I)I" } : Jvm.MethodName) prog_11_method_26_code (1 : Nat) (Option.some Jvm.ClassFile.FieldType.int)) ∈ x_tbl := x_in3 219 rfl rfl
theorem k_940 : (Cond.methodLink "RedactCheckLaw" (115 : Nat) ({ cls := "RedactCheckModel", name := "look", desc := "()I" } : Jvm.MethodName)) ∈ x_tbl := x_in3 220 rfl rfl
theorem k_941 : (Cond.instanceMethod ({ cls := "RedactCheckModel", name := "look", desc := "()I" } : Jvm.MethodName)) ∈ x_tbl := x_in3 221 rfl rfl
theorem k_942 : (Cond.selects "RedactCheckModel" ({ cls := "RedactCheckModel", name := "look", desc := "()I" } : Jvm.MethodName) ({ cls := "RedactCheckModel", name := "look", desc := "()I" } : Jvm.MethodName)) ∈ x_tbl := x_in3 222 rfl rfl
theorem k_943 : (Cond.code ({ cls := "RedactCheckModel", name := "look", desc := "()I" } : Jvm.MethodName) prog_11_method_31_code (3 : Nat) (Option.some Jvm.ClassFile.FieldType.int)) ∈ x_tbl := x_in3 223 rfl rfl
theorem k_944 : (Cond.methodLink "RedactCheckModel" (169 : Nat) ({ cls := "RedactCheckModel", name := "note", desc := "(III)V" } : Jvm.MethodName)) ∈ x_tbl := x_in3 224 rfl rfl
theorem k_946 : (Cond.instanceMethod ({ cls := "RedactCheckModel", name := "note", desc := "(III)V" } : Jvm.MethodName)) ∈ x_tbl := x_in3 226 rfl rfl
theorem k_947 : (Cond.code ({ cls := "RedactCheckModel", name := "note", desc := "(III)V" } : Jvm.MethodName) prog_11_method_30_code (6 : Nat) (Option.none : Option Jvm.ClassFile.FieldType)) ∈ x_tbl := x_in3 227 rfl rfl
theorem k_948 : (Cond.methodLink "RedactCheckLaw" (118 : Nat) ({ cls := "RedactCheckModel", name := "left", desc := "(II)I" } : Jvm.MethodName)) ∈ x_tbl := x_in3 228 rfl rfl
theorem k_949 : (Cond.instanceMethod ({ cls := "RedactCheckModel", name := "left", desc := "(II)I" } : Jvm.MethodName)) ∈ x_tbl := x_in3 229 rfl rfl
theorem k_950 : (Cond.selects "RedactCheckModel" ({ cls := "RedactCheckModel", name := "left", desc := "(II)I" } : Jvm.MethodName) ({ cls := "RedactCheckModel", name := "left", desc := "(II)I" } : Jvm.MethodName)) ∈ x_tbl := x_in3 230 rfl rfl
theorem k_951 : (Cond.code ({ cls := "RedactCheckModel", name := "left", desc := "(II)I" } : Jvm.MethodName) prog_11_method_32_code (3 : Nat) (Option.some Jvm.ClassFile.FieldType.int)) ∈ x_tbl := x_in3 231 rfl rfl
theorem k_952 : (Cond.methodLink "RedactCheckLaw" (121 : Nat) ({ cls := "RedactCheckModel", name := "at", desc := "(IIII)I" } : Jvm.MethodName)) ∈ x_tbl := x_in3 232 rfl rfl
theorem k_953 : (Cond.instanceMethod ({ cls := "RedactCheckModel", name := "at", desc := "(IIII)I" } : Jvm.MethodName)) ∈ x_tbl := x_in3 233 rfl rfl
theorem k_954 : (Cond.selects "RedactCheckModel" ({ cls := "RedactCheckModel", name := "at", desc := "(IIII)I" } : Jvm.MethodName) ({ cls := "RedactCheckModel", name := "at", desc := "(IIII)I" } : Jvm.MethodName)) ∈ x_tbl := x_in3 234 rfl rfl
theorem k_955 : (Cond.code ({ cls := "RedactCheckModel", name := "at", desc := "(IIII)I" } : Jvm.MethodName) prog_11_method_33_code (8 : Nat) (Option.some Jvm.ClassFile.FieldType.int)) ∈ x_tbl := x_in3 235 rfl rfl
theorem k_956 : (Cond.methodLink "RedactCheckLaw" (124 : Nat) ({ cls := "RedactCheckModel", name := "byteOf", desc := "(II)B" } : Jvm.MethodName)) ∈ x_tbl := x_in3 236 rfl rfl
theorem k_957 : (Cond.instanceMethod ({ cls := "RedactCheckModel", name := "byteOf", desc := "(II)B" } : Jvm.MethodName)) ∈ x_tbl := x_in3 237 rfl rfl
theorem k_958 : (Cond.selects "RedactCheckModel" ({ cls := "RedactCheckModel", name := "byteOf", desc := "(II)B" } : Jvm.MethodName) ({ cls := "RedactCheckModel", name := "byteOf", desc := "(II)B" } : Jvm.MethodName)) ∈ x_tbl := x_in3 238 rfl rfl
theorem k_959 : (Cond.code ({ cls := "RedactCheckModel", name := "byteOf", desc := "(II)B" } : Jvm.MethodName) prog_11_method_34_code (3 : Nat) (Option.some Jvm.ClassFile.FieldType.byte)) ∈ x_tbl := x_in3 239 rfl rfl
theorem k_960 : (Cond.methodLink "RedactCheckLaw" (127 : Nat) ({ cls := "RedactCheckModel", name := "formOf", desc := "(I)I" } : Jvm.MethodName)) ∈ x_tbl := x_in4 0 rfl rfl
theorem k_961 : (Cond.instanceMethod ({ cls := "RedactCheckModel", name := "formOf", desc := "(I)I" } : Jvm.MethodName)) ∈ x_tbl := x_in4 1 rfl rfl
theorem k_962 : (Cond.selects "RedactCheckModel" ({ cls := "RedactCheckModel", name := "formOf", desc := "(I)I" } : Jvm.MethodName) ({ cls := "RedactCheckModel", name := "formOf", desc := "(I)I" } : Jvm.MethodName)) ∈ x_tbl := x_in4 2 rfl rfl
theorem k_963 : (Cond.code ({ cls := "RedactCheckModel", name := "formOf", desc := "(I)I" } : Jvm.MethodName) prog_11_method_35_code (2 : Nat) (Option.some Jvm.ClassFile.FieldType.int)) ∈ x_tbl := x_in4 3 rfl rfl
theorem k_964 : (Cond.methodLink "RedactCheckLaw" (130 : Nat) ({ cls := "RedactCheckModel", name := "many", desc := "(II)I" } : Jvm.MethodName)) ∈ x_tbl := x_in4 4 rfl rfl
theorem k_965 : (Cond.instanceMethod ({ cls := "RedactCheckModel", name := "many", desc := "(II)I" } : Jvm.MethodName)) ∈ x_tbl := x_in4 5 rfl rfl
theorem k_966 : (Cond.selects "RedactCheckModel" ({ cls := "RedactCheckModel", name := "many", desc := "(II)I" } : Jvm.MethodName) ({ cls := "RedactCheckModel", name := "many", desc := "(II)I" } : Jvm.MethodName)) ∈ x_tbl := x_in4 6 rfl rfl
theorem k_967 : (Cond.code ({ cls := "RedactCheckModel", name := "many", desc := "(II)I" } : Jvm.MethodName) prog_11_method_36_code (4 : Nat) (Option.some Jvm.ClassFile.FieldType.int)) ∈ x_tbl := x_in4 7 rfl rfl
theorem k_968 : (Cond.methodLink "RedactCheckLaw" (134 : Nat) ({ cls := "RedactCheckModel", name := "told", desc := "(I)I" } : Jvm.MethodName)) ∈ x_tbl := x_in4 8 rfl rfl
theorem k_969 : (Cond.instanceMethod ({ cls := "RedactCheckModel", name := "told", desc := "(I)I" } : Jvm.MethodName)) ∈ x_tbl := x_in4 9 rfl rfl
theorem k_970 : (Cond.selects "RedactCheckModel" ({ cls := "RedactCheckModel", name := "told", desc := "(I)I" } : Jvm.MethodName) ({ cls := "RedactCheckModel", name := "told", desc := "(I)I" } : Jvm.MethodName)) ∈ x_tbl := x_in4 10 rfl rfl
theorem k_971 : (Cond.code ({ cls := "RedactCheckModel", name := "told", desc := "(I)I" } : Jvm.MethodName) prog_11_method_37_code (2 : Nat) (Option.some Jvm.ClassFile.FieldType.int)) ∈ x_tbl := x_in4 11 rfl rfl
theorem k_972 : (Cond.arrayClass Jvm.ClassFile.FieldType.long) ∈ x_tbl := x_in4 12 rfl rfl
theorem k_973 : (Cond.sameMethod "java/lang/Throwable" "java/lang/Throwable" "fillInStackTrace" "(I)Ljava/lang/Throwable;") ∈ x_tbl := x_in4 13 rfl rfl
theorem k_974 : (Cond.castable "RedactCheck$SignRow" "RedactCheck$SignRow") ∈ x_tbl := x_in4 14 rfl rfl
theorem k_975 : (Cond.castable "RedactCheck$Word" "RedactCheck$Word") ∈ x_tbl := x_in4 15 rfl rfl
theorem k_976 : (Cond.castable "RedactCheck$Use" "RedactCheck$Use") ∈ x_tbl := x_in4 16 rfl rfl
theorem k_977 : (Cond.castable "RedactCheck$Store" "RedactCheck$Store") ∈ x_tbl := x_in4 17 rfl rfl
theorem k_978 : (Cond.castable "RedactCheck$Area" "RedactCheck$Area") ∈ x_tbl := x_in4 18 rfl rfl
theorem k_979 : (Cond.sameMethod "[Ljava/lang/Object;" "java/lang/Object" "getClass" "()Ljava/lang/Class;") ∈ x_tbl := x_in4 19 rfl rfl
theorem k_980 : (Cond.selects "[Ljava/lang/Object;" ({ cls := "java/lang/Object", name := "getClass", desc := "()Ljava/lang/Class;" } : Jvm.MethodName) ({ cls := "java/lang/Object", name := "getClass", desc := "()Ljava/lang/Class;" } : Jvm.MethodName)) ∈ x_tbl := x_in4 20 rfl rfl
theorem k_981 : (Cond.declares ({ cls := "java/lang/Object", name := "getClass", desc := "()Ljava/lang/Class;" } : Jvm.MethodName)) ∈ x_tbl := x_in4 21 rfl rfl
theorem k_982 : (Cond.castable "RedactCheck" "java/lang/Object") ∈ x_tbl := x_in4 22 rfl rfl
theorem k_983 : (Cond.castable "RedactCheck$Findings" "java/lang/Object") ∈ x_tbl := x_in4 23 rfl rfl
theorem k_984 : (Cond.castable "RedactCheck$Codes" "java/lang/Object") ∈ x_tbl := x_in4 24 rfl rfl
theorem k_985 : (Cond.castable "RedactCheck$SignRow" "java/lang/Object") ∈ x_tbl := x_in4 25 rfl rfl
theorem k_986 : (Cond.castable "RedactCheckModel" "java/lang/Object") ∈ x_tbl := x_in4 26 rfl rfl
theorem k_987 : (Cond.castable "RedactCheck$Use" "java/lang/Object") ∈ x_tbl := x_in4 27 rfl rfl
theorem k_988 : (Cond.castable "RedactCheck$Word" "java/lang/Object") ∈ x_tbl := x_in4 28 rfl rfl
theorem k_989 : (Cond.castable "RedactCheck$Area" "java/lang/Object") ∈ x_tbl := x_in4 29 rfl rfl
theorem k_990 : (Cond.castable "RedactCheck$Store" "java/lang/Object") ∈ x_tbl := x_in4 30 rfl rfl
theorem k_991 : (Cond.castable "java/lang/String" "java/lang/Object") ∈ x_tbl := x_in4 31 rfl rfl
theorem kp_0 : Cond.selects "java/util/ArrayList" ⟨"java/util/ArrayList", "add", "(Ljava/lang/Object;[Ljava/lang/Object;I)V"⟩ ⟨"java/util/ArrayList", "add", "(Ljava/lang/Object;[Ljava/lang/Object;I)V"⟩ ∈ x_tbl := x_inP 0 rfl rfl
theorem kp_1 : Cond.selects "java/util/ArrayList" ⟨"java/util/ArrayList", "grow", "()[Ljava/lang/Object;"⟩ ⟨"java/util/ArrayList", "grow", "()[Ljava/lang/Object;"⟩ ∈ x_tbl := x_inP 1 rfl rfl
theorem kp_2 : Cond.selects "java/util/ArrayList" ⟨"java/util/ArrayList", "grow", "(I)[Ljava/lang/Object;"⟩ ⟨"java/util/ArrayList", "grow", "(I)[Ljava/lang/Object;"⟩ ∈ x_tbl := x_inP 2 rfl rfl
theorem kp_3 : Cond.selects "RedactCheck" ⟨"RedactCheck", "findWords", "(III)V"⟩ ⟨"RedactCheck", "findWords", "(III)V"⟩ ∈ x_tbl := x_inP 3 rfl rfl
theorem kp_4 : Cond.selects "RedactCheck" ⟨"RedactCheck", "lookThroughStore", "(I)V"⟩ ⟨"RedactCheck", "lookThroughStore", "(I)V"⟩ ∈ x_tbl := x_inP 4 rfl rfl
theorem kp_5 : Cond.selects "RedactCheck$Store" ⟨"RedactCheck$Store", "unsigned", "(I)I"⟩ ⟨"RedactCheck$Store", "unsigned", "(I)I"⟩ ∈ x_tbl := x_inP 5 rfl rfl
theorem kp_6 : Cond.selects "java/lang/Throwable" ⟨"java/lang/Throwable", "fillInStackTrace", "(I)Ljava/lang/Throwable;"⟩ ⟨"java/lang/Throwable", "fillInStackTrace", "(I)Ljava/lang/Throwable;"⟩ ∈ x_tbl := x_inP 6 rfl rfl
theorem kp_7 : Cond.selects "RedactCheck$SignRow" ⟨"RedactCheck$SignRow", "put", "(IIIII)V"⟩ ⟨"RedactCheck$SignRow", "put", "(IIIII)V"⟩ ∈ x_tbl := x_inP 7 rfl rfl
theorem kp_8 : Cond.selects "RedactCheck" ⟨"RedactCheck", "wordOf", "(I)LRedactCheck$Word;"⟩ ⟨"RedactCheck", "wordOf", "(I)LRedactCheck$Word;"⟩ ∈ x_tbl := x_inP 8 rfl rfl
theorem kp_9 : Cond.selects "RedactCheck" ⟨"RedactCheck", "storeOf", "(I)LRedactCheck$Store;"⟩ ⟨"RedactCheck", "storeOf", "(I)LRedactCheck$Store;"⟩ ∈ x_tbl := x_inP 9 rfl rfl
theorem kp_10 : Cond.selects "RedactCheck" ⟨"RedactCheck", "markUses", "()I"⟩ ⟨"RedactCheck", "markUses", "()I"⟩ ∈ x_tbl := x_inP 10 rfl rfl
theorem kp_11 : Cond.selects "RedactCheck" ⟨"RedactCheck", "marksOf", "(LRedactCheck$SignRow;III)J"⟩ ⟨"RedactCheck", "marksOf", "(LRedactCheck$SignRow;III)J"⟩ ∈ x_tbl := x_inP 11 rfl rfl
theorem kp_12 : Cond.selects "RedactCheck" ⟨"RedactCheck", "marksOfWords", "()J"⟩ ⟨"RedactCheck", "marksOfWords", "()J"⟩ ∈ x_tbl := x_inP 12 rfl rfl
theorem kp_13 : Cond.selects "RedactCheck" ⟨"RedactCheck", "marksOfAreas", "(LRedactCheck$SignRow;III)J"⟩ ⟨"RedactCheck", "marksOfAreas", "(LRedactCheck$SignRow;III)J"⟩ ∈ x_tbl := x_inP 13 rfl rfl
theorem kp_14 : Cond.selects "RedactCheck" ⟨"RedactCheck", "isInArea", "(IIII)Z"⟩ ⟨"RedactCheck", "isInArea", "(IIII)Z"⟩ ∈ x_tbl := x_inP 14 rfl rfl
theorem kp_15 : Cond.selects "RedactCheck" ⟨"RedactCheck", "twinOf", "(LRedactCheck$Use;I)LRedactCheck$Use;"⟩ ⟨"RedactCheck", "twinOf", "(LRedactCheck$Use;I)LRedactCheck$Use;"⟩ ∈ x_tbl := x_inP 15 rfl rfl
theorem kp_16 : Cond.selects "RedactCheck" ⟨"RedactCheck", "cutPages", "()I"⟩ ⟨"RedactCheck", "cutPages", "()I"⟩ ∈ x_tbl := x_inP 16 rfl rfl
theorem kp_17 : Cond.selects "RedactCheck$Codes" ⟨"RedactCheck$Codes", "put", "(II)V"⟩ ⟨"RedactCheck$Codes", "put", "(II)V"⟩ ∈ x_tbl := x_inP 17 rfl rfl
theorem kp_18 : Cond.selects "RedactCheck" ⟨"RedactCheck", "cutUses", "()I"⟩ ⟨"RedactCheck", "cutUses", "()I"⟩ ∈ x_tbl := x_inP 18 rfl rfl
theorem kp_19 : Cond.selects "RedactCheck" ⟨"RedactCheck", "addCutCopy", "(LRedactCheck$SignRow;J)LRedactCheck$SignRow;"⟩ ⟨"RedactCheck", "addCutCopy", "(LRedactCheck$SignRow;J)LRedactCheck$SignRow;"⟩ ∈ x_tbl := x_inP 19 rfl rfl
theorem kp_20 : Cond.selects "RedactCheck" ⟨"RedactCheck", "cutStores", "()I"⟩ ⟨"RedactCheck", "cutStores", "()I"⟩ ∈ x_tbl := x_inP 20 rfl rfl
theorem kp_21 : Cond.selects "RedactCheck$Store" ⟨"RedactCheck$Store", "writeCode", "(I)V"⟩ ⟨"RedactCheck$Store", "writeCode", "(I)V"⟩ ∈ x_tbl := x_inP 21 rfl rfl
theorem kp_22 : Cond.selects "RedactCheckModel" ⟨"RedactCheckModel", "addSign", "(IIIII)I"⟩ ⟨"RedactCheckModel", "addSign", "(IIIII)I"⟩ ∈ x_tbl := x_inP 22 rfl rfl
theorem kp_23 : Cond.selects "RedactCheckModel" ⟨"RedactCheckModel", "lay", "(IIIII)V"⟩ ⟨"RedactCheckModel", "lay", "(IIIII)V"⟩ ∈ x_tbl := x_inP 23 rfl rfl
theorem kp_24 : Cond.selects "RedactCheckModel" ⟨"RedactCheckModel", "mark", "(IIIII)I"⟩ ⟨"RedactCheckModel", "mark", "(IIIII)I"⟩ ∈ x_tbl := x_inP 24 rfl rfl
theorem kp_25 : Cond.selects "RedactCheckModel" ⟨"RedactCheckModel", "takeRow", "(I)V"⟩ ⟨"RedactCheckModel", "takeRow", "(I)V"⟩ ∈ x_tbl := x_inP 25 rfl rfl
theorem kp_26 : Cond.selects "RedactCheckModel" ⟨"RedactCheckModel", "findWords", "()V"⟩ ⟨"RedactCheckModel", "findWords", "()V"⟩ ∈ x_tbl := x_inP 26 rfl rfl
theorem kp_27 : Cond.selects "RedactCheckModel" ⟨"RedactCheckModel", "stands", "(II)Z"⟩ ⟨"RedactCheckModel", "stands", "(II)Z"⟩ ∈ x_tbl := x_inP 27 rfl rfl
theorem kp_28 : Cond.selects "RedactCheckModel" ⟨"RedactCheckModel", "meets", "(IIII)Z"⟩ ⟨"RedactCheckModel", "meets", "(IIII)Z"⟩ ∈ x_tbl := x_inP 28 rfl rfl
theorem kp_29 : Cond.selects "RedactCheckModel" ⟨"RedactCheckModel", "hasMark", "(I)Z"⟩ ⟨"RedactCheckModel", "hasMark", "(I)Z"⟩ ∈ x_tbl := x_inP 29 rfl rfl
theorem kp_30 : Cond.selects "RedactCheckModel" ⟨"RedactCheckModel", "areAlike", "(II)Z"⟩ ⟨"RedactCheckModel", "areAlike", "(II)Z"⟩ ∈ x_tbl := x_inP 30 rfl rfl
theorem kp_31 : Cond.selects "RedactCheckModel" ⟨"RedactCheckModel", "cut", "(III)V"⟩ ⟨"RedactCheckModel", "cut", "(III)V"⟩ ∈ x_tbl := x_inP 31 rfl rfl
theorem kp_32 : Cond.selects "RedactCheckModel" ⟨"RedactCheckModel", "cutStore", "(I)I"⟩ ⟨"RedactCheckModel", "cutStore", "(I)I"⟩ ∈ x_tbl := x_inP 32 rfl rfl
theorem kp_33 : Cond.selects "RedactCheckModel" ⟨"RedactCheckModel", "takeStore", "(II)Z"⟩ ⟨"RedactCheckModel", "takeStore", "(II)Z"⟩ ∈ x_tbl := x_inP 33 rfl rfl
theorem kp_34 : Cond.selects "RedactCheckModel" ⟨"RedactCheckModel", "write", "(II)V"⟩ ⟨"RedactCheckModel", "write", "(II)V"⟩ ∈ x_tbl := x_inP 34 rfl rfl
theorem kp_35 : Cond.selects "RedactCheckModel" ⟨"RedactCheckModel", "note", "(III)V"⟩ ⟨"RedactCheckModel", "note", "(III)V"⟩ ∈ x_tbl := x_inP 35 rfl rfl
theorem x_allin : ∀ (ci : Nat) (q : vw_C), classes[ci]? = some q → ∀ w ∈ u_ws q.1 q.2.1 q.2.2, w ∈ x_tbl := by
  intro ci q h
  match ci, h with
  | 0, h => cases h; exact List.forall_mem_cons.mpr ⟨k_184, List.forall_mem_cons.mpr ⟨k_186, List.forall_mem_cons.mpr ⟨k_188, List.forall_mem_cons.mpr ⟨k_190, List.forall_mem_cons.mpr ⟨k_192, List.forall_mem_cons.mpr ⟨k_194, List.forall_mem_cons.mpr ⟨k_196, List.forall_mem_cons.mpr ⟨k_198, fun _ h => absurd h List.not_mem_nil⟩⟩⟩⟩⟩⟩⟩⟩
  | 1, h => cases h; exact List.forall_mem_cons.mpr ⟨k_110, List.forall_mem_cons.mpr ⟨k_112, List.forall_mem_cons.mpr ⟨k_114, fun _ h => absurd h List.not_mem_nil⟩⟩⟩
  | 2, h => cases h; exact List.forall_mem_cons.mpr ⟨k_96, List.forall_mem_cons.mpr ⟨k_98, fun _ h => absurd h List.not_mem_nil⟩⟩
  | 3, h => cases h; exact List.forall_mem_cons.mpr ⟨k_484, List.forall_mem_cons.mpr ⟨k_486, fun _ h => absurd h List.not_mem_nil⟩⟩
  | 4, h => cases h; exact List.forall_mem_cons.mpr ⟨k_525, List.forall_mem_cons.mpr ⟨k_527, List.forall_mem_cons.mpr ⟨k_529, List.forall_mem_cons.mpr ⟨k_531, List.forall_mem_cons.mpr ⟨k_533, fun _ h => absurd h List.not_mem_nil⟩⟩⟩⟩⟩
  | 5, h => cases h; exact List.forall_mem_cons.mpr ⟨k_456, List.forall_mem_cons.mpr ⟨k_458, List.forall_mem_cons.mpr ⟨k_460, List.forall_mem_cons.mpr ⟨k_462, List.forall_mem_cons.mpr ⟨k_464, List.forall_mem_cons.mpr ⟨k_466, fun _ h => absurd h List.not_mem_nil⟩⟩⟩⟩⟩⟩
  | 6, h => cases h; exact List.forall_mem_cons.mpr ⟨k_552, List.forall_mem_cons.mpr ⟨k_554, List.forall_mem_cons.mpr ⟨k_556, fun _ h => absurd h List.not_mem_nil⟩⟩⟩
  | 7, h => cases h; exact List.forall_mem_cons.mpr ⟨k_70, List.forall_mem_cons.mpr ⟨k_72, fun _ h => absurd h List.not_mem_nil⟩⟩
  | 8, h => cases h; exact List.forall_mem_cons.mpr ⟨k_54, List.forall_mem_cons.mpr ⟨k_56, List.forall_mem_cons.mpr ⟨k_58, fun _ h => absurd h List.not_mem_nil⟩⟩⟩
  | 9, h => cases h; exact List.forall_mem_cons.mpr ⟨k_766, List.forall_mem_cons.mpr ⟨k_768, List.forall_mem_cons.mpr ⟨k_770, List.forall_mem_cons.mpr ⟨k_772, List.forall_mem_cons.mpr ⟨k_774, List.forall_mem_cons.mpr ⟨k_776, List.forall_mem_cons.mpr ⟨k_778, List.forall_mem_cons.mpr ⟨k_780, List.forall_mem_cons.mpr ⟨k_782, List.forall_mem_cons.mpr ⟨k_784, List.forall_mem_cons.mpr ⟨k_786, List.forall_mem_cons.mpr ⟨k_788, List.forall_mem_cons.mpr ⟨k_790, List.forall_mem_cons.mpr ⟨k_792, List.forall_mem_cons.mpr ⟨k_794, List.forall_mem_cons.mpr ⟨k_796, List.forall_mem_cons.mpr ⟨k_798, List.forall_mem_cons.mpr ⟨k_800, List.forall_mem_cons.mpr ⟨k_802, List.forall_mem_cons.mpr ⟨k_804, List.forall_mem_cons.mpr ⟨k_806, List.forall_mem_cons.mpr ⟨k_808, List.forall_mem_cons.mpr ⟨k_810, List.forall_mem_cons.mpr ⟨k_812, List.forall_mem_cons.mpr ⟨k_814, List.forall_mem_cons.mpr ⟨k_816, List.forall_mem_cons.mpr ⟨k_818, List.forall_mem_cons.mpr ⟨k_820, List.forall_mem_cons.mpr ⟨k_822, List.forall_mem_cons.mpr ⟨k_824, List.forall_mem_cons.mpr ⟨k_826, List.forall_mem_cons.mpr ⟨k_828, fun _ h => absurd h List.not_mem_nil⟩⟩⟩⟩⟩⟩⟩⟩⟩⟩⟩⟩⟩⟩⟩⟩⟩⟩⟩⟩⟩⟩⟩⟩⟩⟩⟩⟩⟩⟩⟩⟩
  | n + 10, h => simp [classes] at h
end
section
abbrev b_AL_init : ByteArray := prog_27_method_2_code
def y_AL_init : MethodName := ⟨"java/util/ArrayList", "<init>", "()V"⟩
theorem d_AL_init_0 : decode b_AL_init 0 = .ok (.aload_n 0, 1) := by decide +kernel
theorem d_AL_init_1 : decode b_AL_init 1 = .ok (.invokespecial 1, 3) := by decide +kernel
theorem d_AL_init_4 : decode b_AL_init 4 = .ok (.aload_n 0, 1) := by decide +kernel
theorem d_AL_init_5 : decode b_AL_init 5 = .ok (.getstatic 39, 3) := by decide +kernel
theorem d_AL_init_8 : decode b_AL_init 8 = .ok (.putfield 9, 3) := by decide +kernel
theorem d_AL_init_11 : decode b_AL_init 11 = .ok (.return_, 1) := by decide +kernel
abbrev b_ABL_init : ByteArray := prog_26_method_1_code
def y_ABL_init : MethodName := ⟨"java/util/AbstractList", "<init>", "()V"⟩
theorem d_ABL_init_0 : decode b_ABL_init 0 = .ok (.aload_n 0, 1) := by decide +kernel
theorem d_ABL_init_1 : decode b_ABL_init 1 = .ok (.invokespecial 1, 3) := by decide +kernel
theorem d_ABL_init_4 : decode b_ABL_init 4 = .ok (.aload_n 0, 1) := by decide +kernel
theorem d_ABL_init_5 : decode b_ABL_init 5 = .ok (.iconst 0, 1) := by decide +kernel
theorem d_ABL_init_6 : decode b_ABL_init 6 = .ok (.putfield 7, 3) := by decide +kernel
theorem d_ABL_init_9 : decode b_ABL_init 9 = .ok (.return_, 1) := by decide +kernel
abbrev b_ABC_init : ByteArray := prog_25_method_1_code
def y_ABC_init : MethodName := ⟨"java/util/AbstractCollection", "<init>", "()V"⟩
theorem d_ABC_init_0 : decode b_ABC_init 0 = .ok (.aload_n 0, 1) := by decide +kernel
theorem d_ABC_init_1 : decode b_ABC_init 1 = .ok (.invokespecial 1, 3) := by decide +kernel
theorem d_ABC_init_4 : decode b_ABC_init 4 = .ok (.return_, 1) := by decide +kernel
abbrev b_AL_add : ByteArray := prog_27_method_25_code
def y_AL_add : MethodName := ⟨"java/util/ArrayList", "add", "(Ljava/lang/Object;)Z"⟩
theorem d_AL_add_0 : decode b_AL_add 0 = .ok (.aload_n 0, 1) := by decide +kernel
theorem d_AL_add_1 : decode b_AL_add 1 = .ok (.dup, 1) := by decide +kernel
theorem d_AL_add_2 : decode b_AL_add 2 = .ok (.getfield 63, 3) := by decide +kernel
theorem d_AL_add_5 : decode b_AL_add 5 = .ok (.iconst 1, 1) := by decide +kernel
theorem d_AL_add_6 : decode b_AL_add 6 = .ok (.iadd, 1) := by decide +kernel
theorem d_AL_add_7 : decode b_AL_add 7 = .ok (.putfield 63, 3) := by decide +kernel
theorem d_AL_add_10 : decode b_AL_add 10 = .ok (.aload_n 0, 1) := by decide +kernel
theorem d_AL_add_11 : decode b_AL_add 11 = .ok (.aload_n 1, 1) := by decide +kernel
theorem d_AL_add_12 : decode b_AL_add 12 = .ok (.aload_n 0, 1) := by decide +kernel
theorem d_AL_add_13 : decode b_AL_add 13 = .ok (.getfield 9, 3) := by decide +kernel
theorem d_AL_add_16 : decode b_AL_add 16 = .ok (.aload_n 0, 1) := by decide +kernel
theorem d_AL_add_17 : decode b_AL_add 17 = .ok (.getfield 48, 3) := by decide +kernel
theorem d_AL_add_20 : decode b_AL_add 20 = .ok (.invokevirtual 131, 3) := by decide +kernel
theorem d_AL_add_23 : decode b_AL_add 23 = .ok (.iconst 1, 1) := by decide +kernel
theorem d_AL_add_24 : decode b_AL_add 24 = .ok (.ireturn, 1) := by decide +kernel
abbrev b_AL_add2 : ByteArray := prog_27_method_24_code
def y_AL_add2 : MethodName := ⟨"java/util/ArrayList", "add", "(Ljava/lang/Object;[Ljava/lang/Object;I)V"⟩
theorem d_AL_add2_0 : decode b_AL_add2 0 = .ok (.iload_n 3, 1) := by decide +kernel
theorem d_AL_add2_1 : decode b_AL_add2 1 = .ok (.aload_n 2, 1) := by decide +kernel
theorem d_AL_add2_2 : decode b_AL_add2 2 = .ok (.arraylength, 1) := by decide +kernel
theorem d_AL_add2_3 : decode b_AL_add2 3 = .ok (.if_icmp .ne 8, 3) := by decide +kernel
theorem d_AL_add2_6 : decode b_AL_add2 6 = .ok (.aload_n 0, 1) := by decide +kernel
theorem d_AL_add2_7 : decode b_AL_add2 7 = .ok (.invokevirtual 129, 3) := by decide +kernel
theorem d_AL_add2_10 : decode b_AL_add2 10 = .ok (.astore_n 2, 1) := by decide +kernel
theorem d_AL_add2_11 : decode b_AL_add2 11 = .ok (.aload_n 2, 1) := by decide +kernel
theorem d_AL_add2_12 : decode b_AL_add2 12 = .ok (.iload_n 3, 1) := by decide +kernel
theorem d_AL_add2_13 : decode b_AL_add2 13 = .ok (.aload_n 1, 1) := by decide +kernel
theorem d_AL_add2_14 : decode b_AL_add2 14 = .ok (.aastore, 1) := by decide +kernel
theorem d_AL_add2_15 : decode b_AL_add2 15 = .ok (.aload_n 0, 1) := by decide +kernel
theorem d_AL_add2_16 : decode b_AL_add2 16 = .ok (.iload_n 3, 1) := by decide +kernel
theorem d_AL_add2_17 : decode b_AL_add2 17 = .ok (.iconst 1, 1) := by decide +kernel
theorem d_AL_add2_18 : decode b_AL_add2 18 = .ok (.iadd, 1) := by decide +kernel
theorem d_AL_add2_19 : decode b_AL_add2 19 = .ok (.putfield 48, 3) := by decide +kernel
theorem d_AL_add2_22 : decode b_AL_add2 22 = .ok (.return_, 1) := by decide +kernel
abbrev b_AL_grow : ByteArray := prog_27_method_7_code
def y_AL_grow : MethodName := ⟨"java/util/ArrayList", "grow", "()[Ljava/lang/Object;"⟩
theorem d_AL_grow_0 : decode b_AL_grow 0 = .ok (.aload_n 0, 1) := by decide +kernel
theorem d_AL_grow_1 : decode b_AL_grow 1 = .ok (.aload_n 0, 1) := by decide +kernel
theorem d_AL_grow_2 : decode b_AL_grow 2 = .ok (.getfield 48, 3) := by decide +kernel
theorem d_AL_grow_5 : decode b_AL_grow 5 = .ok (.iconst 1, 1) := by decide +kernel
theorem d_AL_grow_6 : decode b_AL_grow 6 = .ok (.iadd, 1) := by decide +kernel
theorem d_AL_grow_7 : decode b_AL_grow 7 = .ok (.invokevirtual 69, 3) := by decide +kernel
theorem d_AL_grow_10 : decode b_AL_grow 10 = .ok (.areturn, 1) := by decide +kernel
abbrev b_AL_grow2 : ByteArray := prog_27_method_6_code
def y_AL_grow2 : MethodName := ⟨"java/util/ArrayList", "grow", "(I)[Ljava/lang/Object;"⟩
theorem d_AL_grow2_0 : decode b_AL_grow2 0 = .ok (.aload_n 0, 1) := by decide +kernel
theorem d_AL_grow2_1 : decode b_AL_grow2 1 = .ok (.getfield 9, 3) := by decide +kernel
theorem d_AL_grow2_4 : decode b_AL_grow2 4 = .ok (.arraylength, 1) := by decide +kernel
theorem d_AL_grow2_5 : decode b_AL_grow2 5 = .ok (.istore_n 2, 1) := by decide +kernel
theorem d_AL_grow2_6 : decode b_AL_grow2 6 = .ok (.iload_n 2, 1) := by decide +kernel
theorem d_AL_grow2_7 : decode b_AL_grow2 7 = .ok (.ifCond .gt 13, 3) := by decide +kernel
theorem d_AL_grow2_10 : decode b_AL_grow2 10 = .ok (.aload_n 0, 1) := by decide +kernel
theorem d_AL_grow2_11 : decode b_AL_grow2 11 = .ok (.getfield 9, 3) := by decide +kernel
theorem d_AL_grow2_14 : decode b_AL_grow2 14 = .ok (.getstatic 39, 3) := by decide +kernel
theorem d_AL_grow2_17 : decode b_AL_grow2 17 = .ok (.if_acmp .eq 28, 3) := by decide +kernel
theorem d_AL_grow2_20 : decode b_AL_grow2 20 = .ok (.iload_n 2, 1) := by decide +kernel
theorem d_AL_grow2_21 : decode b_AL_grow2 21 = .ok (.iload_n 1, 1) := by decide +kernel
theorem d_AL_grow2_22 : decode b_AL_grow2 22 = .ok (.iload_n 2, 1) := by decide +kernel
theorem d_AL_grow2_23 : decode b_AL_grow2 23 = .ok (.isub, 1) := by decide +kernel
theorem d_AL_grow2_24 : decode b_AL_grow2 24 = .ok (.iload_n 2, 1) := by decide +kernel
theorem d_AL_grow2_25 : decode b_AL_grow2 25 = .ok (.iconst 1, 1) := by decide +kernel
theorem d_AL_grow2_26 : decode b_AL_grow2 26 = .ok (.ishr, 1) := by decide +kernel
theorem d_AL_grow2_27 : decode b_AL_grow2 27 = .ok (.invokestatic 73, 3) := by decide +kernel
theorem d_AL_grow2_30 : decode b_AL_grow2 30 = .ok (.istore_n 3, 1) := by decide +kernel
theorem d_AL_grow2_31 : decode b_AL_grow2 31 = .ok (.aload_n 0, 1) := by decide +kernel
theorem d_AL_grow2_32 : decode b_AL_grow2 32 = .ok (.aload_n 0, 1) := by decide +kernel
theorem d_AL_grow2_33 : decode b_AL_grow2 33 = .ok (.getfield 9, 3) := by decide +kernel
theorem d_AL_grow2_36 : decode b_AL_grow2 36 = .ok (.iload_n 3, 1) := by decide +kernel
theorem d_AL_grow2_37 : decode b_AL_grow2 37 = .ok (.invokestatic 66, 3) := by decide +kernel
theorem d_AL_grow2_40 : decode b_AL_grow2 40 = .ok (.dup_x1, 1) := by decide +kernel
theorem d_AL_grow2_41 : decode b_AL_grow2 41 = .ok (.putfield 9, 3) := by decide +kernel
theorem d_AL_grow2_44 : decode b_AL_grow2 44 = .ok (.areturn, 1) := by decide +kernel
theorem d_AL_grow2_45 : decode b_AL_grow2 45 = .ok (.aload_n 0, 1) := by decide +kernel
theorem d_AL_grow2_46 : decode b_AL_grow2 46 = .ok (.bipush 10, 2) := by decide +kernel
theorem d_AL_grow2_48 : decode b_AL_grow2 48 = .ok (.iload_n 1, 1) := by decide +kernel
theorem d_AL_grow2_49 : decode b_AL_grow2 49 = .ok (.invokestatic 79, 3) := by decide +kernel
theorem d_AL_grow2_52 : decode b_AL_grow2 52 = .ok (.anewarray 7, 3) := by decide +kernel
theorem d_AL_grow2_55 : decode b_AL_grow2 55 = .ok (.dup_x1, 1) := by decide +kernel
theorem d_AL_grow2_56 : decode b_AL_grow2 56 = .ok (.putfield 9, 3) := by decide +kernel
theorem d_AL_grow2_59 : decode b_AL_grow2 59 = .ok (.areturn, 1) := by decide +kernel
abbrev b_ASP_newLength : ByteArray := prog_34_method_27_code
def y_ASP_newLength : MethodName := ⟨"jdk/internal/util/ArraysSupport", "newLength", "(III)I"⟩
theorem d_ASP_newLength_0 : decode b_ASP_newLength 0 = .ok (.iload_n 0, 1) := by decide +kernel
theorem d_ASP_newLength_1 : decode b_ASP_newLength 1 = .ok (.iload_n 1, 1) := by decide +kernel
theorem d_ASP_newLength_2 : decode b_ASP_newLength 2 = .ok (.iload_n 2, 1) := by decide +kernel
theorem d_ASP_newLength_3 : decode b_ASP_newLength 3 = .ok (.invokestatic 194, 3) := by decide +kernel
theorem d_ASP_newLength_6 : decode b_ASP_newLength 6 = .ok (.iadd, 1) := by decide +kernel
theorem d_ASP_newLength_7 : decode b_ASP_newLength 7 = .ok (.istore_n 3, 1) := by decide +kernel
theorem d_ASP_newLength_8 : decode b_ASP_newLength 8 = .ok (.iconst 0, 1) := by decide +kernel
theorem d_ASP_newLength_9 : decode b_ASP_newLength 9 = .ok (.iload_n 3, 1) := by decide +kernel
theorem d_ASP_newLength_10 : decode b_ASP_newLength 10 = .ok (.if_icmp .ge 11, 3) := by decide +kernel
theorem d_ASP_newLength_13 : decode b_ASP_newLength 13 = .ok (.iload_n 3, 1) := by decide +kernel
theorem d_ASP_newLength_14 : decode b_ASP_newLength 14 = .ok (.ldc 200, 2) := by decide +kernel
theorem d_ASP_newLength_16 : decode b_ASP_newLength 16 = .ok (.if_icmp .gt 5, 3) := by decide +kernel
theorem d_ASP_newLength_19 : decode b_ASP_newLength 19 = .ok (.iload_n 3, 1) := by decide +kernel
theorem d_ASP_newLength_20 : decode b_ASP_newLength 20 = .ok (.ireturn, 1) := by decide +kernel
theorem d_ASP_newLength_21 : decode b_ASP_newLength 21 = .ok (.iload_n 0, 1) := by decide +kernel
theorem d_ASP_newLength_22 : decode b_ASP_newLength 22 = .ok (.iload_n 1, 1) := by decide +kernel
theorem d_ASP_newLength_23 : decode b_ASP_newLength 23 = .ok (.invokestatic 201, 3) := by decide +kernel
theorem d_ASP_newLength_26 : decode b_ASP_newLength 26 = .ok (.ireturn, 1) := by decide +kernel
abbrev b_MTH_max : ByteArray := prog_19_method_65_code
def y_MTH_max : MethodName := ⟨"java/lang/Math", "max", "(II)I"⟩
theorem d_MTH_max_0 : decode b_MTH_max 0 = .ok (.iload_n 0, 1) := by decide +kernel
theorem d_MTH_max_1 : decode b_MTH_max 1 = .ok (.iload_n 1, 1) := by decide +kernel
theorem d_MTH_max_2 : decode b_MTH_max 2 = .ok (.if_icmp .lt 7, 3) := by decide +kernel
theorem d_MTH_max_5 : decode b_MTH_max 5 = .ok (.iload_n 0, 1) := by decide +kernel
theorem d_MTH_max_6 : decode b_MTH_max 6 = .ok (.goto 4, 3) := by decide +kernel
theorem d_MTH_max_9 : decode b_MTH_max 9 = .ok (.iload_n 1, 1) := by decide +kernel
theorem d_MTH_max_10 : decode b_MTH_max 10 = .ok (.ireturn, 1) := by decide +kernel
abbrev b_ASP_hugeLength : ByteArray := prog_34_method_28_code
def y_ASP_hugeLength : MethodName := ⟨"jdk/internal/util/ArraysSupport", "hugeLength", "(II)I"⟩
theorem d_ASP_hugeLength_0 : decode b_ASP_hugeLength 0 = .ok (.iload_n 0, 1) := by decide +kernel
theorem d_ASP_hugeLength_1 : decode b_ASP_hugeLength 1 = .ok (.iload_n 1, 1) := by decide +kernel
theorem d_ASP_hugeLength_2 : decode b_ASP_hugeLength 2 = .ok (.iadd, 1) := by decide +kernel
theorem d_ASP_hugeLength_3 : decode b_ASP_hugeLength 3 = .ok (.istore_n 2, 1) := by decide +kernel
theorem d_ASP_hugeLength_4 : decode b_ASP_hugeLength 4 = .ok (.iload_n 2, 1) := by decide +kernel
theorem d_ASP_hugeLength_5 : decode b_ASP_hugeLength 5 = .ok (.ifCond .ge 44, 3) := by decide +kernel
theorem d_ASP_hugeLength_8 : decode b_ASP_hugeLength 8 = .ok (.new 204, 3) := by decide +kernel
theorem d_ASP_hugeLength_11 : decode b_ASP_hugeLength 11 = .ok (.dup, 1) := by decide +kernel
theorem d_ASP_hugeLength_12 : decode b_ASP_hugeLength 12 = .ok (.new 89, 3) := by decide +kernel
theorem d_ASP_hugeLength_15 : decode b_ASP_hugeLength 15 = .ok (.dup, 1) := by decide +kernel
theorem d_ASP_hugeLength_16 : decode b_ASP_hugeLength 16 = .ok (.invokespecial 91, 3) := by decide +kernel
theorem d_ASP_hugeLength_19 : decode b_ASP_hugeLength 19 = .ok (.ldc 206, 2) := by decide +kernel
theorem d_ASP_hugeLength_21 : decode b_ASP_hugeLength 21 = .ok (.invokevirtual 94, 3) := by decide +kernel
theorem d_ASP_hugeLength_24 : decode b_ASP_hugeLength 24 = .ok (.iload_n 0, 1) := by decide +kernel
theorem d_ASP_hugeLength_25 : decode b_ASP_hugeLength 25 = .ok (.invokevirtual 98, 3) := by decide +kernel
theorem d_ASP_hugeLength_28 : decode b_ASP_hugeLength 28 = .ok (.ldc 208, 2) := by decide +kernel
theorem d_ASP_hugeLength_30 : decode b_ASP_hugeLength 30 = .ok (.invokevirtual 94, 3) := by decide +kernel
theorem d_ASP_hugeLength_33 : decode b_ASP_hugeLength 33 = .ok (.iload_n 1, 1) := by decide +kernel
theorem d_ASP_hugeLength_34 : decode b_ASP_hugeLength 34 = .ok (.invokevirtual 98, 3) := by decide +kernel
theorem d_ASP_hugeLength_37 : decode b_ASP_hugeLength 37 = .ok (.ldc 210, 2) := by decide +kernel
theorem d_ASP_hugeLength_39 : decode b_ASP_hugeLength 39 = .ok (.invokevirtual 94, 3) := by decide +kernel
theorem d_ASP_hugeLength_42 : decode b_ASP_hugeLength 42 = .ok (.invokevirtual 101, 3) := by decide +kernel
theorem d_ASP_hugeLength_45 : decode b_ASP_hugeLength 45 = .ok (.invokespecial 212, 3) := by decide +kernel
theorem d_ASP_hugeLength_48 : decode b_ASP_hugeLength 48 = .ok (.athrow, 1) := by decide +kernel
theorem d_ASP_hugeLength_49 : decode b_ASP_hugeLength 49 = .ok (.iload_n 2, 1) := by decide +kernel
theorem d_ASP_hugeLength_50 : decode b_ASP_hugeLength 50 = .ok (.ldc 200, 2) := by decide +kernel
theorem d_ASP_hugeLength_52 : decode b_ASP_hugeLength 52 = .ok (.if_icmp .gt 6, 3) := by decide +kernel
theorem d_ASP_hugeLength_55 : decode b_ASP_hugeLength 55 = .ok (.ldc 200, 2) := by decide +kernel
theorem d_ASP_hugeLength_57 : decode b_ASP_hugeLength 57 = .ok (.ireturn, 1) := by decide +kernel
theorem d_ASP_hugeLength_58 : decode b_ASP_hugeLength 58 = .ok (.iload_n 2, 1) := by decide +kernel
theorem d_ASP_hugeLength_59 : decode b_ASP_hugeLength 59 = .ok (.ireturn, 1) := by decide +kernel
abbrev b_ARS_copyOf : ByteArray := prog_28_method_119_code
def y_ARS_copyOf : MethodName := ⟨"java/util/Arrays", "copyOf", "([Ljava/lang/Object;I)[Ljava/lang/Object;"⟩
theorem d_ARS_copyOf_0 : decode b_ARS_copyOf 0 = .ok (.aload_n 0, 1) := by decide +kernel
theorem d_ARS_copyOf_1 : decode b_ARS_copyOf 1 = .ok (.iload_n 1, 1) := by decide +kernel
theorem d_ARS_copyOf_2 : decode b_ARS_copyOf 2 = .ok (.aload_n 0, 1) := by decide +kernel
theorem d_ARS_copyOf_3 : decode b_ARS_copyOf 3 = .ok (.invokevirtual 86, 3) := by decide +kernel
theorem d_ARS_copyOf_6 : decode b_ARS_copyOf 6 = .ok (.invokestatic 300, 3) := by decide +kernel
theorem d_ARS_copyOf_9 : decode b_ARS_copyOf 9 = .ok (.areturn, 1) := by decide +kernel
abbrev b_ARS_copyOf2 : ByteArray := prog_28_method_120_code
def y_ARS_copyOf2 : MethodName := ⟨"java/util/Arrays", "copyOf", "([Ljava/lang/Object;ILjava/lang/Class;)[Ljava/lang/Object;"⟩
theorem d_ARS_copyOf2_0 : decode b_ARS_copyOf2 0 = .ok (.aload_n 2, 1) := by decide +kernel
theorem d_ARS_copyOf2_1 : decode b_ARS_copyOf2 1 = .ok (.ldc 110, 2) := by decide +kernel
theorem d_ARS_copyOf2_3 : decode b_ARS_copyOf2 3 = .ok (.if_acmp .ne 10, 3) := by decide +kernel
theorem d_ARS_copyOf2_6 : decode b_ARS_copyOf2 6 = .ok (.iload_n 1, 1) := by decide +kernel
theorem d_ARS_copyOf2_7 : decode b_ARS_copyOf2 7 = .ok (.anewarray 2, 3) := by decide +kernel
theorem d_ARS_copyOf2_10 : decode b_ARS_copyOf2 10 = .ok (.goto 14, 3) := by decide +kernel
theorem d_ARS_copyOf2_13 : decode b_ARS_copyOf2 13 = .ok (.aload_n 2, 1) := by decide +kernel
theorem d_ARS_copyOf2_14 : decode b_ARS_copyOf2 14 = .ok (.invokevirtual 90, 3) := by decide +kernel
theorem d_ARS_copyOf2_17 : decode b_ARS_copyOf2 17 = .ok (.iload_n 1, 1) := by decide +kernel
theorem d_ARS_copyOf2_18 : decode b_ARS_copyOf2 18 = .ok (.invokestatic 95, 3) := by decide +kernel
theorem d_ARS_copyOf2_21 : decode b_ARS_copyOf2 21 = .ok (.checkcast 110, 3) := by decide +kernel
theorem d_ARS_copyOf2_24 : decode b_ARS_copyOf2 24 = .ok (.astore_n 3, 1) := by decide +kernel
theorem d_ARS_copyOf2_25 : decode b_ARS_copyOf2 25 = .ok (.aload_n 0, 1) := by decide +kernel
theorem d_ARS_copyOf2_26 : decode b_ARS_copyOf2 26 = .ok (.iconst 0, 1) := by decide +kernel
theorem d_ARS_copyOf2_27 : decode b_ARS_copyOf2 27 = .ok (.aload_n 3, 1) := by decide +kernel
theorem d_ARS_copyOf2_28 : decode b_ARS_copyOf2 28 = .ok (.iconst 0, 1) := by decide +kernel
theorem d_ARS_copyOf2_29 : decode b_ARS_copyOf2 29 = .ok (.aload_n 0, 1) := by decide +kernel
theorem d_ARS_copyOf2_30 : decode b_ARS_copyOf2 30 = .ok (.arraylength, 1) := by decide +kernel
theorem d_ARS_copyOf2_31 : decode b_ARS_copyOf2 31 = .ok (.iload_n 1, 1) := by decide +kernel
theorem d_ARS_copyOf2_32 : decode b_ARS_copyOf2 32 = .ok (.invokestatic 304, 3) := by decide +kernel
theorem d_ARS_copyOf2_35 : decode b_ARS_copyOf2 35 = .ok (.invokestatic 150, 3) := by decide +kernel
theorem d_ARS_copyOf2_38 : decode b_ARS_copyOf2 38 = .ok (.aload_n 3, 1) := by decide +kernel
theorem d_ARS_copyOf2_39 : decode b_ARS_copyOf2 39 = .ok (.areturn, 1) := by decide +kernel
abbrev b_MTH_min : ByteArray := prog_19_method_69_code
def y_MTH_min : MethodName := ⟨"java/lang/Math", "min", "(II)I"⟩
theorem d_MTH_min_0 : decode b_MTH_min 0 = .ok (.iload_n 0, 1) := by decide +kernel
theorem d_MTH_min_1 : decode b_MTH_min 1 = .ok (.iload_n 1, 1) := by decide +kernel
theorem d_MTH_min_2 : decode b_MTH_min 2 = .ok (.if_icmp .gt 7, 3) := by decide +kernel
theorem d_MTH_min_5 : decode b_MTH_min 5 = .ok (.iload_n 0, 1) := by decide +kernel
theorem d_MTH_min_6 : decode b_MTH_min 6 = .ok (.goto 4, 3) := by decide +kernel
theorem d_MTH_min_9 : decode b_MTH_min 9 = .ok (.iload_n 1, 1) := by decide +kernel
theorem d_MTH_min_10 : decode b_MTH_min 10 = .ok (.ireturn, 1) := by decide +kernel
abbrev b_AL_size : ByteArray := prog_27_method_8_code
def y_AL_size : MethodName := ⟨"java/util/ArrayList", "size", "()I"⟩
theorem d_AL_size_0 : decode b_AL_size 0 = .ok (.aload_n 0, 1) := by decide +kernel
theorem d_AL_size_1 : decode b_AL_size 1 = .ok (.getfield 48, 3) := by decide +kernel
theorem d_AL_size_4 : decode b_AL_size 4 = .ok (.ireturn, 1) := by decide +kernel
abbrev b_AL_get : ByteArray := prog_27_method_20_code
def y_AL_get : MethodName := ⟨"java/util/ArrayList", "get", "(I)Ljava/lang/Object;"⟩
theorem d_AL_get_0 : decode b_AL_get 0 = .ok (.iload_n 1, 1) := by decide +kernel
theorem d_AL_get_1 : decode b_AL_get 1 = .ok (.aload_n 0, 1) := by decide +kernel
theorem d_AL_get_2 : decode b_AL_get 2 = .ok (.getfield 48, 3) := by decide +kernel
theorem d_AL_get_5 : decode b_AL_get 5 = .ok (.invokestatic 118, 3) := by decide +kernel
theorem d_AL_get_8 : decode b_AL_get 8 = .ok (.pop, 1) := by decide +kernel
theorem d_AL_get_9 : decode b_AL_get 9 = .ok (.aload_n 0, 1) := by decide +kernel
theorem d_AL_get_10 : decode b_AL_get 10 = .ok (.iload_n 1, 1) := by decide +kernel
theorem d_AL_get_11 : decode b_AL_get 11 = .ok (.invokevirtual 123, 3) := by decide +kernel
theorem d_AL_get_14 : decode b_AL_get 14 = .ok (.areturn, 1) := by decide +kernel
abbrev b_OBJ_checkIndex : ByteArray := prog_31_method_17_code
def y_OBJ_checkIndex : MethodName := ⟨"java/util/Objects", "checkIndex", "(II)I"⟩
theorem d_OBJ_checkIndex_0 : decode b_OBJ_checkIndex 0 = .ok (.iload_n 0, 1) := by decide +kernel
theorem d_OBJ_checkIndex_1 : decode b_OBJ_checkIndex 1 = .ok (.iload_n 1, 1) := by decide +kernel
theorem d_OBJ_checkIndex_2 : decode b_OBJ_checkIndex 2 = .ok (.aconst_null, 1) := by decide +kernel
theorem d_OBJ_checkIndex_3 : decode b_OBJ_checkIndex 3 = .ok (.invokestatic 105, 3) := by decide +kernel
theorem d_OBJ_checkIndex_6 : decode b_OBJ_checkIndex 6 = .ok (.ireturn, 1) := by decide +kernel
abbrev b_PRE_checkIndex : ByteArray := prog_35_method_11_code
def y_PRE_checkIndex : MethodName := ⟨"jdk/internal/util/Preconditions", "checkIndex", "(IILjava/util/function/BiFunction;)I"⟩
theorem d_PRE_checkIndex_0 : decode b_PRE_checkIndex 0 = .ok (.iload_n 0, 1) := by decide +kernel
theorem d_PRE_checkIndex_1 : decode b_PRE_checkIndex 1 = .ok (.ifCond .lt 8, 3) := by decide +kernel
theorem d_PRE_checkIndex_4 : decode b_PRE_checkIndex 4 = .ok (.iload_n 0, 1) := by decide +kernel
theorem d_PRE_checkIndex_5 : decode b_PRE_checkIndex 5 = .ok (.iload_n 1, 1) := by decide +kernel
theorem d_PRE_checkIndex_6 : decode b_PRE_checkIndex 6 = .ok (.if_icmp .lt 10, 3) := by decide +kernel
theorem d_PRE_checkIndex_9 : decode b_PRE_checkIndex 9 = .ok (.aload_n 2, 1) := by decide +kernel
theorem d_PRE_checkIndex_10 : decode b_PRE_checkIndex 10 = .ok (.iload_n 0, 1) := by decide +kernel
theorem d_PRE_checkIndex_11 : decode b_PRE_checkIndex 11 = .ok (.iload_n 1, 1) := by decide +kernel
theorem d_PRE_checkIndex_12 : decode b_PRE_checkIndex 12 = .ok (.invokestatic 95, 3) := by decide +kernel
theorem d_PRE_checkIndex_15 : decode b_PRE_checkIndex 15 = .ok (.athrow, 1) := by decide +kernel
theorem d_PRE_checkIndex_16 : decode b_PRE_checkIndex 16 = .ok (.iload_n 0, 1) := by decide +kernel
theorem d_PRE_checkIndex_17 : decode b_PRE_checkIndex 17 = .ok (.ireturn, 1) := by decide +kernel
abbrev b_AL_elementData : ByteArray := prog_27_method_18_code
def y_AL_elementData : MethodName := ⟨"java/util/ArrayList", "elementData", "(I)Ljava/lang/Object;"⟩
theorem d_AL_elementData_0 : decode b_AL_elementData 0 = .ok (.aload_n 0, 1) := by decide +kernel
theorem d_AL_elementData_1 : decode b_AL_elementData 1 = .ok (.getfield 9, 3) := by decide +kernel
theorem d_AL_elementData_4 : decode b_AL_elementData 4 = .ok (.iload_n 1, 1) := by decide +kernel
theorem d_AL_elementData_5 : decode b_AL_elementData 5 = .ok (.aaload, 1) := by decide +kernel
theorem d_AL_elementData_6 : decode b_AL_elementData 6 = .ok (.areturn, 1) := by decide +kernel
abbrev b_LNG_bitCount : ByteArray := prog_18_method_50_code
def y_LNG_bitCount : MethodName := ⟨"java/lang/Long", "bitCount", "(J)I"⟩
theorem d_LNG_bitCount_0 : decode b_LNG_bitCount 0 = .ok (.lload_n 0, 1) := by decide +kernel
theorem d_LNG_bitCount_1 : decode b_LNG_bitCount 1 = .ok (.lload_n 0, 1) := by decide +kernel
theorem d_LNG_bitCount_2 : decode b_LNG_bitCount 2 = .ok (.iconst 1, 1) := by decide +kernel
theorem d_LNG_bitCount_3 : decode b_LNG_bitCount 3 = .ok (.lushr, 1) := by decide +kernel
theorem d_LNG_bitCount_4 : decode b_LNG_bitCount 4 = .ok (.ldc2_w 314, 3) := by decide +kernel
theorem d_LNG_bitCount_7 : decode b_LNG_bitCount 7 = .ok (.land, 1) := by decide +kernel
theorem d_LNG_bitCount_8 : decode b_LNG_bitCount 8 = .ok (.lsub, 1) := by decide +kernel
theorem d_LNG_bitCount_9 : decode b_LNG_bitCount 9 = .ok (.lstore_n 0, 1) := by decide +kernel
theorem d_LNG_bitCount_10 : decode b_LNG_bitCount 10 = .ok (.lload_n 0, 1) := by decide +kernel
theorem d_LNG_bitCount_11 : decode b_LNG_bitCount 11 = .ok (.ldc2_w 316, 3) := by decide +kernel
theorem d_LNG_bitCount_14 : decode b_LNG_bitCount 14 = .ok (.land, 1) := by decide +kernel
theorem d_LNG_bitCount_15 : decode b_LNG_bitCount 15 = .ok (.lload_n 0, 1) := by decide +kernel
theorem d_LNG_bitCount_16 : decode b_LNG_bitCount 16 = .ok (.iconst 2, 1) := by decide +kernel
theorem d_LNG_bitCount_17 : decode b_LNG_bitCount 17 = .ok (.lushr, 1) := by decide +kernel
theorem d_LNG_bitCount_18 : decode b_LNG_bitCount 18 = .ok (.ldc2_w 316, 3) := by decide +kernel
theorem d_LNG_bitCount_21 : decode b_LNG_bitCount 21 = .ok (.land, 1) := by decide +kernel
theorem d_LNG_bitCount_22 : decode b_LNG_bitCount 22 = .ok (.ladd, 1) := by decide +kernel
theorem d_LNG_bitCount_23 : decode b_LNG_bitCount 23 = .ok (.lstore_n 0, 1) := by decide +kernel
theorem d_LNG_bitCount_24 : decode b_LNG_bitCount 24 = .ok (.lload_n 0, 1) := by decide +kernel
theorem d_LNG_bitCount_25 : decode b_LNG_bitCount 25 = .ok (.lload_n 0, 1) := by decide +kernel
theorem d_LNG_bitCount_26 : decode b_LNG_bitCount 26 = .ok (.iconst 4, 1) := by decide +kernel
theorem d_LNG_bitCount_27 : decode b_LNG_bitCount 27 = .ok (.lushr, 1) := by decide +kernel
theorem d_LNG_bitCount_28 : decode b_LNG_bitCount 28 = .ok (.ladd, 1) := by decide +kernel
theorem d_LNG_bitCount_29 : decode b_LNG_bitCount 29 = .ok (.ldc2_w 318, 3) := by decide +kernel
theorem d_LNG_bitCount_32 : decode b_LNG_bitCount 32 = .ok (.land, 1) := by decide +kernel
theorem d_LNG_bitCount_33 : decode b_LNG_bitCount 33 = .ok (.lstore_n 0, 1) := by decide +kernel
theorem d_LNG_bitCount_34 : decode b_LNG_bitCount 34 = .ok (.lload_n 0, 1) := by decide +kernel
theorem d_LNG_bitCount_35 : decode b_LNG_bitCount 35 = .ok (.lload_n 0, 1) := by decide +kernel
theorem d_LNG_bitCount_36 : decode b_LNG_bitCount 36 = .ok (.bipush 8, 2) := by decide +kernel
theorem d_LNG_bitCount_38 : decode b_LNG_bitCount 38 = .ok (.lushr, 1) := by decide +kernel
theorem d_LNG_bitCount_39 : decode b_LNG_bitCount 39 = .ok (.ladd, 1) := by decide +kernel
theorem d_LNG_bitCount_40 : decode b_LNG_bitCount 40 = .ok (.lstore_n 0, 1) := by decide +kernel
theorem d_LNG_bitCount_41 : decode b_LNG_bitCount 41 = .ok (.lload_n 0, 1) := by decide +kernel
theorem d_LNG_bitCount_42 : decode b_LNG_bitCount 42 = .ok (.lload_n 0, 1) := by decide +kernel
theorem d_LNG_bitCount_43 : decode b_LNG_bitCount 43 = .ok (.bipush 16, 2) := by decide +kernel
theorem d_LNG_bitCount_45 : decode b_LNG_bitCount 45 = .ok (.lushr, 1) := by decide +kernel
theorem d_LNG_bitCount_46 : decode b_LNG_bitCount 46 = .ok (.ladd, 1) := by decide +kernel
theorem d_LNG_bitCount_47 : decode b_LNG_bitCount 47 = .ok (.lstore_n 0, 1) := by decide +kernel
theorem d_LNG_bitCount_48 : decode b_LNG_bitCount 48 = .ok (.lload_n 0, 1) := by decide +kernel
theorem d_LNG_bitCount_49 : decode b_LNG_bitCount 49 = .ok (.lload_n 0, 1) := by decide +kernel
theorem d_LNG_bitCount_50 : decode b_LNG_bitCount 50 = .ok (.bipush 32, 2) := by decide +kernel
theorem d_LNG_bitCount_52 : decode b_LNG_bitCount 52 = .ok (.lushr, 1) := by decide +kernel
theorem d_LNG_bitCount_53 : decode b_LNG_bitCount 53 = .ok (.ladd, 1) := by decide +kernel
theorem d_LNG_bitCount_54 : decode b_LNG_bitCount 54 = .ok (.lstore_n 0, 1) := by decide +kernel
theorem d_LNG_bitCount_55 : decode b_LNG_bitCount 55 = .ok (.lload_n 0, 1) := by decide +kernel
theorem d_LNG_bitCount_56 : decode b_LNG_bitCount 56 = .ok (.l2i, 1) := by decide +kernel
theorem d_LNG_bitCount_57 : decode b_LNG_bitCount 57 = .ok (.bipush 127, 2) := by decide +kernel
theorem d_LNG_bitCount_59 : decode b_LNG_bitCount 59 = .ok (.iand, 1) := by decide +kernel
theorem d_LNG_bitCount_60 : decode b_LNG_bitCount 60 = .ok (.ireturn, 1) := by decide +kernel
end
section
abbrev b_R_init : ByteArray := prog_1_method_1_code
def y_R_init : MethodName := ⟨"RedactCheck", "<init>", "()V"⟩
theorem d_R_init_0 : decode b_R_init 0 = .ok (.aload_n 0, 1) := by decide +kernel
theorem d_R_init_1 : decode b_R_init 1 = .ok (.invokespecial 1, 3) := by decide +kernel
theorem d_R_init_4 : decode b_R_init 4 = .ok (.aload_n 0, 1) := by decide +kernel
theorem d_R_init_5 : decode b_R_init 5 = .ok (.new 7, 3) := by decide +kernel
theorem d_R_init_8 : decode b_R_init 8 = .ok (.dup, 1) := by decide +kernel
theorem d_R_init_9 : decode b_R_init 9 = .ok (.invokespecial 9, 3) := by decide +kernel
theorem d_R_init_12 : decode b_R_init 12 = .ok (.putfield 10, 3) := by decide +kernel
theorem d_R_init_15 : decode b_R_init 15 = .ok (.aload_n 0, 1) := by decide +kernel
theorem d_R_init_16 : decode b_R_init 16 = .ok (.new 7, 3) := by decide +kernel
theorem d_R_init_19 : decode b_R_init 19 = .ok (.dup, 1) := by decide +kernel
theorem d_R_init_20 : decode b_R_init 20 = .ok (.invokespecial 9, 3) := by decide +kernel
theorem d_R_init_23 : decode b_R_init 23 = .ok (.putfield 16, 3) := by decide +kernel
theorem d_R_init_26 : decode b_R_init 26 = .ok (.aload_n 0, 1) := by decide +kernel
theorem d_R_init_27 : decode b_R_init 27 = .ok (.new 7, 3) := by decide +kernel
theorem d_R_init_30 : decode b_R_init 30 = .ok (.dup, 1) := by decide +kernel
theorem d_R_init_31 : decode b_R_init 31 = .ok (.invokespecial 9, 3) := by decide +kernel
theorem d_R_init_34 : decode b_R_init 34 = .ok (.putfield 19, 3) := by decide +kernel
theorem d_R_init_37 : decode b_R_init 37 = .ok (.aload_n 0, 1) := by decide +kernel
theorem d_R_init_38 : decode b_R_init 38 = .ok (.new 7, 3) := by decide +kernel
theorem d_R_init_41 : decode b_R_init 41 = .ok (.dup, 1) := by decide +kernel
theorem d_R_init_42 : decode b_R_init 42 = .ok (.invokespecial 9, 3) := by decide +kernel
theorem d_R_init_45 : decode b_R_init 45 = .ok (.putfield 22, 3) := by decide +kernel
theorem d_R_init_48 : decode b_R_init 48 = .ok (.aload_n 0, 1) := by decide +kernel
theorem d_R_init_49 : decode b_R_init 49 = .ok (.new 7, 3) := by decide +kernel
theorem d_R_init_52 : decode b_R_init 52 = .ok (.dup, 1) := by decide +kernel
theorem d_R_init_53 : decode b_R_init 53 = .ok (.invokespecial 9, 3) := by decide +kernel
theorem d_R_init_56 : decode b_R_init 56 = .ok (.putfield 25, 3) := by decide +kernel
theorem d_R_init_59 : decode b_R_init 59 = .ok (.aload_n 0, 1) := by decide +kernel
theorem d_R_init_60 : decode b_R_init 60 = .ok (.new 7, 3) := by decide +kernel
theorem d_R_init_63 : decode b_R_init 63 = .ok (.dup, 1) := by decide +kernel
theorem d_R_init_64 : decode b_R_init 64 = .ok (.invokespecial 9, 3) := by decide +kernel
theorem d_R_init_67 : decode b_R_init 67 = .ok (.putfield 28, 3) := by decide +kernel
theorem d_R_init_70 : decode b_R_init 70 = .ok (.aload_n 0, 1) := by decide +kernel
theorem d_R_init_71 : decode b_R_init 71 = .ok (.new 31, 3) := by decide +kernel
theorem d_R_init_74 : decode b_R_init 74 = .ok (.dup, 1) := by decide +kernel
theorem d_R_init_75 : decode b_R_init 75 = .ok (.invokespecial 33, 3) := by decide +kernel
theorem d_R_init_78 : decode b_R_init 78 = .ok (.putfield 34, 3) := by decide +kernel
theorem d_R_init_81 : decode b_R_init 81 = .ok (.aload_n 0, 1) := by decide +kernel
theorem d_R_init_82 : decode b_R_init 82 = .ok (.new 38, 3) := by decide +kernel
theorem d_R_init_85 : decode b_R_init 85 = .ok (.dup, 1) := by decide +kernel
theorem d_R_init_86 : decode b_R_init 86 = .ok (.invokespecial 40, 3) := by decide +kernel
theorem d_R_init_89 : decode b_R_init 89 = .ok (.putfield 41, 3) := by decide +kernel
theorem d_R_init_92 : decode b_R_init 92 = .ok (.iconst 0, 1) := by decide +kernel
theorem d_R_init_93 : decode b_R_init 93 = .ok (.istore_n 1, 1) := by decide +kernel
theorem d_R_init_94 : decode b_R_init 94 = .ok (.iload_n 1, 1) := by decide +kernel
theorem d_R_init_95 : decode b_R_init 95 = .ok (.iconst 4, 1) := by decide +kernel
theorem d_R_init_96 : decode b_R_init 96 = .ok (.if_icmp .ge 25, 3) := by decide +kernel
theorem d_R_init_99 : decode b_R_init 99 = .ok (.aload_n 0, 1) := by decide +kernel
theorem d_R_init_100 : decode b_R_init 100 = .ok (.getfield 10, 3) := by decide +kernel
theorem d_R_init_103 : decode b_R_init 103 = .ok (.new 45, 3) := by decide +kernel
theorem d_R_init_106 : decode b_R_init 106 = .ok (.dup, 1) := by decide +kernel
theorem d_R_init_107 : decode b_R_init 107 = .ok (.iload_n 1, 1) := by decide +kernel
theorem d_R_init_108 : decode b_R_init 108 = .ok (.invokespecial 47, 3) := by decide +kernel
theorem d_R_init_111 : decode b_R_init 111 = .ok (.invokevirtual 50, 3) := by decide +kernel
theorem d_R_init_114 : decode b_R_init 114 = .ok (.pop, 1) := by decide +kernel
theorem d_R_init_115 : decode b_R_init 115 = .ok (.iinc 1 1, 3) := by decide +kernel
theorem d_R_init_118 : decode b_R_init 118 = .ok (.goto (-24), 3) := by decide +kernel
theorem d_R_init_121 : decode b_R_init 121 = .ok (.return_, 1) := by decide +kernel
abbrev b_F_init : ByteArray := prog_4_method_1_code
def y_F_init : MethodName := ⟨"RedactCheck$Findings", "<init>", "()V"⟩
theorem d_F_init_0 : decode b_F_init 0 = .ok (.aload_n 0, 1) := by decide +kernel
theorem d_F_init_1 : decode b_F_init 1 = .ok (.invokespecial 3, 3) := by decide +kernel
theorem d_F_init_4 : decode b_F_init 4 = .ok (.aload_n 0, 1) := by decide +kernel
theorem d_F_init_5 : decode b_F_init 5 = .ok (.sipush 500, 3) := by decide +kernel
theorem d_F_init_8 : decode b_F_init 8 = .ok (.newarray .int, 2) := by decide +kernel
theorem d_F_init_10 : decode b_F_init 10 = .ok (.putfield 9, 3) := by decide +kernel
theorem d_F_init_13 : decode b_F_init 13 = .ok (.return_, 1) := by decide +kernel
abbrev b_C_init : ByteArray := prog_3_method_1_code
def y_C_init : MethodName := ⟨"RedactCheck$Codes", "<init>", "()V"⟩
theorem d_C_init_0 : decode b_C_init 0 = .ok (.aload_n 0, 1) := by decide +kernel
theorem d_C_init_1 : decode b_C_init 1 = .ok (.invokespecial 3, 3) := by decide +kernel
theorem d_C_init_4 : decode b_C_init 4 = .ok (.aload_n 0, 1) := by decide +kernel
theorem d_C_init_5 : decode b_C_init 5 = .ok (.bipush 60, 2) := by decide +kernel
theorem d_C_init_7 : decode b_C_init 7 = .ok (.newarray .int, 2) := by decide +kernel
theorem d_C_init_9 : decode b_C_init 9 = .ok (.putfield 9, 3) := by decide +kernel
theorem d_C_init_12 : decode b_C_init 12 = .ok (.return_, 1) := by decide +kernel
abbrev b_O_init : ByteArray := prog_5_method_1_code
def y_O_init : MethodName := ⟨"RedactCheck$Row", "<init>", "()V"⟩
theorem d_O_init_0 : decode b_O_init 0 = .ok (.aload_n 0, 1) := by decide +kernel
theorem d_O_init_1 : decode b_O_init 1 = .ok (.invokespecial 1, 3) := by decide +kernel
theorem d_O_init_4 : decode b_O_init 4 = .ok (.return_, 1) := by decide +kernel
abbrev b_S_init : ByteArray := prog_6_method_1_code
def y_S_init : MethodName := ⟨"RedactCheck$SignRow", "<init>", "(I)V"⟩
theorem d_S_init_0 : decode b_S_init 0 = .ok (.aload_n 0, 1) := by decide +kernel
theorem d_S_init_1 : decode b_S_init 1 = .ok (.invokespecial 3, 3) := by decide +kernel
theorem d_S_init_4 : decode b_S_init 4 = .ok (.aload_n 0, 1) := by decide +kernel
theorem d_S_init_5 : decode b_S_init 5 = .ok (.sipush 160, 3) := by decide +kernel
theorem d_S_init_8 : decode b_S_init 8 = .ok (.newarray .int, 2) := by decide +kernel
theorem d_S_init_10 : decode b_S_init 10 = .ok (.putfield 9, 3) := by decide +kernel
theorem d_S_init_13 : decode b_S_init 13 = .ok (.aload_n 0, 1) := by decide +kernel
theorem d_S_init_14 : decode b_S_init 14 = .ok (.iload_n 1, 1) := by decide +kernel
theorem d_S_init_15 : decode b_S_init 15 = .ok (.putfield 15, 3) := by decide +kernel
theorem d_S_init_18 : decode b_S_init 18 = .ok (.return_, 1) := by decide +kernel
abbrev b_R_look : ByteArray := prog_1_method_12_code
def y_R_look : MethodName := ⟨"RedactCheck", "look", "()I"⟩
theorem d_R_look_0 : decode b_R_look 0 = .ok (.aload_n 0, 1) := by decide +kernel
theorem d_R_look_1 : decode b_R_look 1 = .ok (.getfield 34, 3) := by decide +kernel
theorem d_R_look_4 : decode b_R_look 4 = .ok (.invokevirtual 135, 3) := by decide +kernel
theorem d_R_look_7 : decode b_R_look 7 = .ok (.iconst 0, 1) := by decide +kernel
theorem d_R_look_8 : decode b_R_look 8 = .ok (.istore_n 1, 1) := by decide +kernel
theorem d_R_look_9 : decode b_R_look 9 = .ok (.iload_n 1, 1) := by decide +kernel
theorem d_R_look_10 : decode b_R_look 10 = .ok (.aload_n 0, 1) := by decide +kernel
theorem d_R_look_11 : decode b_R_look 11 = .ok (.getfield 10, 3) := by decide +kernel
theorem d_R_look_14 : decode b_R_look 14 = .ok (.invokevirtual 62, 3) := by decide +kernel
theorem d_R_look_17 : decode b_R_look 17 = .ok (.if_icmp .ge 34, 3) := by decide +kernel
theorem d_R_look_20 : decode b_R_look 20 = .ok (.aload_n 0, 1) := by decide +kernel
theorem d_R_look_21 : decode b_R_look 21 = .ok (.getfield 10, 3) := by decide +kernel
theorem d_R_look_24 : decode b_R_look 24 = .ok (.iload_n 1, 1) := by decide +kernel
theorem d_R_look_25 : decode b_R_look 25 = .ok (.invokevirtual 138, 3) := by decide +kernel
theorem d_R_look_28 : decode b_R_look 28 = .ok (.checkcast 45, 3) := by decide +kernel
theorem d_R_look_31 : decode b_R_look 31 = .ok (.aload_n 0, 1) := by decide +kernel
theorem d_R_look_32 : decode b_R_look 32 = .ok (.getfield 41, 3) := by decide +kernel
theorem d_R_look_35 : decode b_R_look 35 = .ok (.invokevirtual 142, 3) := by decide +kernel
theorem d_R_look_38 : decode b_R_look 38 = .ok (.aload_n 0, 1) := by decide +kernel
theorem d_R_look_39 : decode b_R_look 39 = .ok (.iconst 0, 1) := by decide +kernel
theorem d_R_look_40 : decode b_R_look 40 = .ok (.iload_n 1, 1) := by decide +kernel
theorem d_R_look_41 : decode b_R_look 41 = .ok (.iconst (-1), 1) := by decide +kernel
theorem d_R_look_42 : decode b_R_look 42 = .ok (.invokevirtual 146, 3) := by decide +kernel
theorem d_R_look_45 : decode b_R_look 45 = .ok (.iinc 1 1, 3) := by decide +kernel
theorem d_R_look_48 : decode b_R_look 48 = .ok (.goto (-39), 3) := by decide +kernel
theorem d_R_look_51 : decode b_R_look 51 = .ok (.iconst 0, 1) := by decide +kernel
theorem d_R_look_52 : decode b_R_look 52 = .ok (.istore_n 1, 1) := by decide +kernel
theorem d_R_look_53 : decode b_R_look 53 = .ok (.iload_n 1, 1) := by decide +kernel
theorem d_R_look_54 : decode b_R_look 54 = .ok (.aload_n 0, 1) := by decide +kernel
theorem d_R_look_55 : decode b_R_look 55 = .ok (.getfield 19, 3) := by decide +kernel
theorem d_R_look_58 : decode b_R_look 58 = .ok (.invokevirtual 62, 3) := by decide +kernel
theorem d_R_look_61 : decode b_R_look 61 = .ok (.if_icmp .ge 37, 3) := by decide +kernel
theorem d_R_look_64 : decode b_R_look 64 = .ok (.aload_n 0, 1) := by decide +kernel
theorem d_R_look_65 : decode b_R_look 65 = .ok (.getfield 19, 3) := by decide +kernel
theorem d_R_look_68 : decode b_R_look 68 = .ok (.iload_n 1, 1) := by decide +kernel
theorem d_R_look_69 : decode b_R_look 69 = .ok (.invokevirtual 138, 3) := by decide +kernel
theorem d_R_look_72 : decode b_R_look 72 = .ok (.checkcast 77, 3) := by decide +kernel
theorem d_R_look_75 : decode b_R_look 75 = .ok (.getfield 149, 3) := by decide +kernel
theorem d_R_look_78 : decode b_R_look 78 = .ok (.aload_n 0, 1) := by decide +kernel
theorem d_R_look_79 : decode b_R_look 79 = .ok (.getfield 41, 3) := by decide +kernel
theorem d_R_look_82 : decode b_R_look 82 = .ok (.invokevirtual 142, 3) := by decide +kernel
theorem d_R_look_85 : decode b_R_look 85 = .ok (.aload_n 0, 1) := by decide +kernel
theorem d_R_look_86 : decode b_R_look 86 = .ok (.iconst 1, 1) := by decide +kernel
theorem d_R_look_87 : decode b_R_look 87 = .ok (.iload_n 1, 1) := by decide +kernel
theorem d_R_look_88 : decode b_R_look 88 = .ok (.iconst (-1), 1) := by decide +kernel
theorem d_R_look_89 : decode b_R_look 89 = .ok (.invokevirtual 146, 3) := by decide +kernel
theorem d_R_look_92 : decode b_R_look 92 = .ok (.iinc 1 1, 3) := by decide +kernel
theorem d_R_look_95 : decode b_R_look 95 = .ok (.goto (-42), 3) := by decide +kernel
theorem d_R_look_98 : decode b_R_look 98 = .ok (.iconst 0, 1) := by decide +kernel
theorem d_R_look_99 : decode b_R_look 99 = .ok (.istore_n 1, 1) := by decide +kernel
theorem d_R_look_100 : decode b_R_look 100 = .ok (.iload_n 1, 1) := by decide +kernel
theorem d_R_look_101 : decode b_R_look 101 = .ok (.aload_n 0, 1) := by decide +kernel
theorem d_R_look_102 : decode b_R_look 102 = .ok (.getfield 28, 3) := by decide +kernel
theorem d_R_look_105 : decode b_R_look 105 = .ok (.invokevirtual 62, 3) := by decide +kernel
theorem d_R_look_108 : decode b_R_look 108 = .ok (.if_icmp .ge 14, 3) := by decide +kernel
theorem d_R_look_111 : decode b_R_look 111 = .ok (.aload_n 0, 1) := by decide +kernel
theorem d_R_look_112 : decode b_R_look 112 = .ok (.iload_n 1, 1) := by decide +kernel
theorem d_R_look_113 : decode b_R_look 113 = .ok (.invokevirtual 153, 3) := by decide +kernel
theorem d_R_look_116 : decode b_R_look 116 = .ok (.iinc 1 1, 3) := by decide +kernel
theorem d_R_look_119 : decode b_R_look 119 = .ok (.goto (-19), 3) := by decide +kernel
theorem d_R_look_122 : decode b_R_look 122 = .ok (.aload_n 0, 1) := by decide +kernel
theorem d_R_look_123 : decode b_R_look 123 = .ok (.getfield 34, 3) := by decide +kernel
theorem d_R_look_126 : decode b_R_look 126 = .ok (.getfield 156, 3) := by decide +kernel
theorem d_R_look_129 : decode b_R_look 129 = .ok (.ireturn, 1) := by decide +kernel
abbrev b_F_clear : ByteArray := prog_4_method_2_code
def y_F_clear : MethodName := ⟨"RedactCheck$Findings", "clear", "()V"⟩
theorem d_F_clear_0 : decode b_F_clear 0 = .ok (.aload_n 0, 1) := by decide +kernel
theorem d_F_clear_1 : decode b_F_clear 1 = .ok (.iconst 0, 1) := by decide +kernel
theorem d_F_clear_2 : decode b_F_clear 2 = .ok (.putfield 15, 3) := by decide +kernel
theorem d_F_clear_5 : decode b_F_clear 5 = .ok (.return_, 1) := by decide +kernel
abbrev b_S_readInto : ByteArray := prog_6_method_4_code
def y_S_readInto : MethodName := ⟨"RedactCheck$SignRow", "readInto", "(LRedactCheck$Codes;)V"⟩
theorem d_S_readInto_0 : decode b_S_readInto 0 = .ok (.aload_n 1, 1) := by decide +kernel
theorem d_S_readInto_1 : decode b_S_readInto 1 = .ok (.iconst 0, 1) := by decide +kernel
theorem d_S_readInto_2 : decode b_S_readInto 2 = .ok (.putfield 26, 3) := by decide +kernel
theorem d_S_readInto_5 : decode b_S_readInto 5 = .ok (.iconst 0, 1) := by decide +kernel
theorem d_S_readInto_6 : decode b_S_readInto 6 = .ok (.istore_n 2, 1) := by decide +kernel
theorem d_S_readInto_7 : decode b_S_readInto 7 = .ok (.iload_n 2, 1) := by decide +kernel
theorem d_S_readInto_8 : decode b_S_readInto 8 = .ok (.aload_n 0, 1) := by decide +kernel
theorem d_S_readInto_9 : decode b_S_readInto 9 = .ok (.getfield 19, 3) := by decide +kernel
theorem d_S_readInto_12 : decode b_S_readInto 12 = .ok (.if_icmp .ge 19, 3) := by decide +kernel
theorem d_S_readInto_15 : decode b_S_readInto 15 = .ok (.aload_n 1, 1) := by decide +kernel
theorem d_S_readInto_16 : decode b_S_readInto 16 = .ok (.aload_n 0, 1) := by decide +kernel
theorem d_S_readInto_17 : decode b_S_readInto 17 = .ok (.iload_n 2, 1) := by decide +kernel
theorem d_S_readInto_18 : decode b_S_readInto 18 = .ok (.iconst 0, 1) := by decide +kernel
theorem d_S_readInto_19 : decode b_S_readInto 19 = .ok (.invokevirtual 29, 3) := by decide +kernel
theorem d_S_readInto_22 : decode b_S_readInto 22 = .ok (.invokevirtual 33, 3) := by decide +kernel
theorem d_S_readInto_25 : decode b_S_readInto 25 = .ok (.iinc 2 1, 3) := by decide +kernel
theorem d_S_readInto_28 : decode b_S_readInto 28 = .ok (.goto (-21), 3) := by decide +kernel
theorem d_S_readInto_31 : decode b_S_readInto 31 = .ok (.return_, 1) := by decide +kernel
abbrev b_S_part : ByteArray := prog_6_method_3_code
def y_S_part : MethodName := ⟨"RedactCheck$SignRow", "part", "(II)I"⟩
theorem d_S_part_0 : decode b_S_part 0 = .ok (.iload_n 1, 1) := by decide +kernel
theorem d_S_part_1 : decode b_S_part 1 = .ok (.ifCond .lt 18, 3) := by decide +kernel
theorem d_S_part_4 : decode b_S_part 4 = .ok (.iload_n 1, 1) := by decide +kernel
theorem d_S_part_5 : decode b_S_part 5 = .ok (.bipush 40, 2) := by decide +kernel
theorem d_S_part_7 : decode b_S_part 7 = .ok (.if_icmp .ge 12, 3) := by decide +kernel
theorem d_S_part_10 : decode b_S_part 10 = .ok (.iload_n 2, 1) := by decide +kernel
theorem d_S_part_11 : decode b_S_part 11 = .ok (.ifCond .lt 8, 3) := by decide +kernel
theorem d_S_part_14 : decode b_S_part 14 = .ok (.iload_n 2, 1) := by decide +kernel
theorem d_S_part_15 : decode b_S_part 15 = .ok (.iconst 4, 1) := by decide +kernel
theorem d_S_part_16 : decode b_S_part 16 = .ok (.if_icmp .lt 5, 3) := by decide +kernel
theorem d_S_part_19 : decode b_S_part 19 = .ok (.iconst (-1), 1) := by decide +kernel
theorem d_S_part_20 : decode b_S_part 20 = .ok (.ireturn, 1) := by decide +kernel
theorem d_S_part_21 : decode b_S_part 21 = .ok (.aload_n 0, 1) := by decide +kernel
theorem d_S_part_22 : decode b_S_part 22 = .ok (.getfield 9, 3) := by decide +kernel
theorem d_S_part_25 : decode b_S_part 25 = .ok (.iload_n 1, 1) := by decide +kernel
theorem d_S_part_26 : decode b_S_part 26 = .ok (.iconst 4, 1) := by decide +kernel
theorem d_S_part_27 : decode b_S_part 27 = .ok (.imul, 1) := by decide +kernel
theorem d_S_part_28 : decode b_S_part 28 = .ok (.iload_n 2, 1) := by decide +kernel
theorem d_S_part_29 : decode b_S_part 29 = .ok (.iadd, 1) := by decide +kernel
theorem d_S_part_30 : decode b_S_part 30 = .ok (.iaload, 1) := by decide +kernel
theorem d_S_part_31 : decode b_S_part 31 = .ok (.ireturn, 1) := by decide +kernel
abbrev b_C_add : ByteArray := prog_3_method_2_code
def y_C_add : MethodName := ⟨"RedactCheck$Codes", "add", "(I)V"⟩
theorem d_C_add_0 : decode b_C_add 0 = .ok (.aload_n 0, 1) := by decide +kernel
theorem d_C_add_1 : decode b_C_add 1 = .ok (.getfield 15, 3) := by decide +kernel
theorem d_C_add_4 : decode b_C_add 4 = .ok (.ifCond .lt 35, 3) := by decide +kernel
theorem d_C_add_7 : decode b_C_add 7 = .ok (.aload_n 0, 1) := by decide +kernel
theorem d_C_add_8 : decode b_C_add 8 = .ok (.getfield 15, 3) := by decide +kernel
theorem d_C_add_11 : decode b_C_add 11 = .ok (.aload_n 0, 1) := by decide +kernel
theorem d_C_add_12 : decode b_C_add 12 = .ok (.getfield 9, 3) := by decide +kernel
theorem d_C_add_15 : decode b_C_add 15 = .ok (.arraylength, 1) := by decide +kernel
theorem d_C_add_16 : decode b_C_add 16 = .ok (.if_icmp .ge 23, 3) := by decide +kernel
theorem d_C_add_19 : decode b_C_add 19 = .ok (.aload_n 0, 1) := by decide +kernel
theorem d_C_add_20 : decode b_C_add 20 = .ok (.getfield 9, 3) := by decide +kernel
theorem d_C_add_23 : decode b_C_add 23 = .ok (.aload_n 0, 1) := by decide +kernel
theorem d_C_add_24 : decode b_C_add 24 = .ok (.getfield 15, 3) := by decide +kernel
theorem d_C_add_27 : decode b_C_add 27 = .ok (.iload_n 1, 1) := by decide +kernel
theorem d_C_add_28 : decode b_C_add 28 = .ok (.iastore, 1) := by decide +kernel
theorem d_C_add_29 : decode b_C_add 29 = .ok (.aload_n 0, 1) := by decide +kernel
theorem d_C_add_30 : decode b_C_add 30 = .ok (.dup, 1) := by decide +kernel
theorem d_C_add_31 : decode b_C_add 31 = .ok (.getfield 15, 3) := by decide +kernel
theorem d_C_add_34 : decode b_C_add 34 = .ok (.iconst 1, 1) := by decide +kernel
theorem d_C_add_35 : decode b_C_add 35 = .ok (.iadd, 1) := by decide +kernel
theorem d_C_add_36 : decode b_C_add 36 = .ok (.putfield 15, 3) := by decide +kernel
theorem d_C_add_39 : decode b_C_add 39 = .ok (.return_, 1) := by decide +kernel
abbrev b_R_findWords : ByteArray := prog_1_method_37_code
def y_R_findWords : MethodName := ⟨"RedactCheck", "findWords", "(III)V"⟩
theorem d_R_findWords_0 : decode b_R_findWords 0 = .ok (.iconst 0, 1) := by decide +kernel
theorem d_R_findWords_1 : decode b_R_findWords 1 = .ok (.istore 4, 2) := by decide +kernel
theorem d_R_findWords_3 : decode b_R_findWords 3 = .ok (.iload 4, 2) := by decide +kernel
theorem d_R_findWords_5 : decode b_R_findWords 5 = .ok (.aload_n 0, 1) := by decide +kernel
theorem d_R_findWords_6 : decode b_R_findWords 6 = .ok (.getfield 41, 3) := by decide +kernel
theorem d_R_findWords_9 : decode b_R_findWords 9 = .ok (.getfield 261, 3) := by decide +kernel
theorem d_R_findWords_12 : decode b_R_findWords 12 = .ok (.if_icmp .ge 68, 3) := by decide +kernel
theorem d_R_findWords_15 : decode b_R_findWords 15 = .ok (.iconst 0, 1) := by decide +kernel
theorem d_R_findWords_16 : decode b_R_findWords 16 = .ok (.istore 5, 2) := by decide +kernel
theorem d_R_findWords_18 : decode b_R_findWords 18 = .ok (.iload 5, 2) := by decide +kernel
theorem d_R_findWords_20 : decode b_R_findWords 20 = .ok (.aload_n 0, 1) := by decide +kernel
theorem d_R_findWords_21 : decode b_R_findWords 21 = .ok (.getfield 22, 3) := by decide +kernel
theorem d_R_findWords_24 : decode b_R_findWords 24 = .ok (.invokevirtual 62, 3) := by decide +kernel
theorem d_R_findWords_27 : decode b_R_findWords 27 = .ok (.if_icmp .ge 47, 3) := by decide +kernel
theorem d_R_findWords_30 : decode b_R_findWords 30 = .ok (.aload_n 0, 1) := by decide +kernel
theorem d_R_findWords_31 : decode b_R_findWords 31 = .ok (.getfield 22, 3) := by decide +kernel
theorem d_R_findWords_34 : decode b_R_findWords 34 = .ok (.iload 5, 2) := by decide +kernel
theorem d_R_findWords_36 : decode b_R_findWords 36 = .ok (.invokevirtual 138, 3) := by decide +kernel
theorem d_R_findWords_39 : decode b_R_findWords 39 = .ok (.checkcast 82, 3) := by decide +kernel
theorem d_R_findWords_42 : decode b_R_findWords 42 = .ok (.aload_n 0, 1) := by decide +kernel
theorem d_R_findWords_43 : decode b_R_findWords 43 = .ok (.getfield 41, 3) := by decide +kernel
theorem d_R_findWords_46 : decode b_R_findWords 46 = .ok (.iload 4, 2) := by decide +kernel
theorem d_R_findWords_48 : decode b_R_findWords 48 = .ok (.invokevirtual 262, 3) := by decide +kernel
theorem d_R_findWords_51 : decode b_R_findWords 51 = .ok (.ifCond .eq 17, 3) := by decide +kernel
theorem d_R_findWords_54 : decode b_R_findWords 54 = .ok (.aload_n 0, 1) := by decide +kernel
theorem d_R_findWords_55 : decode b_R_findWords 55 = .ok (.getfield 34, 3) := by decide +kernel
theorem d_R_findWords_58 : decode b_R_findWords 58 = .ok (.iload_n 1, 1) := by decide +kernel
theorem d_R_findWords_59 : decode b_R_findWords 59 = .ok (.iload_n 2, 1) := by decide +kernel
theorem d_R_findWords_60 : decode b_R_findWords 60 = .ok (.iload 4, 2) := by decide +kernel
theorem d_R_findWords_62 : decode b_R_findWords 62 = .ok (.iload 5, 2) := by decide +kernel
theorem d_R_findWords_64 : decode b_R_findWords 64 = .ok (.iload_n 3, 1) := by decide +kernel
theorem d_R_findWords_65 : decode b_R_findWords 65 = .ok (.invokevirtual 265, 3) := by decide +kernel
theorem d_R_findWords_68 : decode b_R_findWords 68 = .ok (.iinc 5 1, 3) := by decide +kernel
theorem d_R_findWords_71 : decode b_R_findWords 71 = .ok (.goto (-53), 3) := by decide +kernel
theorem d_R_findWords_74 : decode b_R_findWords 74 = .ok (.iinc 4 1, 3) := by decide +kernel
theorem d_R_findWords_77 : decode b_R_findWords 77 = .ok (.goto (-74), 3) := by decide +kernel
theorem d_R_findWords_80 : decode b_R_findWords 80 = .ok (.return_, 1) := by decide +kernel
abbrev b_D_standsIn : ByteArray := prog_9_method_3_code
def y_D_standsIn : MethodName := ⟨"RedactCheck$Word", "standsIn", "(LRedactCheck$Codes;I)Z"⟩
theorem d_D_standsIn_0 : decode b_D_standsIn 0 = .ok (.aload_n 0, 1) := by decide +kernel
theorem d_D_standsIn_1 : decode b_D_standsIn 1 = .ok (.getfield 15, 3) := by decide +kernel
theorem d_D_standsIn_4 : decode b_D_standsIn 4 = .ok (.ifCond .eq 16, 3) := by decide +kernel
theorem d_D_standsIn_7 : decode b_D_standsIn 7 = .ok (.iload_n 2, 1) := by decide +kernel
theorem d_D_standsIn_8 : decode b_D_standsIn 8 = .ok (.aload_n 0, 1) := by decide +kernel
theorem d_D_standsIn_9 : decode b_D_standsIn 9 = .ok (.getfield 15, 3) := by decide +kernel
theorem d_D_standsIn_12 : decode b_D_standsIn 12 = .ok (.iadd, 1) := by decide +kernel
theorem d_D_standsIn_13 : decode b_D_standsIn 13 = .ok (.aload_n 1, 1) := by decide +kernel
theorem d_D_standsIn_14 : decode b_D_standsIn 14 = .ok (.getfield 19, 3) := by decide +kernel
theorem d_D_standsIn_17 : decode b_D_standsIn 17 = .ok (.if_icmp .le 5, 3) := by decide +kernel
theorem d_D_standsIn_20 : decode b_D_standsIn 20 = .ok (.iconst 0, 1) := by decide +kernel
theorem d_D_standsIn_21 : decode b_D_standsIn 21 = .ok (.ireturn, 1) := by decide +kernel
theorem d_D_standsIn_22 : decode b_D_standsIn 22 = .ok (.iconst 0, 1) := by decide +kernel
theorem d_D_standsIn_23 : decode b_D_standsIn 23 = .ok (.istore_n 3, 1) := by decide +kernel
theorem d_D_standsIn_24 : decode b_D_standsIn 24 = .ok (.iload_n 3, 1) := by decide +kernel
theorem d_D_standsIn_25 : decode b_D_standsIn 25 = .ok (.aload_n 0, 1) := by decide +kernel
theorem d_D_standsIn_26 : decode b_D_standsIn 26 = .ok (.getfield 15, 3) := by decide +kernel
theorem d_D_standsIn_29 : decode b_D_standsIn 29 = .ok (.if_icmp .ge 36, 3) := by decide +kernel
theorem d_D_standsIn_32 : decode b_D_standsIn 32 = .ok (.iload_n 3, 1) := by decide +kernel
theorem d_D_standsIn_33 : decode b_D_standsIn 33 = .ok (.aload_n 0, 1) := by decide +kernel
theorem d_D_standsIn_34 : decode b_D_standsIn 34 = .ok (.getfield 9, 3) := by decide +kernel
theorem d_D_standsIn_37 : decode b_D_standsIn 37 = .ok (.arraylength, 1) := by decide +kernel
theorem d_D_standsIn_38 : decode b_D_standsIn 38 = .ok (.if_icmp .ge 27, 3) := by decide +kernel
theorem d_D_standsIn_41 : decode b_D_standsIn 41 = .ok (.aload_n 1, 1) := by decide +kernel
theorem d_D_standsIn_42 : decode b_D_standsIn 42 = .ok (.iload_n 2, 1) := by decide +kernel
theorem d_D_standsIn_43 : decode b_D_standsIn 43 = .ok (.iload_n 3, 1) := by decide +kernel
theorem d_D_standsIn_44 : decode b_D_standsIn 44 = .ok (.iadd, 1) := by decide +kernel
theorem d_D_standsIn_45 : decode b_D_standsIn 45 = .ok (.invokevirtual 22, 3) := by decide +kernel
theorem d_D_standsIn_48 : decode b_D_standsIn 48 = .ok (.aload_n 0, 1) := by decide +kernel
theorem d_D_standsIn_49 : decode b_D_standsIn 49 = .ok (.getfield 9, 3) := by decide +kernel
theorem d_D_standsIn_52 : decode b_D_standsIn 52 = .ok (.iload_n 3, 1) := by decide +kernel
theorem d_D_standsIn_53 : decode b_D_standsIn 53 = .ok (.iaload, 1) := by decide +kernel
theorem d_D_standsIn_54 : decode b_D_standsIn 54 = .ok (.if_icmp .eq 5, 3) := by decide +kernel
theorem d_D_standsIn_57 : decode b_D_standsIn 57 = .ok (.iconst 0, 1) := by decide +kernel
theorem d_D_standsIn_58 : decode b_D_standsIn 58 = .ok (.ireturn, 1) := by decide +kernel
theorem d_D_standsIn_59 : decode b_D_standsIn 59 = .ok (.iinc 3 1, 3) := by decide +kernel
theorem d_D_standsIn_62 : decode b_D_standsIn 62 = .ok (.goto (-38), 3) := by decide +kernel
theorem d_D_standsIn_65 : decode b_D_standsIn 65 = .ok (.iconst 1, 1) := by decide +kernel
theorem d_D_standsIn_66 : decode b_D_standsIn 66 = .ok (.ireturn, 1) := by decide +kernel
abbrev b_C_value : ByteArray := prog_3_method_3_code
def y_C_value : MethodName := ⟨"RedactCheck$Codes", "value", "(I)I"⟩
theorem d_C_value_0 : decode b_C_value 0 = .ok (.iload_n 1, 1) := by decide +kernel
theorem d_C_value_1 : decode b_C_value 1 = .ok (.ifCond .lt 29, 3) := by decide +kernel
theorem d_C_value_4 : decode b_C_value 4 = .ok (.iload_n 1, 1) := by decide +kernel
theorem d_C_value_5 : decode b_C_value 5 = .ok (.aload_n 0, 1) := by decide +kernel
theorem d_C_value_6 : decode b_C_value 6 = .ok (.getfield 15, 3) := by decide +kernel
theorem d_C_value_9 : decode b_C_value 9 = .ok (.if_icmp .ge 21, 3) := by decide +kernel
theorem d_C_value_12 : decode b_C_value 12 = .ok (.iload_n 1, 1) := by decide +kernel
theorem d_C_value_13 : decode b_C_value 13 = .ok (.aload_n 0, 1) := by decide +kernel
theorem d_C_value_14 : decode b_C_value 14 = .ok (.getfield 9, 3) := by decide +kernel
theorem d_C_value_17 : decode b_C_value 17 = .ok (.arraylength, 1) := by decide +kernel
theorem d_C_value_18 : decode b_C_value 18 = .ok (.if_icmp .ge 12, 3) := by decide +kernel
theorem d_C_value_21 : decode b_C_value 21 = .ok (.aload_n 0, 1) := by decide +kernel
theorem d_C_value_22 : decode b_C_value 22 = .ok (.getfield 9, 3) := by decide +kernel
theorem d_C_value_25 : decode b_C_value 25 = .ok (.iload_n 1, 1) := by decide +kernel
theorem d_C_value_26 : decode b_C_value 26 = .ok (.iaload, 1) := by decide +kernel
theorem d_C_value_27 : decode b_C_value 27 = .ok (.goto 4, 3) := by decide +kernel
theorem d_C_value_30 : decode b_C_value 30 = .ok (.iconst (-1), 1) := by decide +kernel
theorem d_C_value_31 : decode b_C_value 31 = .ok (.ireturn, 1) := by decide +kernel
abbrev b_F_add : ByteArray := prog_4_method_3_code
def y_F_add : MethodName := ⟨"RedactCheck$Findings", "add", "(IIIII)V"⟩
theorem d_F_add_0 : decode b_F_add 0 = .ok (.aload_n 0, 1) := by decide +kernel
theorem d_F_add_1 : decode b_F_add 1 = .ok (.getfield 15, 3) := by decide +kernel
theorem d_F_add_4 : decode b_F_add 4 = .ok (.ifCond .lt 12, 3) := by decide +kernel
theorem d_F_add_7 : decode b_F_add 7 = .ok (.aload_n 0, 1) := by decide +kernel
theorem d_F_add_8 : decode b_F_add 8 = .ok (.getfield 15, 3) := by decide +kernel
theorem d_F_add_11 : decode b_F_add 11 = .ok (.bipush 100, 2) := by decide +kernel
theorem d_F_add_13 : decode b_F_add 13 = .ok (.if_icmp .lt 4, 3) := by decide +kernel
theorem d_F_add_16 : decode b_F_add 16 = .ok (.return_, 1) := by decide +kernel
theorem d_F_add_17 : decode b_F_add 17 = .ok (.aload_n 0, 1) := by decide +kernel
theorem d_F_add_18 : decode b_F_add 18 = .ok (.getfield 15, 3) := by decide +kernel
theorem d_F_add_21 : decode b_F_add 21 = .ok (.iconst 5, 1) := by decide +kernel
theorem d_F_add_22 : decode b_F_add 22 = .ok (.imul, 1) := by decide +kernel
theorem d_F_add_23 : decode b_F_add 23 = .ok (.istore 6, 2) := by decide +kernel
theorem d_F_add_25 : decode b_F_add 25 = .ok (.aload_n 0, 1) := by decide +kernel
theorem d_F_add_26 : decode b_F_add 26 = .ok (.getfield 9, 3) := by decide +kernel
theorem d_F_add_29 : decode b_F_add 29 = .ok (.iload 6, 2) := by decide +kernel
theorem d_F_add_31 : decode b_F_add 31 = .ok (.iload_n 1, 1) := by decide +kernel
theorem d_F_add_32 : decode b_F_add 32 = .ok (.iastore, 1) := by decide +kernel
theorem d_F_add_33 : decode b_F_add 33 = .ok (.aload_n 0, 1) := by decide +kernel
theorem d_F_add_34 : decode b_F_add 34 = .ok (.getfield 9, 3) := by decide +kernel
theorem d_F_add_37 : decode b_F_add 37 = .ok (.iload 6, 2) := by decide +kernel
theorem d_F_add_39 : decode b_F_add 39 = .ok (.iconst 1, 1) := by decide +kernel
theorem d_F_add_40 : decode b_F_add 40 = .ok (.iadd, 1) := by decide +kernel
theorem d_F_add_41 : decode b_F_add 41 = .ok (.iload_n 2, 1) := by decide +kernel
theorem d_F_add_42 : decode b_F_add 42 = .ok (.iastore, 1) := by decide +kernel
theorem d_F_add_43 : decode b_F_add 43 = .ok (.aload_n 0, 1) := by decide +kernel
theorem d_F_add_44 : decode b_F_add 44 = .ok (.getfield 9, 3) := by decide +kernel
theorem d_F_add_47 : decode b_F_add 47 = .ok (.iload 6, 2) := by decide +kernel
theorem d_F_add_49 : decode b_F_add 49 = .ok (.iconst 2, 1) := by decide +kernel
theorem d_F_add_50 : decode b_F_add 50 = .ok (.iadd, 1) := by decide +kernel
theorem d_F_add_51 : decode b_F_add 51 = .ok (.iload_n 3, 1) := by decide +kernel
theorem d_F_add_52 : decode b_F_add 52 = .ok (.iastore, 1) := by decide +kernel
theorem d_F_add_53 : decode b_F_add 53 = .ok (.aload_n 0, 1) := by decide +kernel
theorem d_F_add_54 : decode b_F_add 54 = .ok (.getfield 9, 3) := by decide +kernel
theorem d_F_add_57 : decode b_F_add 57 = .ok (.iload 6, 2) := by decide +kernel
theorem d_F_add_59 : decode b_F_add 59 = .ok (.iconst 3, 1) := by decide +kernel
theorem d_F_add_60 : decode b_F_add 60 = .ok (.iadd, 1) := by decide +kernel
theorem d_F_add_61 : decode b_F_add 61 = .ok (.iload 4, 2) := by decide +kernel
theorem d_F_add_63 : decode b_F_add 63 = .ok (.iastore, 1) := by decide +kernel
theorem d_F_add_64 : decode b_F_add 64 = .ok (.aload_n 0, 1) := by decide +kernel
theorem d_F_add_65 : decode b_F_add 65 = .ok (.getfield 9, 3) := by decide +kernel
theorem d_F_add_68 : decode b_F_add 68 = .ok (.iload 6, 2) := by decide +kernel
theorem d_F_add_70 : decode b_F_add 70 = .ok (.iconst 4, 1) := by decide +kernel
theorem d_F_add_71 : decode b_F_add 71 = .ok (.iadd, 1) := by decide +kernel
theorem d_F_add_72 : decode b_F_add 72 = .ok (.iload 5, 2) := by decide +kernel
theorem d_F_add_74 : decode b_F_add 74 = .ok (.iastore, 1) := by decide +kernel
theorem d_F_add_75 : decode b_F_add 75 = .ok (.aload_n 0, 1) := by decide +kernel
theorem d_F_add_76 : decode b_F_add 76 = .ok (.dup, 1) := by decide +kernel
theorem d_F_add_77 : decode b_F_add 77 = .ok (.getfield 15, 3) := by decide +kernel
theorem d_F_add_80 : decode b_F_add 80 = .ok (.iconst 1, 1) := by decide +kernel
theorem d_F_add_81 : decode b_F_add 81 = .ok (.iadd, 1) := by decide +kernel
theorem d_F_add_82 : decode b_F_add 82 = .ok (.putfield 15, 3) := by decide +kernel
theorem d_F_add_85 : decode b_F_add 85 = .ok (.return_, 1) := by decide +kernel
abbrev b_R_lookThroughStore : ByteArray := prog_1_method_36_code
def y_R_lookThroughStore : MethodName := ⟨"RedactCheck", "lookThroughStore", "(I)V"⟩
theorem d_R_lookThroughStore_0 : decode b_R_lookThroughStore 0 = .ok (.iload_n 1, 1) := by decide +kernel
theorem d_R_lookThroughStore_1 : decode b_R_lookThroughStore 1 = .ok (.ifCond .lt 14, 3) := by decide +kernel
theorem d_R_lookThroughStore_4 : decode b_R_lookThroughStore 4 = .ok (.iload_n 1, 1) := by decide +kernel
theorem d_R_lookThroughStore_5 : decode b_R_lookThroughStore 5 = .ok (.aload_n 0, 1) := by decide +kernel
theorem d_R_lookThroughStore_6 : decode b_R_lookThroughStore 6 = .ok (.getfield 28, 3) := by decide +kernel
theorem d_R_lookThroughStore_9 : decode b_R_lookThroughStore 9 = .ok (.invokevirtual 62, 3) := by decide +kernel
theorem d_R_lookThroughStore_12 : decode b_R_lookThroughStore 12 = .ok (.if_icmp .lt 4, 3) := by decide +kernel
theorem d_R_lookThroughStore_15 : decode b_R_lookThroughStore 15 = .ok (.return_, 1) := by decide +kernel
theorem d_R_lookThroughStore_16 : decode b_R_lookThroughStore 16 = .ok (.aload_n 0, 1) := by decide +kernel
theorem d_R_lookThroughStore_17 : decode b_R_lookThroughStore 17 = .ok (.getfield 28, 3) := by decide +kernel
theorem d_R_lookThroughStore_20 : decode b_R_lookThroughStore 20 = .ok (.iload_n 1, 1) := by decide +kernel
theorem d_R_lookThroughStore_21 : decode b_R_lookThroughStore 21 = .ok (.invokevirtual 138, 3) := by decide +kernel
theorem d_R_lookThroughStore_24 : decode b_R_lookThroughStore 24 = .ok (.checkcast 107, 3) := by decide +kernel
theorem d_R_lookThroughStore_27 : decode b_R_lookThroughStore 27 = .ok (.astore_n 2, 1) := by decide +kernel
theorem d_R_lookThroughStore_28 : decode b_R_lookThroughStore 28 = .ok (.iconst 0, 1) := by decide +kernel
theorem d_R_lookThroughStore_29 : decode b_R_lookThroughStore 29 = .ok (.istore_n 3, 1) := by decide +kernel
theorem d_R_lookThroughStore_30 : decode b_R_lookThroughStore 30 = .ok (.iload_n 3, 1) := by decide +kernel
theorem d_R_lookThroughStore_31 : decode b_R_lookThroughStore 31 = .ok (.iconst 4, 1) := by decide +kernel
theorem d_R_lookThroughStore_32 : decode b_R_lookThroughStore 32 = .ok (.if_icmp .ge 28, 3) := by decide +kernel
theorem d_R_lookThroughStore_35 : decode b_R_lookThroughStore 35 = .ok (.aload_n 2, 1) := by decide +kernel
theorem d_R_lookThroughStore_36 : decode b_R_lookThroughStore 36 = .ok (.aload_n 0, 1) := by decide +kernel
theorem d_R_lookThroughStore_37 : decode b_R_lookThroughStore 37 = .ok (.getfield 41, 3) := by decide +kernel
theorem d_R_lookThroughStore_40 : decode b_R_lookThroughStore 40 = .ok (.iload_n 3, 1) := by decide +kernel
theorem d_R_lookThroughStore_41 : decode b_R_lookThroughStore 41 = .ok (.invokevirtual 238, 3) := by decide +kernel
theorem d_R_lookThroughStore_44 : decode b_R_lookThroughStore 44 = .ok (.ifCond .eq 10, 3) := by decide +kernel
theorem d_R_lookThroughStore_47 : decode b_R_lookThroughStore 47 = .ok (.aload_n 0, 1) := by decide +kernel
theorem d_R_lookThroughStore_48 : decode b_R_lookThroughStore 48 = .ok (.iconst 2, 1) := by decide +kernel
theorem d_R_lookThroughStore_49 : decode b_R_lookThroughStore 49 = .ok (.iload_n 1, 1) := by decide +kernel
theorem d_R_lookThroughStore_50 : decode b_R_lookThroughStore 50 = .ok (.iload_n 3, 1) := by decide +kernel
theorem d_R_lookThroughStore_51 : decode b_R_lookThroughStore 51 = .ok (.invokevirtual 146, 3) := by decide +kernel
theorem d_R_lookThroughStore_54 : decode b_R_lookThroughStore 54 = .ok (.iinc 3 1, 3) := by decide +kernel
theorem d_R_lookThroughStore_57 : decode b_R_lookThroughStore 57 = .ok (.goto (-27), 3) := by decide +kernel
theorem d_R_lookThroughStore_60 : decode b_R_lookThroughStore 60 = .ok (.return_, 1) := by decide +kernel
abbrev b_T_readInto : ByteArray := prog_7_method_4_code
def y_T_readInto : MethodName := ⟨"RedactCheck$Store", "readInto", "(LRedactCheck$Codes;I)Z"⟩
theorem d_T_readInto_0 : decode b_T_readInto 0 = .ok (.aload_n 1, 1) := by decide +kernel
theorem d_T_readInto_1 : decode b_T_readInto 1 = .ok (.iconst 0, 1) := by decide +kernel
theorem d_T_readInto_2 : decode b_T_readInto 2 = .ok (.putfield 22, 3) := by decide +kernel
theorem d_T_readInto_5 : decode b_T_readInto 5 = .ok (.iload_n 2, 1) := by decide +kernel
theorem d_T_readInto_6 : decode b_T_readInto 6 = .ok (.ifCond .ne 7, 3) := by decide +kernel
theorem d_T_readInto_9 : decode b_T_readInto 9 = .ok (.iconst 1, 1) := by decide +kernel
theorem d_T_readInto_10 : decode b_T_readInto 10 = .ok (.goto 4, 3) := by decide +kernel
theorem d_T_readInto_13 : decode b_T_readInto 13 = .ok (.iconst 2, 1) := by decide +kernel
theorem d_T_readInto_14 : decode b_T_readInto 14 = .ok (.istore_n 3, 1) := by decide +kernel
theorem d_T_readInto_15 : decode b_T_readInto 15 = .ok (.iconst 0, 1) := by decide +kernel
theorem d_T_readInto_16 : decode b_T_readInto 16 = .ok (.istore 4, 2) := by decide +kernel
theorem d_T_readInto_18 : decode b_T_readInto 18 = .ok (.iload 4, 2) := by decide +kernel
theorem d_T_readInto_20 : decode b_T_readInto 20 = .ok (.aload_n 0, 1) := by decide +kernel
theorem d_T_readInto_21 : decode b_T_readInto 21 = .ok (.getfield 19, 3) := by decide +kernel
theorem d_T_readInto_24 : decode b_T_readInto 24 = .ok (.if_icmp .ge 46, 3) := by decide +kernel
theorem d_T_readInto_27 : decode b_T_readInto 27 = .ok (.iload_n 2, 1) := by decide +kernel
theorem d_T_readInto_28 : decode b_T_readInto 28 = .ok (.aload_n 0, 1) := by decide +kernel
theorem d_T_readInto_29 : decode b_T_readInto 29 = .ok (.iload 4, 2) := by decide +kernel
theorem d_T_readInto_31 : decode b_T_readInto 31 = .ok (.invokevirtual 25, 3) := by decide +kernel
theorem d_T_readInto_34 : decode b_T_readInto 34 = .ok (.aload_n 0, 1) := by decide +kernel
theorem d_T_readInto_35 : decode b_T_readInto 35 = .ok (.iload 4, 2) := by decide +kernel
theorem d_T_readInto_37 : decode b_T_readInto 37 = .ok (.iconst 1, 1) := by decide +kernel
theorem d_T_readInto_38 : decode b_T_readInto 38 = .ok (.iadd, 1) := by decide +kernel
theorem d_T_readInto_39 : decode b_T_readInto 39 = .ok (.invokevirtual 25, 3) := by decide +kernel
theorem d_T_readInto_42 : decode b_T_readInto 42 = .ok (.invokestatic 29, 3) := by decide +kernel
theorem d_T_readInto_45 : decode b_T_readInto 45 = .ok (.istore 5, 2) := by decide +kernel
theorem d_T_readInto_47 : decode b_T_readInto 47 = .ok (.iload 5, 2) := by decide +kernel
theorem d_T_readInto_49 : decode b_T_readInto 49 = .ok (.iconst (-1), 1) := by decide +kernel
theorem d_T_readInto_50 : decode b_T_readInto 50 = .ok (.if_icmp .ne 5, 3) := by decide +kernel
theorem d_T_readInto_53 : decode b_T_readInto 53 = .ok (.iconst 0, 1) := by decide +kernel
theorem d_T_readInto_54 : decode b_T_readInto 54 = .ok (.ireturn, 1) := by decide +kernel
theorem d_T_readInto_55 : decode b_T_readInto 55 = .ok (.aload_n 1, 1) := by decide +kernel
theorem d_T_readInto_56 : decode b_T_readInto 56 = .ok (.iload 5, 2) := by decide +kernel
theorem d_T_readInto_58 : decode b_T_readInto 58 = .ok (.invokevirtual 33, 3) := by decide +kernel
theorem d_T_readInto_61 : decode b_T_readInto 61 = .ok (.iload 4, 2) := by decide +kernel
theorem d_T_readInto_63 : decode b_T_readInto 63 = .ok (.iload_n 3, 1) := by decide +kernel
theorem d_T_readInto_64 : decode b_T_readInto 64 = .ok (.iadd, 1) := by decide +kernel
theorem d_T_readInto_65 : decode b_T_readInto 65 = .ok (.istore 4, 2) := by decide +kernel
theorem d_T_readInto_67 : decode b_T_readInto 67 = .ok (.goto (-49), 3) := by decide +kernel
theorem d_T_readInto_70 : decode b_T_readInto 70 = .ok (.iconst 1, 1) := by decide +kernel
theorem d_T_readInto_71 : decode b_T_readInto 71 = .ok (.ireturn, 1) := by decide +kernel
abbrev b_T_unsigned : ByteArray := prog_7_method_7_code
def y_T_unsigned : MethodName := ⟨"RedactCheck$Store", "unsigned", "(I)I"⟩
theorem d_T_unsigned_0 : decode b_T_unsigned 0 = .ok (.iload_n 1, 1) := by decide +kernel
theorem d_T_unsigned_1 : decode b_T_unsigned 1 = .ok (.aload_n 0, 1) := by decide +kernel
theorem d_T_unsigned_2 : decode b_T_unsigned 2 = .ok (.getfield 19, 3) := by decide +kernel
theorem d_T_unsigned_5 : decode b_T_unsigned 5 = .ok (.if_icmp .ge 15, 3) := by decide +kernel
theorem d_T_unsigned_8 : decode b_T_unsigned 8 = .ok (.aload_n 0, 1) := by decide +kernel
theorem d_T_unsigned_9 : decode b_T_unsigned 9 = .ok (.iload_n 1, 1) := by decide +kernel
theorem d_T_unsigned_10 : decode b_T_unsigned 10 = .ok (.invokevirtual 50, 3) := by decide +kernel
theorem d_T_unsigned_13 : decode b_T_unsigned 13 = .ok (.sipush 255, 3) := by decide +kernel
theorem d_T_unsigned_16 : decode b_T_unsigned 16 = .ok (.iand, 1) := by decide +kernel
theorem d_T_unsigned_17 : decode b_T_unsigned 17 = .ok (.goto 4, 3) := by decide +kernel
theorem d_T_unsigned_20 : decode b_T_unsigned 20 = .ok (.iconst (-1), 1) := by decide +kernel
theorem d_T_unsigned_21 : decode b_T_unsigned 21 = .ok (.ireturn, 1) := by decide +kernel
abbrev b_T_value : ByteArray := prog_7_method_3_code
def y_T_value : MethodName := ⟨"RedactCheck$Store", "value", "(I)B"⟩
theorem d_T_value_0 : decode b_T_value 0 = .ok (.iload_n 1, 1) := by decide +kernel
theorem d_T_value_1 : decode b_T_value 1 = .ok (.ifCond .lt 21, 3) := by decide +kernel
theorem d_T_value_4 : decode b_T_value 4 = .ok (.iload_n 1, 1) := by decide +kernel
theorem d_T_value_5 : decode b_T_value 5 = .ok (.aload_n 0, 1) := by decide +kernel
theorem d_T_value_6 : decode b_T_value 6 = .ok (.getfield 9, 3) := by decide +kernel
theorem d_T_value_9 : decode b_T_value 9 = .ok (.arraylength, 1) := by decide +kernel
theorem d_T_value_10 : decode b_T_value 10 = .ok (.if_icmp .ge 12, 3) := by decide +kernel
theorem d_T_value_13 : decode b_T_value 13 = .ok (.aload_n 0, 1) := by decide +kernel
theorem d_T_value_14 : decode b_T_value 14 = .ok (.getfield 9, 3) := by decide +kernel
theorem d_T_value_17 : decode b_T_value 17 = .ok (.iload_n 1, 1) := by decide +kernel
theorem d_T_value_18 : decode b_T_value 18 = .ok (.baload, 1) := by decide +kernel
theorem d_T_value_19 : decode b_T_value 19 = .ok (.goto 4, 3) := by decide +kernel
theorem d_T_value_22 : decode b_T_value 22 = .ok (.iconst 0, 1) := by decide +kernel
theorem d_T_value_23 : decode b_T_value 23 = .ok (.ireturn, 1) := by decide +kernel
abbrev b_T_decode : ByteArray := prog_7_method_8_code
def y_T_decode : MethodName := ⟨"RedactCheck$Store", "decode", "(III)I"⟩
theorem d_T_decode_0 : decode b_T_decode 0 = .ok (.iload_n 0, 1) := by decide +kernel
theorem d_T_decode_1 : decode b_T_decode 1 = .ok (.tableswitch 49 0 2 #[27, 29, 39], 27) := by decide +kernel
theorem d_T_decode_28 : decode b_T_decode 28 = .ok (.iload_n 1, 1) := by decide +kernel
theorem d_T_decode_29 : decode b_T_decode 29 = .ok (.ireturn, 1) := by decide +kernel
theorem d_T_decode_30 : decode b_T_decode 30 = .ok (.iload_n 1, 1) := by decide +kernel
theorem d_T_decode_31 : decode b_T_decode 31 = .ok (.ifCond .ne 7, 3) := by decide +kernel
theorem d_T_decode_34 : decode b_T_decode 34 = .ok (.iload_n 2, 1) := by decide +kernel
theorem d_T_decode_35 : decode b_T_decode 35 = .ok (.goto 4, 3) := by decide +kernel
theorem d_T_decode_38 : decode b_T_decode 38 = .ok (.iconst (-1), 1) := by decide +kernel
theorem d_T_decode_39 : decode b_T_decode 39 = .ok (.ireturn, 1) := by decide +kernel
theorem d_T_decode_40 : decode b_T_decode 40 = .ok (.iload_n 2, 1) := by decide +kernel
theorem d_T_decode_41 : decode b_T_decode 41 = .ok (.ifCond .ne 7, 3) := by decide +kernel
theorem d_T_decode_44 : decode b_T_decode 44 = .ok (.iload_n 1, 1) := by decide +kernel
theorem d_T_decode_45 : decode b_T_decode 45 = .ok (.goto 4, 3) := by decide +kernel
theorem d_T_decode_48 : decode b_T_decode 48 = .ok (.iconst (-1), 1) := by decide +kernel
theorem d_T_decode_49 : decode b_T_decode 49 = .ok (.ireturn, 1) := by decide +kernel
theorem d_T_decode_50 : decode b_T_decode 50 = .ok (.iload_n 1, 1) := by decide +kernel
theorem d_T_decode_51 : decode b_T_decode 51 = .ok (.invokestatic 52, 3) := by decide +kernel
theorem d_T_decode_54 : decode b_T_decode 54 = .ok (.istore_n 3, 1) := by decide +kernel
theorem d_T_decode_55 : decode b_T_decode 55 = .ok (.iload_n 2, 1) := by decide +kernel
theorem d_T_decode_56 : decode b_T_decode 56 = .ok (.invokestatic 52, 3) := by decide +kernel
theorem d_T_decode_59 : decode b_T_decode 59 = .ok (.istore 4, 2) := by decide +kernel
theorem d_T_decode_61 : decode b_T_decode 61 = .ok (.iload_n 3, 1) := by decide +kernel
theorem d_T_decode_62 : decode b_T_decode 62 = .ok (.iconst (-1), 1) := by decide +kernel
theorem d_T_decode_63 : decode b_T_decode 63 = .ok (.if_icmp .eq 9, 3) := by decide +kernel
theorem d_T_decode_66 : decode b_T_decode 66 = .ok (.iload 4, 2) := by decide +kernel
theorem d_T_decode_68 : decode b_T_decode 68 = .ok (.iconst (-1), 1) := by decide +kernel
theorem d_T_decode_69 : decode b_T_decode 69 = .ok (.if_icmp .ne 7, 3) := by decide +kernel
theorem d_T_decode_72 : decode b_T_decode 72 = .ok (.iconst (-1), 1) := by decide +kernel
theorem d_T_decode_73 : decode b_T_decode 73 = .ok (.goto 10, 3) := by decide +kernel
theorem d_T_decode_76 : decode b_T_decode 76 = .ok (.iload_n 3, 1) := by decide +kernel
theorem d_T_decode_77 : decode b_T_decode 77 = .ok (.bipush 16, 2) := by decide +kernel
theorem d_T_decode_79 : decode b_T_decode 79 = .ok (.imul, 1) := by decide +kernel
theorem d_T_decode_80 : decode b_T_decode 80 = .ok (.iload 4, 2) := by decide +kernel
theorem d_T_decode_82 : decode b_T_decode 82 = .ok (.iadd, 1) := by decide +kernel
theorem d_T_decode_83 : decode b_T_decode 83 = .ok (.ireturn, 1) := by decide +kernel
abbrev b_T_valueOfDigit : ByteArray := prog_7_method_9_code
def y_T_valueOfDigit : MethodName := ⟨"RedactCheck$Store", "valueOfDigit", "(I)I"⟩
theorem d_T_valueOfDigit_0 : decode b_T_valueOfDigit 0 = .ok (.iload_n 0, 1) := by decide +kernel
theorem d_T_valueOfDigit_1 : decode b_T_valueOfDigit 1 = .ok (.bipush 48, 2) := by decide +kernel
theorem d_T_valueOfDigit_3 : decode b_T_valueOfDigit 3 = .ok (.if_icmp .lt 14, 3) := by decide +kernel
theorem d_T_valueOfDigit_6 : decode b_T_valueOfDigit 6 = .ok (.iload_n 0, 1) := by decide +kernel
theorem d_T_valueOfDigit_7 : decode b_T_valueOfDigit 7 = .ok (.bipush 57, 2) := by decide +kernel
theorem d_T_valueOfDigit_9 : decode b_T_valueOfDigit 9 = .ok (.if_icmp .gt 8, 3) := by decide +kernel
theorem d_T_valueOfDigit_12 : decode b_T_valueOfDigit 12 = .ok (.iload_n 0, 1) := by decide +kernel
theorem d_T_valueOfDigit_13 : decode b_T_valueOfDigit 13 = .ok (.bipush 48, 2) := by decide +kernel
theorem d_T_valueOfDigit_15 : decode b_T_valueOfDigit 15 = .ok (.isub, 1) := by decide +kernel
theorem d_T_valueOfDigit_16 : decode b_T_valueOfDigit 16 = .ok (.ireturn, 1) := by decide +kernel
theorem d_T_valueOfDigit_17 : decode b_T_valueOfDigit 17 = .ok (.iload_n 0, 1) := by decide +kernel
theorem d_T_valueOfDigit_18 : decode b_T_valueOfDigit 18 = .ok (.bipush 65, 2) := by decide +kernel
theorem d_T_valueOfDigit_20 : decode b_T_valueOfDigit 20 = .ok (.if_icmp .lt 17, 3) := by decide +kernel
theorem d_T_valueOfDigit_23 : decode b_T_valueOfDigit 23 = .ok (.iload_n 0, 1) := by decide +kernel
theorem d_T_valueOfDigit_24 : decode b_T_valueOfDigit 24 = .ok (.bipush 70, 2) := by decide +kernel
theorem d_T_valueOfDigit_26 : decode b_T_valueOfDigit 26 = .ok (.if_icmp .gt 11, 3) := by decide +kernel
theorem d_T_valueOfDigit_29 : decode b_T_valueOfDigit 29 = .ok (.iload_n 0, 1) := by decide +kernel
theorem d_T_valueOfDigit_30 : decode b_T_valueOfDigit 30 = .ok (.bipush 65, 2) := by decide +kernel
theorem d_T_valueOfDigit_32 : decode b_T_valueOfDigit 32 = .ok (.isub, 1) := by decide +kernel
theorem d_T_valueOfDigit_33 : decode b_T_valueOfDigit 33 = .ok (.bipush 10, 2) := by decide +kernel
theorem d_T_valueOfDigit_35 : decode b_T_valueOfDigit 35 = .ok (.iadd, 1) := by decide +kernel
theorem d_T_valueOfDigit_36 : decode b_T_valueOfDigit 36 = .ok (.ireturn, 1) := by decide +kernel
theorem d_T_valueOfDigit_37 : decode b_T_valueOfDigit 37 = .ok (.iload_n 0, 1) := by decide +kernel
theorem d_T_valueOfDigit_38 : decode b_T_valueOfDigit 38 = .ok (.bipush 97, 2) := by decide +kernel
theorem d_T_valueOfDigit_40 : decode b_T_valueOfDigit 40 = .ok (.if_icmp .lt 17, 3) := by decide +kernel
theorem d_T_valueOfDigit_43 : decode b_T_valueOfDigit 43 = .ok (.iload_n 0, 1) := by decide +kernel
theorem d_T_valueOfDigit_44 : decode b_T_valueOfDigit 44 = .ok (.bipush 102, 2) := by decide +kernel
theorem d_T_valueOfDigit_46 : decode b_T_valueOfDigit 46 = .ok (.if_icmp .gt 11, 3) := by decide +kernel
theorem d_T_valueOfDigit_49 : decode b_T_valueOfDigit 49 = .ok (.iload_n 0, 1) := by decide +kernel
theorem d_T_valueOfDigit_50 : decode b_T_valueOfDigit 50 = .ok (.bipush 97, 2) := by decide +kernel
theorem d_T_valueOfDigit_52 : decode b_T_valueOfDigit 52 = .ok (.isub, 1) := by decide +kernel
theorem d_T_valueOfDigit_53 : decode b_T_valueOfDigit 53 = .ok (.bipush 10, 2) := by decide +kernel
theorem d_T_valueOfDigit_55 : decode b_T_valueOfDigit 55 = .ok (.iadd, 1) := by decide +kernel
theorem d_T_valueOfDigit_56 : decode b_T_valueOfDigit 56 = .ok (.ireturn, 1) := by decide +kernel
theorem d_T_valueOfDigit_57 : decode b_T_valueOfDigit 57 = .ok (.iconst (-1), 1) := by decide +kernel
theorem d_T_valueOfDigit_58 : decode b_T_valueOfDigit 58 = .ok (.ireturn, 1) := by decide +kernel
abbrev b_R_told : ByteArray := prog_1_method_18_code
def y_R_told : MethodName := ⟨"RedactCheck", "told", "(I)I"⟩
theorem d_R_told_0 : decode b_R_told 0 = .ok (.iload_n 1, 1) := by decide +kernel
theorem d_R_told_1 : decode b_R_told 1 = .ok (.tableswitch 87 0 5 #[39, 47, 55, 63, 71, 79], 39) := by decide +kernel
theorem d_R_told_40 : decode b_R_told 40 = .ok (.aload_n 0, 1) := by decide +kernel
theorem d_R_told_41 : decode b_R_told 41 = .ok (.getfield 16, 3) := by decide +kernel
theorem d_R_told_44 : decode b_R_told 44 = .ok (.invokevirtual 62, 3) := by decide +kernel
theorem d_R_told_47 : decode b_R_told 47 = .ok (.ireturn, 1) := by decide +kernel
theorem d_R_told_48 : decode b_R_told 48 = .ok (.aload_n 0, 1) := by decide +kernel
theorem d_R_told_49 : decode b_R_told 49 = .ok (.getfield 19, 3) := by decide +kernel
theorem d_R_told_52 : decode b_R_told 52 = .ok (.invokevirtual 62, 3) := by decide +kernel
theorem d_R_told_55 : decode b_R_told 55 = .ok (.ireturn, 1) := by decide +kernel
theorem d_R_told_56 : decode b_R_told 56 = .ok (.aload_n 0, 1) := by decide +kernel
theorem d_R_told_57 : decode b_R_told 57 = .ok (.getfield 22, 3) := by decide +kernel
theorem d_R_told_60 : decode b_R_told 60 = .ok (.invokevirtual 62, 3) := by decide +kernel
theorem d_R_told_63 : decode b_R_told 63 = .ok (.ireturn, 1) := by decide +kernel
theorem d_R_told_64 : decode b_R_told 64 = .ok (.aload_n 0, 1) := by decide +kernel
theorem d_R_told_65 : decode b_R_told 65 = .ok (.getfield 25, 3) := by decide +kernel
theorem d_R_told_68 : decode b_R_told 68 = .ok (.invokevirtual 62, 3) := by decide +kernel
theorem d_R_told_71 : decode b_R_told 71 = .ok (.ireturn, 1) := by decide +kernel
theorem d_R_told_72 : decode b_R_told 72 = .ok (.aload_n 0, 1) := by decide +kernel
theorem d_R_told_73 : decode b_R_told 73 = .ok (.getfield 28, 3) := by decide +kernel
theorem d_R_told_76 : decode b_R_told 76 = .ok (.invokevirtual 62, 3) := by decide +kernel
theorem d_R_told_79 : decode b_R_told 79 = .ok (.ireturn, 1) := by decide +kernel
theorem d_R_told_80 : decode b_R_told 80 = .ok (.aload_n 0, 1) := by decide +kernel
theorem d_R_told_81 : decode b_R_told 81 = .ok (.getfield 34, 3) := by decide +kernel
theorem d_R_told_84 : decode b_R_told 84 = .ok (.getfield 156, 3) := by decide +kernel
theorem d_R_told_87 : decode b_R_told 87 = .ok (.ireturn, 1) := by decide +kernel
theorem d_R_told_88 : decode b_R_told 88 = .ok (.iconst (-1), 1) := by decide +kernel
theorem d_R_told_89 : decode b_R_told 89 = .ok (.ireturn, 1) := by decide +kernel
abbrev b_R_sign : ByteArray := prog_1_method_2_code
def y_R_sign : MethodName := ⟨"RedactCheck", "sign", "(IIIII)I"⟩
theorem d_R_sign_0 : decode b_R_sign 0 = .ok (.aload_n 0, 1) := by decide +kernel
theorem d_R_sign_1 : decode b_R_sign 1 = .ok (.getfield 10, 3) := by decide +kernel
theorem d_R_sign_4 : decode b_R_sign 4 = .ok (.iload_n 1, 1) := by decide +kernel
theorem d_R_sign_5 : decode b_R_sign 5 = .ok (.invokestatic 54, 3) := by decide +kernel
theorem d_R_sign_8 : decode b_R_sign 8 = .ok (.iload_n 2, 1) := by decide +kernel
theorem d_R_sign_9 : decode b_R_sign 9 = .ok (.iload_n 3, 1) := by decide +kernel
theorem d_R_sign_10 : decode b_R_sign 10 = .ok (.iload 4, 2) := by decide +kernel
theorem d_R_sign_12 : decode b_R_sign 12 = .ok (.iload 5, 2) := by decide +kernel
theorem d_R_sign_14 : decode b_R_sign 14 = .ok (.invokestatic 58, 3) := by decide +kernel
theorem d_R_sign_17 : decode b_R_sign 17 = .ok (.ireturn, 1) := by decide +kernel
abbrev b_R_rowOf : ByteArray := prog_1_method_22_code
def y_R_rowOf : MethodName := ⟨"RedactCheck", "rowOf", "(Ljava/util/ArrayList;I)LRedactCheck$SignRow;"⟩
theorem d_R_rowOf_0 : decode b_R_rowOf 0 = .ok (.iload_n 1, 1) := by decide +kernel
theorem d_R_rowOf_1 : decode b_R_rowOf 1 = .ok (.ifCond .lt 11, 3) := by decide +kernel
theorem d_R_rowOf_4 : decode b_R_rowOf 4 = .ok (.iload_n 1, 1) := by decide +kernel
theorem d_R_rowOf_5 : decode b_R_rowOf 5 = .ok (.aload_n 0, 1) := by decide +kernel
theorem d_R_rowOf_6 : decode b_R_rowOf 6 = .ok (.invokevirtual 62, 3) := by decide +kernel
theorem d_R_rowOf_9 : decode b_R_rowOf 9 = .ok (.if_icmp .lt 13, 3) := by decide +kernel
theorem d_R_rowOf_12 : decode b_R_rowOf 12 = .ok (.new 167, 3) := by decide +kernel
theorem d_R_rowOf_15 : decode b_R_rowOf 15 = .ok (.dup, 1) := by decide +kernel
theorem d_R_rowOf_16 : decode b_R_rowOf 16 = .ok (.ldc 183, 2) := by decide +kernel
theorem d_R_rowOf_18 : decode b_R_rowOf 18 = .ok (.invokespecial 171, 3) := by decide +kernel
theorem d_R_rowOf_21 : decode b_R_rowOf 21 = .ok (.athrow, 1) := by decide +kernel
theorem d_R_rowOf_22 : decode b_R_rowOf 22 = .ok (.aload_n 0, 1) := by decide +kernel
theorem d_R_rowOf_23 : decode b_R_rowOf 23 = .ok (.iload_n 1, 1) := by decide +kernel
theorem d_R_rowOf_24 : decode b_R_rowOf 24 = .ok (.invokevirtual 138, 3) := by decide +kernel
theorem d_R_rowOf_27 : decode b_R_rowOf 27 = .ok (.checkcast 45, 3) := by decide +kernel
theorem d_R_rowOf_30 : decode b_R_rowOf 30 = .ok (.areturn, 1) := by decide +kernel
abbrev b_R_addSign : ByteArray := prog_1_method_25_code
def y_R_addSign : MethodName := ⟨"RedactCheck", "addSign", "(LRedactCheck$SignRow;IIII)I"⟩
theorem d_R_addSign_0 : decode b_R_addSign 0 = .ok (.iload_n 1, 1) := by decide +kernel
theorem d_R_addSign_1 : decode b_R_addSign 1 = .ok (.bipush 33, 2) := by decide +kernel
theorem d_R_addSign_3 : decode b_R_addSign 3 = .ok (.bipush 126, 2) := by decide +kernel
theorem d_R_addSign_5 : decode b_R_addSign 5 = .ok (.invokestatic 73, 3) := by decide +kernel
theorem d_R_addSign_8 : decode b_R_addSign 8 = .ok (.iload_n 2, 1) := by decide +kernel
theorem d_R_addSign_9 : decode b_R_addSign 9 = .ok (.iconst 0, 1) := by decide +kernel
theorem d_R_addSign_10 : decode b_R_addSign 10 = .ok (.sipush 999, 3) := by decide +kernel
theorem d_R_addSign_13 : decode b_R_addSign 13 = .ok (.invokestatic 73, 3) := by decide +kernel
theorem d_R_addSign_16 : decode b_R_addSign 16 = .ok (.iload_n 3, 1) := by decide +kernel
theorem d_R_addSign_17 : decode b_R_addSign 17 = .ok (.iconst 0, 1) := by decide +kernel
theorem d_R_addSign_18 : decode b_R_addSign 18 = .ok (.sipush 999, 3) := by decide +kernel
theorem d_R_addSign_21 : decode b_R_addSign 21 = .ok (.invokestatic 73, 3) := by decide +kernel
theorem d_R_addSign_24 : decode b_R_addSign 24 = .ok (.iload 4, 2) := by decide +kernel
theorem d_R_addSign_26 : decode b_R_addSign 26 = .ok (.iconst 1, 1) := by decide +kernel
theorem d_R_addSign_27 : decode b_R_addSign 27 = .ok (.bipush 50, 2) := by decide +kernel
theorem d_R_addSign_29 : decode b_R_addSign 29 = .ok (.invokestatic 73, 3) := by decide +kernel
theorem d_R_addSign_32 : decode b_R_addSign 32 = .ok (.aload_n 0, 1) := by decide +kernel
theorem d_R_addSign_33 : decode b_R_addSign 33 = .ok (.getfield 161, 3) := by decide +kernel
theorem d_R_addSign_36 : decode b_R_addSign 36 = .ok (.bipush 40, 2) := by decide +kernel
theorem d_R_addSign_38 : decode b_R_addSign 38 = .ok (.invokestatic 66, 3) := by decide +kernel
theorem d_R_addSign_41 : decode b_R_addSign 41 = .ok (.aload_n 0, 1) := by decide +kernel
theorem d_R_addSign_42 : decode b_R_addSign 42 = .ok (.iload_n 1, 1) := by decide +kernel
theorem d_R_addSign_43 : decode b_R_addSign 43 = .ok (.iload_n 2, 1) := by decide +kernel
theorem d_R_addSign_44 : decode b_R_addSign 44 = .ok (.iload_n 3, 1) := by decide +kernel
theorem d_R_addSign_45 : decode b_R_addSign 45 = .ok (.iload 4, 2) := by decide +kernel
theorem d_R_addSign_47 : decode b_R_addSign 47 = .ok (.invokevirtual 189, 3) := by decide +kernel
theorem d_R_addSign_50 : decode b_R_addSign 50 = .ok (.aload_n 0, 1) := by decide +kernel
theorem d_R_addSign_51 : decode b_R_addSign 51 = .ok (.getfield 161, 3) := by decide +kernel
theorem d_R_addSign_54 : decode b_R_addSign 54 = .ok (.ireturn, 1) := by decide +kernel
abbrev b_R_checkWithin : ByteArray := prog_1_method_20_code
def y_R_checkWithin : MethodName := ⟨"RedactCheck", "checkWithin", "(III)V"⟩
theorem d_R_checkWithin_0 : decode b_R_checkWithin 0 = .ok (.iload_n 0, 1) := by decide +kernel
theorem d_R_checkWithin_1 : decode b_R_checkWithin 1 = .ok (.iload_n 1, 1) := by decide +kernel
theorem d_R_checkWithin_2 : decode b_R_checkWithin 2 = .ok (.if_icmp .lt 8, 3) := by decide +kernel
theorem d_R_checkWithin_5 : decode b_R_checkWithin 5 = .ok (.iload_n 0, 1) := by decide +kernel
theorem d_R_checkWithin_6 : decode b_R_checkWithin 6 = .ok (.iload_n 2, 1) := by decide +kernel
theorem d_R_checkWithin_7 : decode b_R_checkWithin 7 = .ok (.if_icmp .le 13, 3) := by decide +kernel
theorem d_R_checkWithin_10 : decode b_R_checkWithin 10 = .ok (.new 89, 3) := by decide +kernel
theorem d_R_checkWithin_13 : decode b_R_checkWithin 13 = .ok (.dup, 1) := by decide +kernel
theorem d_R_checkWithin_14 : decode b_R_checkWithin 14 = .ok (.ldc 179, 2) := by decide +kernel
theorem d_R_checkWithin_16 : decode b_R_checkWithin 16 = .ok (.invokespecial 93, 3) := by decide +kernel
theorem d_R_checkWithin_19 : decode b_R_checkWithin 19 = .ok (.athrow, 1) := by decide +kernel
theorem d_R_checkWithin_20 : decode b_R_checkWithin 20 = .ok (.return_, 1) := by decide +kernel
abbrev b_R_checkRoom : ByteArray := prog_1_method_21_code
def y_R_checkRoom : MethodName := ⟨"RedactCheck", "checkRoom", "(II)V"⟩
theorem d_R_checkRoom_0 : decode b_R_checkRoom 0 = .ok (.iload_n 0, 1) := by decide +kernel
theorem d_R_checkRoom_1 : decode b_R_checkRoom 1 = .ok (.iload_n 1, 1) := by decide +kernel
theorem d_R_checkRoom_2 : decode b_R_checkRoom 2 = .ok (.if_icmp .lt 13, 3) := by decide +kernel
theorem d_R_checkRoom_5 : decode b_R_checkRoom 5 = .ok (.new 121, 3) := by decide +kernel
theorem d_R_checkRoom_8 : decode b_R_checkRoom 8 = .ok (.dup, 1) := by decide +kernel
theorem d_R_checkRoom_9 : decode b_R_checkRoom 9 = .ok (.ldc 181, 2) := by decide +kernel
theorem d_R_checkRoom_11 : decode b_R_checkRoom 11 = .ok (.invokespecial 125, 3) := by decide +kernel
theorem d_R_checkRoom_14 : decode b_R_checkRoom 14 = .ok (.athrow, 1) := by decide +kernel
theorem d_R_checkRoom_15 : decode b_R_checkRoom 15 = .ok (.return_, 1) := by decide +kernel
abbrev b_S_add : ByteArray := prog_6_method_2_code
def y_S_add : MethodName := ⟨"RedactCheck$SignRow", "add", "(IIII)V"⟩
theorem d_S_add_0 : decode b_S_add 0 = .ok (.aload_n 0, 1) := by decide +kernel
theorem d_S_add_1 : decode b_S_add 1 = .ok (.getfield 19, 3) := by decide +kernel
theorem d_S_add_4 : decode b_S_add 4 = .ok (.bipush 40, 2) := by decide +kernel
theorem d_S_add_6 : decode b_S_add 6 = .ok (.if_icmp .ge 26, 3) := by decide +kernel
theorem d_S_add_9 : decode b_S_add 9 = .ok (.aload_n 0, 1) := by decide +kernel
theorem d_S_add_10 : decode b_S_add 10 = .ok (.aload_n 0, 1) := by decide +kernel
theorem d_S_add_11 : decode b_S_add 11 = .ok (.getfield 19, 3) := by decide +kernel
theorem d_S_add_14 : decode b_S_add 14 = .ok (.iload_n 1, 1) := by decide +kernel
theorem d_S_add_15 : decode b_S_add 15 = .ok (.iload_n 2, 1) := by decide +kernel
end
section
theorem d_S_add_16 : decode b_S_add 16 = .ok (.iload_n 3, 1) := by decide +kernel
theorem d_S_add_17 : decode b_S_add 17 = .ok (.iload 4, 2) := by decide +kernel
theorem d_S_add_19 : decode b_S_add 19 = .ok (.invokevirtual 22, 3) := by decide +kernel
theorem d_S_add_22 : decode b_S_add 22 = .ok (.aload_n 0, 1) := by decide +kernel
theorem d_S_add_23 : decode b_S_add 23 = .ok (.dup, 1) := by decide +kernel
theorem d_S_add_24 : decode b_S_add 24 = .ok (.getfield 19, 3) := by decide +kernel
theorem d_S_add_27 : decode b_S_add 27 = .ok (.iconst 1, 1) := by decide +kernel
theorem d_S_add_28 : decode b_S_add 28 = .ok (.iadd, 1) := by decide +kernel
theorem d_S_add_29 : decode b_S_add 29 = .ok (.putfield 19, 3) := by decide +kernel
theorem d_S_add_32 : decode b_S_add 32 = .ok (.return_, 1) := by decide +kernel
abbrev b_S_put : ByteArray := prog_6_method_8_code
def y_S_put : MethodName := ⟨"RedactCheck$SignRow", "put", "(IIIII)V"⟩
theorem d_S_put_0 : decode b_S_put 0 = .ok (.iload_n 1, 1) := by decide +kernel
theorem d_S_put_1 : decode b_S_put 1 = .ok (.ifCond .lt 9, 3) := by decide +kernel
theorem d_S_put_4 : decode b_S_put 4 = .ok (.iload_n 1, 1) := by decide +kernel
theorem d_S_put_5 : decode b_S_put 5 = .ok (.bipush 40, 2) := by decide +kernel
theorem d_S_put_7 : decode b_S_put 7 = .ok (.if_icmp .lt 4, 3) := by decide +kernel
theorem d_S_put_10 : decode b_S_put 10 = .ok (.return_, 1) := by decide +kernel
theorem d_S_put_11 : decode b_S_put 11 = .ok (.iload_n 1, 1) := by decide +kernel
theorem d_S_put_12 : decode b_S_put 12 = .ok (.iconst 4, 1) := by decide +kernel
theorem d_S_put_13 : decode b_S_put 13 = .ok (.imul, 1) := by decide +kernel
theorem d_S_put_14 : decode b_S_put 14 = .ok (.istore 6, 2) := by decide +kernel
theorem d_S_put_16 : decode b_S_put 16 = .ok (.aload_n 0, 1) := by decide +kernel
theorem d_S_put_17 : decode b_S_put 17 = .ok (.getfield 9, 3) := by decide +kernel
theorem d_S_put_20 : decode b_S_put 20 = .ok (.iload 6, 2) := by decide +kernel
theorem d_S_put_22 : decode b_S_put 22 = .ok (.iconst 0, 1) := by decide +kernel
theorem d_S_put_23 : decode b_S_put 23 = .ok (.iadd, 1) := by decide +kernel
theorem d_S_put_24 : decode b_S_put 24 = .ok (.iload_n 2, 1) := by decide +kernel
theorem d_S_put_25 : decode b_S_put 25 = .ok (.iastore, 1) := by decide +kernel
theorem d_S_put_26 : decode b_S_put 26 = .ok (.aload_n 0, 1) := by decide +kernel
theorem d_S_put_27 : decode b_S_put 27 = .ok (.getfield 9, 3) := by decide +kernel
theorem d_S_put_30 : decode b_S_put 30 = .ok (.iload 6, 2) := by decide +kernel
theorem d_S_put_32 : decode b_S_put 32 = .ok (.iconst 1, 1) := by decide +kernel
theorem d_S_put_33 : decode b_S_put 33 = .ok (.iadd, 1) := by decide +kernel
theorem d_S_put_34 : decode b_S_put 34 = .ok (.iload_n 3, 1) := by decide +kernel
theorem d_S_put_35 : decode b_S_put 35 = .ok (.iastore, 1) := by decide +kernel
theorem d_S_put_36 : decode b_S_put 36 = .ok (.aload_n 0, 1) := by decide +kernel
theorem d_S_put_37 : decode b_S_put 37 = .ok (.getfield 9, 3) := by decide +kernel
theorem d_S_put_40 : decode b_S_put 40 = .ok (.iload 6, 2) := by decide +kernel
theorem d_S_put_42 : decode b_S_put 42 = .ok (.iconst 2, 1) := by decide +kernel
theorem d_S_put_43 : decode b_S_put 43 = .ok (.iadd, 1) := by decide +kernel
theorem d_S_put_44 : decode b_S_put 44 = .ok (.iload 4, 2) := by decide +kernel
theorem d_S_put_46 : decode b_S_put 46 = .ok (.iastore, 1) := by decide +kernel
theorem d_S_put_47 : decode b_S_put 47 = .ok (.aload_n 0, 1) := by decide +kernel
theorem d_S_put_48 : decode b_S_put 48 = .ok (.getfield 9, 3) := by decide +kernel
theorem d_S_put_51 : decode b_S_put 51 = .ok (.iload 6, 2) := by decide +kernel
theorem d_S_put_53 : decode b_S_put 53 = .ok (.iconst 3, 1) := by decide +kernel
theorem d_S_put_54 : decode b_S_put 54 = .ok (.iadd, 1) := by decide +kernel
theorem d_S_put_55 : decode b_S_put 55 = .ok (.iload 5, 2) := by decide +kernel
theorem d_S_put_57 : decode b_S_put 57 = .ok (.iastore, 1) := by decide +kernel
theorem d_S_put_58 : decode b_S_put 58 = .ok (.return_, 1) := by decide +kernel
abbrev b_R_form : ByteArray := prog_1_method_3_code
def y_R_form : MethodName := ⟨"RedactCheck", "form", "()I"⟩
theorem d_R_form_0 : decode b_R_form 0 = .ok (.aload_n 0, 1) := by decide +kernel
theorem d_R_form_1 : decode b_R_form 1 = .ok (.getfield 16, 3) := by decide +kernel
theorem d_R_form_4 : decode b_R_form 4 = .ok (.invokevirtual 62, 3) := by decide +kernel
theorem d_R_form_7 : decode b_R_form 7 = .ok (.bipush 20, 2) := by decide +kernel
theorem d_R_form_9 : decode b_R_form 9 = .ok (.invokestatic 66, 3) := by decide +kernel
theorem d_R_form_12 : decode b_R_form 12 = .ok (.aload_n 0, 1) := by decide +kernel
theorem d_R_form_13 : decode b_R_form 13 = .ok (.getfield 16, 3) := by decide +kernel
theorem d_R_form_16 : decode b_R_form 16 = .ok (.new 45, 3) := by decide +kernel
theorem d_R_form_19 : decode b_R_form 19 = .ok (.dup, 1) := by decide +kernel
theorem d_R_form_20 : decode b_R_form 20 = .ok (.aload_n 0, 1) := by decide +kernel
theorem d_R_form_21 : decode b_R_form 21 = .ok (.getfield 16, 3) := by decide +kernel
theorem d_R_form_24 : decode b_R_form 24 = .ok (.invokevirtual 62, 3) := by decide +kernel
theorem d_R_form_27 : decode b_R_form 27 = .ok (.invokespecial 47, 3) := by decide +kernel
theorem d_R_form_30 : decode b_R_form 30 = .ok (.invokevirtual 50, 3) := by decide +kernel
theorem d_R_form_33 : decode b_R_form 33 = .ok (.pop, 1) := by decide +kernel
theorem d_R_form_34 : decode b_R_form 34 = .ok (.aload_n 0, 1) := by decide +kernel
theorem d_R_form_35 : decode b_R_form 35 = .ok (.getfield 16, 3) := by decide +kernel
theorem d_R_form_38 : decode b_R_form 38 = .ok (.invokevirtual 62, 3) := by decide +kernel
theorem d_R_form_41 : decode b_R_form 41 = .ok (.iconst 1, 1) := by decide +kernel
theorem d_R_form_42 : decode b_R_form 42 = .ok (.isub, 1) := by decide +kernel
theorem d_R_form_43 : decode b_R_form 43 = .ok (.ireturn, 1) := by decide +kernel
abbrev b_R_formSign : ByteArray := prog_1_method_4_code
def y_R_formSign : MethodName := ⟨"RedactCheck", "formSign", "(IIIII)I"⟩
theorem d_R_formSign_0 : decode b_R_formSign 0 = .ok (.aload_n 0, 1) := by decide +kernel
theorem d_R_formSign_1 : decode b_R_formSign 1 = .ok (.getfield 16, 3) := by decide +kernel
theorem d_R_formSign_4 : decode b_R_formSign 4 = .ok (.iload_n 1, 1) := by decide +kernel
theorem d_R_formSign_5 : decode b_R_formSign 5 = .ok (.invokestatic 54, 3) := by decide +kernel
theorem d_R_formSign_8 : decode b_R_formSign 8 = .ok (.iload_n 2, 1) := by decide +kernel
theorem d_R_formSign_9 : decode b_R_formSign 9 = .ok (.iload_n 3, 1) := by decide +kernel
theorem d_R_formSign_10 : decode b_R_formSign 10 = .ok (.iload 4, 2) := by decide +kernel
theorem d_R_formSign_12 : decode b_R_formSign 12 = .ok (.iload 5, 2) := by decide +kernel
theorem d_R_formSign_14 : decode b_R_formSign 14 = .ok (.invokestatic 58, 3) := by decide +kernel
theorem d_R_formSign_17 : decode b_R_formSign 17 = .ok (.ireturn, 1) := by decide +kernel
abbrev b_R_use : ByteArray := prog_1_method_5_code
def y_R_use : MethodName := ⟨"RedactCheck", "use", "(IIII)I"⟩
theorem d_R_use_0 : decode b_R_use 0 = .ok (.iload_n 1, 1) := by decide +kernel
theorem d_R_use_1 : decode b_R_use 1 = .ok (.iconst 4, 1) := by decide +kernel
theorem d_R_use_2 : decode b_R_use 2 = .ok (.invokestatic 70, 3) := by decide +kernel
theorem d_R_use_5 : decode b_R_use 5 = .ok (.aload_n 0, 1) := by decide +kernel
theorem d_R_use_6 : decode b_R_use 6 = .ok (.getfield 16, 3) := by decide +kernel
theorem d_R_use_9 : decode b_R_use 9 = .ok (.iload_n 2, 1) := by decide +kernel
theorem d_R_use_10 : decode b_R_use 10 = .ok (.invokestatic 54, 3) := by decide +kernel
theorem d_R_use_13 : decode b_R_use 13 = .ok (.astore 5, 2) := by decide +kernel
theorem d_R_use_15 : decode b_R_use 15 = .ok (.iload_n 3, 1) := by decide +kernel
theorem d_R_use_16 : decode b_R_use 16 = .ok (.sipush (-999), 3) := by decide +kernel
theorem d_R_use_19 : decode b_R_use 19 = .ok (.sipush 999, 3) := by decide +kernel
theorem d_R_use_22 : decode b_R_use 22 = .ok (.invokestatic 73, 3) := by decide +kernel
theorem d_R_use_25 : decode b_R_use 25 = .ok (.iload 4, 2) := by decide +kernel
theorem d_R_use_27 : decode b_R_use 27 = .ok (.sipush (-999), 3) := by decide +kernel
theorem d_R_use_30 : decode b_R_use 30 = .ok (.sipush 999, 3) := by decide +kernel
theorem d_R_use_33 : decode b_R_use 33 = .ok (.invokestatic 73, 3) := by decide +kernel
theorem d_R_use_36 : decode b_R_use 36 = .ok (.aload_n 0, 1) := by decide +kernel
theorem d_R_use_37 : decode b_R_use 37 = .ok (.getfield 19, 3) := by decide +kernel
theorem d_R_use_40 : decode b_R_use 40 = .ok (.invokevirtual 62, 3) := by decide +kernel
theorem d_R_use_43 : decode b_R_use 43 = .ok (.bipush 12, 2) := by decide +kernel
theorem d_R_use_45 : decode b_R_use 45 = .ok (.invokestatic 66, 3) := by decide +kernel
theorem d_R_use_48 : decode b_R_use 48 = .ok (.aload_n 0, 1) := by decide +kernel
theorem d_R_use_49 : decode b_R_use 49 = .ok (.getfield 19, 3) := by decide +kernel
theorem d_R_use_52 : decode b_R_use 52 = .ok (.new 77, 3) := by decide +kernel
theorem d_R_use_55 : decode b_R_use 55 = .ok (.dup, 1) := by decide +kernel
theorem d_R_use_56 : decode b_R_use 56 = .ok (.iload_n 1, 1) := by decide +kernel
theorem d_R_use_57 : decode b_R_use 57 = .ok (.aload 5, 2) := by decide +kernel
theorem d_R_use_59 : decode b_R_use 59 = .ok (.iload_n 3, 1) := by decide +kernel
theorem d_R_use_60 : decode b_R_use 60 = .ok (.iload 4, 2) := by decide +kernel
theorem d_R_use_62 : decode b_R_use 62 = .ok (.invokespecial 79, 3) := by decide +kernel
theorem d_R_use_65 : decode b_R_use 65 = .ok (.invokevirtual 50, 3) := by decide +kernel
theorem d_R_use_68 : decode b_R_use 68 = .ok (.pop, 1) := by decide +kernel
theorem d_R_use_69 : decode b_R_use 69 = .ok (.aload_n 0, 1) := by decide +kernel
theorem d_R_use_70 : decode b_R_use 70 = .ok (.getfield 19, 3) := by decide +kernel
theorem d_R_use_73 : decode b_R_use 73 = .ok (.invokevirtual 62, 3) := by decide +kernel
theorem d_R_use_76 : decode b_R_use 76 = .ok (.iconst 1, 1) := by decide +kernel
theorem d_R_use_77 : decode b_R_use 77 = .ok (.isub, 1) := by decide +kernel
theorem d_R_use_78 : decode b_R_use 78 = .ok (.ireturn, 1) := by decide +kernel
abbrev b_R_checkNumber : ByteArray := prog_1_method_19_code
def y_R_checkNumber : MethodName := ⟨"RedactCheck", "checkNumber", "(II)V"⟩
theorem d_R_checkNumber_0 : decode b_R_checkNumber 0 = .ok (.iload_n 0, 1) := by decide +kernel
theorem d_R_checkNumber_1 : decode b_R_checkNumber 1 = .ok (.ifCond .lt 8, 3) := by decide +kernel
theorem d_R_checkNumber_4 : decode b_R_checkNumber 4 = .ok (.iload_n 0, 1) := by decide +kernel
theorem d_R_checkNumber_5 : decode b_R_checkNumber 5 = .ok (.iload_n 1, 1) := by decide +kernel
theorem d_R_checkNumber_6 : decode b_R_checkNumber 6 = .ok (.if_icmp .lt 13, 3) := by decide +kernel
theorem d_R_checkNumber_9 : decode b_R_checkNumber 9 = .ok (.new 167, 3) := by decide +kernel
theorem d_R_checkNumber_12 : decode b_R_checkNumber 12 = .ok (.dup, 1) := by decide +kernel
theorem d_R_checkNumber_13 : decode b_R_checkNumber 13 = .ok (.ldc 177, 2) := by decide +kernel
theorem d_R_checkNumber_15 : decode b_R_checkNumber 15 = .ok (.invokespecial 171, 3) := by decide +kernel
theorem d_R_checkNumber_18 : decode b_R_checkNumber 18 = .ok (.athrow, 1) := by decide +kernel
theorem d_R_checkNumber_19 : decode b_R_checkNumber 19 = .ok (.return_, 1) := by decide +kernel
abbrev b_U_init : ByteArray := prog_8_method_1_code
def y_U_init : MethodName := ⟨"RedactCheck$Use", "<init>", "(ILRedactCheck$SignRow;II)V"⟩
theorem d_U_init_0 : decode b_U_init 0 = .ok (.aload_n 0, 1) := by decide +kernel
theorem d_U_init_1 : decode b_U_init 1 = .ok (.invokespecial 1, 3) := by decide +kernel
theorem d_U_init_4 : decode b_U_init 4 = .ok (.aload_n 0, 1) := by decide +kernel
theorem d_U_init_5 : decode b_U_init 5 = .ok (.iload_n 1, 1) := by decide +kernel
theorem d_U_init_6 : decode b_U_init 6 = .ok (.putfield 7, 3) := by decide +kernel
theorem d_U_init_9 : decode b_U_init 9 = .ok (.aload_n 0, 1) := by decide +kernel
theorem d_U_init_10 : decode b_U_init 10 = .ok (.aload_n 2, 1) := by decide +kernel
theorem d_U_init_11 : decode b_U_init 11 = .ok (.putfield 13, 3) := by decide +kernel
theorem d_U_init_14 : decode b_U_init 14 = .ok (.aload_n 0, 1) := by decide +kernel
theorem d_U_init_15 : decode b_U_init 15 = .ok (.iload_n 3, 1) := by decide +kernel
theorem d_U_init_16 : decode b_U_init 16 = .ok (.putfield 17, 3) := by decide +kernel
theorem d_U_init_19 : decode b_U_init 19 = .ok (.aload_n 0, 1) := by decide +kernel
theorem d_U_init_20 : decode b_U_init 20 = .ok (.iload 4, 2) := by decide +kernel
theorem d_U_init_22 : decode b_U_init 22 = .ok (.putfield 20, 3) := by decide +kernel
theorem d_U_init_25 : decode b_U_init 25 = .ok (.return_, 1) := by decide +kernel
abbrev b_R_word : ByteArray := prog_1_method_6_code
def y_R_word : MethodName := ⟨"RedactCheck", "word", "()I"⟩
theorem d_R_word_0 : decode b_R_word 0 = .ok (.aload_n 0, 1) := by decide +kernel
theorem d_R_word_1 : decode b_R_word 1 = .ok (.getfield 22, 3) := by decide +kernel
theorem d_R_word_4 : decode b_R_word 4 = .ok (.invokevirtual 62, 3) := by decide +kernel
theorem d_R_word_7 : decode b_R_word 7 = .ok (.iconst 4, 1) := by decide +kernel
theorem d_R_word_8 : decode b_R_word 8 = .ok (.invokestatic 66, 3) := by decide +kernel
theorem d_R_word_11 : decode b_R_word 11 = .ok (.aload_n 0, 1) := by decide +kernel
theorem d_R_word_12 : decode b_R_word 12 = .ok (.getfield 22, 3) := by decide +kernel
theorem d_R_word_15 : decode b_R_word 15 = .ok (.new 82, 3) := by decide +kernel
theorem d_R_word_18 : decode b_R_word 18 = .ok (.dup, 1) := by decide +kernel
theorem d_R_word_19 : decode b_R_word 19 = .ok (.invokespecial 84, 3) := by decide +kernel
theorem d_R_word_22 : decode b_R_word 22 = .ok (.invokevirtual 50, 3) := by decide +kernel
theorem d_R_word_25 : decode b_R_word 25 = .ok (.pop, 1) := by decide +kernel
theorem d_R_word_26 : decode b_R_word 26 = .ok (.aload_n 0, 1) := by decide +kernel
theorem d_R_word_27 : decode b_R_word 27 = .ok (.getfield 22, 3) := by decide +kernel
theorem d_R_word_30 : decode b_R_word 30 = .ok (.invokevirtual 62, 3) := by decide +kernel
theorem d_R_word_33 : decode b_R_word 33 = .ok (.iconst 1, 1) := by decide +kernel
theorem d_R_word_34 : decode b_R_word 34 = .ok (.isub, 1) := by decide +kernel
theorem d_R_word_35 : decode b_R_word 35 = .ok (.ireturn, 1) := by decide +kernel
abbrev b_D_init : ByteArray := prog_9_method_1_code
def y_D_init : MethodName := ⟨"RedactCheck$Word", "<init>", "()V"⟩
theorem d_D_init_0 : decode b_D_init 0 = .ok (.aload_n 0, 1) := by decide +kernel
theorem d_D_init_1 : decode b_D_init 1 = .ok (.invokespecial 3, 3) := by decide +kernel
theorem d_D_init_4 : decode b_D_init 4 = .ok (.aload_n 0, 1) := by decide +kernel
theorem d_D_init_5 : decode b_D_init 5 = .ok (.bipush 8, 2) := by decide +kernel
theorem d_D_init_7 : decode b_D_init 7 = .ok (.newarray .int, 2) := by decide +kernel
theorem d_D_init_9 : decode b_D_init 9 = .ok (.putfield 9, 3) := by decide +kernel
theorem d_D_init_12 : decode b_D_init 12 = .ok (.return_, 1) := by decide +kernel
abbrev b_R_letter : ByteArray := prog_1_method_7_code
def y_R_letter : MethodName := ⟨"RedactCheck", "letter", "(II)I"⟩
theorem d_R_letter_0 : decode b_R_letter 0 = .ok (.aload_n 0, 1) := by decide +kernel
theorem d_R_letter_1 : decode b_R_letter 1 = .ok (.iload_n 1, 1) := by decide +kernel
theorem d_R_letter_2 : decode b_R_letter 2 = .ok (.invokevirtual 85, 3) := by decide +kernel
theorem d_R_letter_5 : decode b_R_letter 5 = .ok (.astore_n 3, 1) := by decide +kernel
theorem d_R_letter_6 : decode b_R_letter 6 = .ok (.iload_n 2, 1) := by decide +kernel
theorem d_R_letter_7 : decode b_R_letter 7 = .ok (.bipush 33, 2) := by decide +kernel
theorem d_R_letter_9 : decode b_R_letter 9 = .ok (.bipush 126, 2) := by decide +kernel
theorem d_R_letter_11 : decode b_R_letter 11 = .ok (.invokestatic 73, 3) := by decide +kernel
theorem d_R_letter_14 : decode b_R_letter 14 = .ok (.iload_n 2, 1) := by decide +kernel
theorem d_R_letter_15 : decode b_R_letter 15 = .ok (.bipush 42, 2) := by decide +kernel
theorem d_R_letter_17 : decode b_R_letter 17 = .ok (.if_icmp .ne 13, 3) := by decide +kernel
theorem d_R_letter_20 : decode b_R_letter 20 = .ok (.new 89, 3) := by decide +kernel
theorem d_R_letter_23 : decode b_R_letter 23 = .ok (.dup, 1) := by decide +kernel
theorem d_R_letter_24 : decode b_R_letter 24 = .ok (.ldc 91, 2) := by decide +kernel
theorem d_R_letter_26 : decode b_R_letter 26 = .ok (.invokespecial 93, 3) := by decide +kernel
theorem d_R_letter_29 : decode b_R_letter 29 = .ok (.athrow, 1) := by decide +kernel
theorem d_R_letter_30 : decode b_R_letter 30 = .ok (.aload_n 3, 1) := by decide +kernel
theorem d_R_letter_31 : decode b_R_letter 31 = .ok (.getfield 96, 3) := by decide +kernel
theorem d_R_letter_34 : decode b_R_letter 34 = .ok (.bipush 8, 2) := by decide +kernel
theorem d_R_letter_36 : decode b_R_letter 36 = .ok (.invokestatic 66, 3) := by decide +kernel
theorem d_R_letter_39 : decode b_R_letter 39 = .ok (.aload_n 3, 1) := by decide +kernel
theorem d_R_letter_40 : decode b_R_letter 40 = .ok (.iload_n 2, 1) := by decide +kernel
theorem d_R_letter_41 : decode b_R_letter 41 = .ok (.invokevirtual 100, 3) := by decide +kernel
theorem d_R_letter_44 : decode b_R_letter 44 = .ok (.aload_n 3, 1) := by decide +kernel
theorem d_R_letter_45 : decode b_R_letter 45 = .ok (.getfield 96, 3) := by decide +kernel
theorem d_R_letter_48 : decode b_R_letter 48 = .ok (.ireturn, 1) := by decide +kernel
abbrev b_R_wordOf : ByteArray := prog_1_method_23_code
def y_R_wordOf : MethodName := ⟨"RedactCheck", "wordOf", "(I)LRedactCheck$Word;"⟩
theorem d_R_wordOf_0 : decode b_R_wordOf 0 = .ok (.iload_n 1, 1) := by decide +kernel
theorem d_R_wordOf_1 : decode b_R_wordOf 1 = .ok (.ifCond .lt 14, 3) := by decide +kernel
theorem d_R_wordOf_4 : decode b_R_wordOf 4 = .ok (.iload_n 1, 1) := by decide +kernel
theorem d_R_wordOf_5 : decode b_R_wordOf 5 = .ok (.aload_n 0, 1) := by decide +kernel
theorem d_R_wordOf_6 : decode b_R_wordOf 6 = .ok (.getfield 22, 3) := by decide +kernel
theorem d_R_wordOf_9 : decode b_R_wordOf 9 = .ok (.invokevirtual 62, 3) := by decide +kernel
theorem d_R_wordOf_12 : decode b_R_wordOf 12 = .ok (.if_icmp .lt 13, 3) := by decide +kernel
theorem d_R_wordOf_15 : decode b_R_wordOf 15 = .ok (.new 167, 3) := by decide +kernel
theorem d_R_wordOf_18 : decode b_R_wordOf 18 = .ok (.dup, 1) := by decide +kernel
theorem d_R_wordOf_19 : decode b_R_wordOf 19 = .ok (.ldc 185, 2) := by decide +kernel
theorem d_R_wordOf_21 : decode b_R_wordOf 21 = .ok (.invokespecial 171, 3) := by decide +kernel
theorem d_R_wordOf_24 : decode b_R_wordOf 24 = .ok (.athrow, 1) := by decide +kernel
theorem d_R_wordOf_25 : decode b_R_wordOf 25 = .ok (.aload_n 0, 1) := by decide +kernel
theorem d_R_wordOf_26 : decode b_R_wordOf 26 = .ok (.getfield 22, 3) := by decide +kernel
theorem d_R_wordOf_29 : decode b_R_wordOf 29 = .ok (.iload_n 1, 1) := by decide +kernel
theorem d_R_wordOf_30 : decode b_R_wordOf 30 = .ok (.invokevirtual 138, 3) := by decide +kernel
theorem d_R_wordOf_33 : decode b_R_wordOf 33 = .ok (.checkcast 82, 3) := by decide +kernel
theorem d_R_wordOf_36 : decode b_R_wordOf 36 = .ok (.areturn, 1) := by decide +kernel
abbrev b_D_add : ByteArray := prog_9_method_2_code
def y_D_add : MethodName := ⟨"RedactCheck$Word", "add", "(I)V"⟩
theorem d_D_add_0 : decode b_D_add 0 = .ok (.aload_n 0, 1) := by decide +kernel
theorem d_D_add_1 : decode b_D_add 1 = .ok (.getfield 15, 3) := by decide +kernel
theorem d_D_add_4 : decode b_D_add 4 = .ok (.aload_n 0, 1) := by decide +kernel
theorem d_D_add_5 : decode b_D_add 5 = .ok (.getfield 9, 3) := by decide +kernel
theorem d_D_add_8 : decode b_D_add 8 = .ok (.arraylength, 1) := by decide +kernel
theorem d_D_add_9 : decode b_D_add 9 = .ok (.if_icmp .ge 23, 3) := by decide +kernel
theorem d_D_add_12 : decode b_D_add 12 = .ok (.aload_n 0, 1) := by decide +kernel
theorem d_D_add_13 : decode b_D_add 13 = .ok (.getfield 9, 3) := by decide +kernel
theorem d_D_add_16 : decode b_D_add 16 = .ok (.aload_n 0, 1) := by decide +kernel
theorem d_D_add_17 : decode b_D_add 17 = .ok (.getfield 15, 3) := by decide +kernel
theorem d_D_add_20 : decode b_D_add 20 = .ok (.iload_n 1, 1) := by decide +kernel
theorem d_D_add_21 : decode b_D_add 21 = .ok (.iastore, 1) := by decide +kernel
theorem d_D_add_22 : decode b_D_add 22 = .ok (.aload_n 0, 1) := by decide +kernel
theorem d_D_add_23 : decode b_D_add 23 = .ok (.dup, 1) := by decide +kernel
theorem d_D_add_24 : decode b_D_add 24 = .ok (.getfield 15, 3) := by decide +kernel
theorem d_D_add_27 : decode b_D_add 27 = .ok (.iconst 1, 1) := by decide +kernel
theorem d_D_add_28 : decode b_D_add 28 = .ok (.iadd, 1) := by decide +kernel
theorem d_D_add_29 : decode b_D_add 29 = .ok (.putfield 15, 3) := by decide +kernel
theorem d_D_add_32 : decode b_D_add 32 = .ok (.return_, 1) := by decide +kernel
abbrev b_R_area : ByteArray := prog_1_method_8_code
def y_R_area : MethodName := ⟨"RedactCheck", "area", "(IIIII)I"⟩
theorem d_R_area_0 : decode b_R_area 0 = .ok (.iload_n 1, 1) := by decide +kernel
theorem d_R_area_1 : decode b_R_area 1 = .ok (.iconst 4, 1) := by decide +kernel
theorem d_R_area_2 : decode b_R_area 2 = .ok (.invokestatic 70, 3) := by decide +kernel
theorem d_R_area_5 : decode b_R_area 5 = .ok (.iload_n 2, 1) := by decide +kernel
theorem d_R_area_6 : decode b_R_area 6 = .ok (.sipush (-999), 3) := by decide +kernel
theorem d_R_area_9 : decode b_R_area 9 = .ok (.sipush 999, 3) := by decide +kernel
theorem d_R_area_12 : decode b_R_area 12 = .ok (.invokestatic 73, 3) := by decide +kernel
theorem d_R_area_15 : decode b_R_area 15 = .ok (.iload_n 3, 1) := by decide +kernel
theorem d_R_area_16 : decode b_R_area 16 = .ok (.sipush (-999), 3) := by decide +kernel
theorem d_R_area_19 : decode b_R_area 19 = .ok (.sipush 999, 3) := by decide +kernel
theorem d_R_area_22 : decode b_R_area 22 = .ok (.invokestatic 73, 3) := by decide +kernel
theorem d_R_area_25 : decode b_R_area 25 = .ok (.iload 4, 2) := by decide +kernel
theorem d_R_area_27 : decode b_R_area 27 = .ok (.iconst 0, 1) := by decide +kernel
theorem d_R_area_28 : decode b_R_area 28 = .ok (.sipush 1999, 3) := by decide +kernel
theorem d_R_area_31 : decode b_R_area 31 = .ok (.invokestatic 73, 3) := by decide +kernel
theorem d_R_area_34 : decode b_R_area 34 = .ok (.iload 5, 2) := by decide +kernel
theorem d_R_area_36 : decode b_R_area 36 = .ok (.iconst 0, 1) := by decide +kernel
theorem d_R_area_37 : decode b_R_area 37 = .ok (.sipush 1999, 3) := by decide +kernel
theorem d_R_area_40 : decode b_R_area 40 = .ok (.invokestatic 73, 3) := by decide +kernel
theorem d_R_area_43 : decode b_R_area 43 = .ok (.aload_n 0, 1) := by decide +kernel
theorem d_R_area_44 : decode b_R_area 44 = .ok (.getfield 25, 3) := by decide +kernel
theorem d_R_area_47 : decode b_R_area 47 = .ok (.invokevirtual 62, 3) := by decide +kernel
theorem d_R_area_50 : decode b_R_area 50 = .ok (.bipush 8, 2) := by decide +kernel
theorem d_R_area_52 : decode b_R_area 52 = .ok (.invokestatic 66, 3) := by decide +kernel
theorem d_R_area_55 : decode b_R_area 55 = .ok (.aload_n 0, 1) := by decide +kernel
theorem d_R_area_56 : decode b_R_area 56 = .ok (.getfield 25, 3) := by decide +kernel
theorem d_R_area_59 : decode b_R_area 59 = .ok (.new 102, 3) := by decide +kernel
theorem d_R_area_62 : decode b_R_area 62 = .ok (.dup, 1) := by decide +kernel
theorem d_R_area_63 : decode b_R_area 63 = .ok (.iload_n 1, 1) := by decide +kernel
theorem d_R_area_64 : decode b_R_area 64 = .ok (.iload_n 2, 1) := by decide +kernel
theorem d_R_area_65 : decode b_R_area 65 = .ok (.iload_n 3, 1) := by decide +kernel
theorem d_R_area_66 : decode b_R_area 66 = .ok (.iload 4, 2) := by decide +kernel
theorem d_R_area_68 : decode b_R_area 68 = .ok (.iload 5, 2) := by decide +kernel
theorem d_R_area_70 : decode b_R_area 70 = .ok (.invokespecial 104, 3) := by decide +kernel
theorem d_R_area_73 : decode b_R_area 73 = .ok (.invokevirtual 50, 3) := by decide +kernel
theorem d_R_area_76 : decode b_R_area 76 = .ok (.pop, 1) := by decide +kernel
theorem d_R_area_77 : decode b_R_area 77 = .ok (.aload_n 0, 1) := by decide +kernel
theorem d_R_area_78 : decode b_R_area 78 = .ok (.getfield 25, 3) := by decide +kernel
theorem d_R_area_81 : decode b_R_area 81 = .ok (.invokevirtual 62, 3) := by decide +kernel
theorem d_R_area_84 : decode b_R_area 84 = .ok (.ireturn, 1) := by decide +kernel
abbrev b_A_init : ByteArray := prog_2_method_1_code
def y_A_init : MethodName := ⟨"RedactCheck$Area", "<init>", "(IIIII)V"⟩
theorem d_A_init_0 : decode b_A_init 0 = .ok (.aload_n 0, 1) := by decide +kernel
theorem d_A_init_1 : decode b_A_init 1 = .ok (.invokespecial 3, 3) := by decide +kernel
theorem d_A_init_4 : decode b_A_init 4 = .ok (.aload_n 0, 1) := by decide +kernel
theorem d_A_init_5 : decode b_A_init 5 = .ok (.iload_n 1, 1) := by decide +kernel
theorem d_A_init_6 : decode b_A_init 6 = .ok (.putfield 9, 3) := by decide +kernel
theorem d_A_init_9 : decode b_A_init 9 = .ok (.aload_n 0, 1) := by decide +kernel
theorem d_A_init_10 : decode b_A_init 10 = .ok (.iload_n 2, 1) := by decide +kernel
theorem d_A_init_11 : decode b_A_init 11 = .ok (.putfield 15, 3) := by decide +kernel
theorem d_A_init_14 : decode b_A_init 14 = .ok (.aload_n 0, 1) := by decide +kernel
theorem d_A_init_15 : decode b_A_init 15 = .ok (.iload_n 3, 1) := by decide +kernel
theorem d_A_init_16 : decode b_A_init 16 = .ok (.putfield 18, 3) := by decide +kernel
theorem d_A_init_19 : decode b_A_init 19 = .ok (.aload_n 0, 1) := by decide +kernel
theorem d_A_init_20 : decode b_A_init 20 = .ok (.iload 4, 2) := by decide +kernel
theorem d_A_init_22 : decode b_A_init 22 = .ok (.putfield 21, 3) := by decide +kernel
theorem d_A_init_25 : decode b_A_init 25 = .ok (.aload_n 0, 1) := by decide +kernel
theorem d_A_init_26 : decode b_A_init 26 = .ok (.iload 5, 2) := by decide +kernel
theorem d_A_init_28 : decode b_A_init 28 = .ok (.putfield 24, 3) := by decide +kernel
theorem d_A_init_31 : decode b_A_init 31 = .ok (.return_, 1) := by decide +kernel
abbrev b_R_store : ByteArray := prog_1_method_9_code
def y_R_store : MethodName := ⟨"RedactCheck", "store", "(I)I"⟩
theorem d_R_store_0 : decode b_R_store 0 = .ok (.iload_n 1, 1) := by decide +kernel
theorem d_R_store_1 : decode b_R_store 1 = .ok (.iconst 0, 1) := by decide +kernel
theorem d_R_store_2 : decode b_R_store 2 = .ok (.iconst 3, 1) := by decide +kernel
theorem d_R_store_3 : decode b_R_store 3 = .ok (.invokestatic 73, 3) := by decide +kernel
theorem d_R_store_6 : decode b_R_store 6 = .ok (.aload_n 0, 1) := by decide +kernel
theorem d_R_store_7 : decode b_R_store 7 = .ok (.getfield 28, 3) := by decide +kernel
theorem d_R_store_10 : decode b_R_store 10 = .ok (.invokevirtual 62, 3) := by decide +kernel
theorem d_R_store_13 : decode b_R_store 13 = .ok (.bipush 8, 2) := by decide +kernel
theorem d_R_store_15 : decode b_R_store 15 = .ok (.invokestatic 66, 3) := by decide +kernel
theorem d_R_store_18 : decode b_R_store 18 = .ok (.aload_n 0, 1) := by decide +kernel
theorem d_R_store_19 : decode b_R_store 19 = .ok (.getfield 28, 3) := by decide +kernel
theorem d_R_store_22 : decode b_R_store 22 = .ok (.new 107, 3) := by decide +kernel
theorem d_R_store_25 : decode b_R_store 25 = .ok (.dup, 1) := by decide +kernel
theorem d_R_store_26 : decode b_R_store 26 = .ok (.iload_n 1, 1) := by decide +kernel
theorem d_R_store_27 : decode b_R_store 27 = .ok (.invokespecial 109, 3) := by decide +kernel
theorem d_R_store_30 : decode b_R_store 30 = .ok (.invokevirtual 50, 3) := by decide +kernel
theorem d_R_store_33 : decode b_R_store 33 = .ok (.pop, 1) := by decide +kernel
theorem d_R_store_34 : decode b_R_store 34 = .ok (.aload_n 0, 1) := by decide +kernel
theorem d_R_store_35 : decode b_R_store 35 = .ok (.getfield 28, 3) := by decide +kernel
theorem d_R_store_38 : decode b_R_store 38 = .ok (.invokevirtual 62, 3) := by decide +kernel
theorem d_R_store_41 : decode b_R_store 41 = .ok (.iconst 1, 1) := by decide +kernel
theorem d_R_store_42 : decode b_R_store 42 = .ok (.isub, 1) := by decide +kernel
theorem d_R_store_43 : decode b_R_store 43 = .ok (.ireturn, 1) := by decide +kernel
abbrev b_T_init : ByteArray := prog_7_method_1_code
def y_T_init : MethodName := ⟨"RedactCheck$Store", "<init>", "(I)V"⟩
theorem d_T_init_0 : decode b_T_init 0 = .ok (.aload_n 0, 1) := by decide +kernel
theorem d_T_init_1 : decode b_T_init 1 = .ok (.invokespecial 3, 3) := by decide +kernel
theorem d_T_init_4 : decode b_T_init 4 = .ok (.aload_n 0, 1) := by decide +kernel
theorem d_T_init_5 : decode b_T_init 5 = .ok (.bipush 60, 2) := by decide +kernel
theorem d_T_init_7 : decode b_T_init 7 = .ok (.newarray .byte, 2) := by decide +kernel
theorem d_T_init_9 : decode b_T_init 9 = .ok (.putfield 9, 3) := by decide +kernel
theorem d_T_init_12 : decode b_T_init 12 = .ok (.aload_n 0, 1) := by decide +kernel
theorem d_T_init_13 : decode b_T_init 13 = .ok (.iload_n 1, 1) := by decide +kernel
theorem d_T_init_14 : decode b_T_init 14 = .ok (.putfield 15, 3) := by decide +kernel
theorem d_T_init_17 : decode b_T_init 17 = .ok (.return_, 1) := by decide +kernel
abbrev b_R_octet : ByteArray := prog_1_method_10_code
def y_R_octet : MethodName := ⟨"RedactCheck", "octet", "(IB)I"⟩
theorem d_R_octet_0 : decode b_R_octet 0 = .ok (.aload_n 0, 1) := by decide +kernel
theorem d_R_octet_1 : decode b_R_octet 1 = .ok (.iload_n 1, 1) := by decide +kernel
theorem d_R_octet_2 : decode b_R_octet 2 = .ok (.invokevirtual 110, 3) := by decide +kernel
theorem d_R_octet_5 : decode b_R_octet 5 = .ok (.astore_n 3, 1) := by decide +kernel
theorem d_R_octet_6 : decode b_R_octet 6 = .ok (.aload_n 3, 1) := by decide +kernel
theorem d_R_octet_7 : decode b_R_octet 7 = .ok (.getfield 114, 3) := by decide +kernel
theorem d_R_octet_10 : decode b_R_octet 10 = .ok (.bipush 60, 2) := by decide +kernel
theorem d_R_octet_12 : decode b_R_octet 12 = .ok (.invokestatic 66, 3) := by decide +kernel
theorem d_R_octet_15 : decode b_R_octet 15 = .ok (.aload_n 3, 1) := by decide +kernel
theorem d_R_octet_16 : decode b_R_octet 16 = .ok (.iload_n 2, 1) := by decide +kernel
theorem d_R_octet_17 : decode b_R_octet 17 = .ok (.invokevirtual 115, 3) := by decide +kernel
theorem d_R_octet_20 : decode b_R_octet 20 = .ok (.aload_n 3, 1) := by decide +kernel
theorem d_R_octet_21 : decode b_R_octet 21 = .ok (.getfield 114, 3) := by decide +kernel
theorem d_R_octet_24 : decode b_R_octet 24 = .ok (.ireturn, 1) := by decide +kernel
abbrev b_R_storeOf : ByteArray := prog_1_method_24_code
def y_R_storeOf : MethodName := ⟨"RedactCheck", "storeOf", "(I)LRedactCheck$Store;"⟩
theorem d_R_storeOf_0 : decode b_R_storeOf 0 = .ok (.iload_n 1, 1) := by decide +kernel
theorem d_R_storeOf_1 : decode b_R_storeOf 1 = .ok (.ifCond .lt 14, 3) := by decide +kernel
theorem d_R_storeOf_4 : decode b_R_storeOf 4 = .ok (.iload_n 1, 1) := by decide +kernel
theorem d_R_storeOf_5 : decode b_R_storeOf 5 = .ok (.aload_n 0, 1) := by decide +kernel
theorem d_R_storeOf_6 : decode b_R_storeOf 6 = .ok (.getfield 28, 3) := by decide +kernel
theorem d_R_storeOf_9 : decode b_R_storeOf 9 = .ok (.invokevirtual 62, 3) := by decide +kernel
theorem d_R_storeOf_12 : decode b_R_storeOf 12 = .ok (.if_icmp .lt 13, 3) := by decide +kernel
theorem d_R_storeOf_15 : decode b_R_storeOf 15 = .ok (.new 167, 3) := by decide +kernel
theorem d_R_storeOf_18 : decode b_R_storeOf 18 = .ok (.dup, 1) := by decide +kernel
theorem d_R_storeOf_19 : decode b_R_storeOf 19 = .ok (.ldc 187, 2) := by decide +kernel
theorem d_R_storeOf_21 : decode b_R_storeOf 21 = .ok (.invokespecial 171, 3) := by decide +kernel
theorem d_R_storeOf_24 : decode b_R_storeOf 24 = .ok (.athrow, 1) := by decide +kernel
theorem d_R_storeOf_25 : decode b_R_storeOf 25 = .ok (.aload_n 0, 1) := by decide +kernel
theorem d_R_storeOf_26 : decode b_R_storeOf 26 = .ok (.getfield 28, 3) := by decide +kernel
theorem d_R_storeOf_29 : decode b_R_storeOf 29 = .ok (.iload_n 1, 1) := by decide +kernel
theorem d_R_storeOf_30 : decode b_R_storeOf 30 = .ok (.invokevirtual 138, 3) := by decide +kernel
theorem d_R_storeOf_33 : decode b_R_storeOf 33 = .ok (.checkcast 107, 3) := by decide +kernel
theorem d_R_storeOf_36 : decode b_R_storeOf 36 = .ok (.areturn, 1) := by decide +kernel
abbrev b_T_add : ByteArray := prog_7_method_2_code
def y_T_add : MethodName := ⟨"RedactCheck$Store", "add", "(B)V"⟩
theorem d_T_add_0 : decode b_T_add 0 = .ok (.aload_n 0, 1) := by decide +kernel
theorem d_T_add_1 : decode b_T_add 1 = .ok (.getfield 19, 3) := by decide +kernel
theorem d_T_add_4 : decode b_T_add 4 = .ok (.ifCond .lt 35, 3) := by decide +kernel
theorem d_T_add_7 : decode b_T_add 7 = .ok (.aload_n 0, 1) := by decide +kernel
theorem d_T_add_8 : decode b_T_add 8 = .ok (.getfield 19, 3) := by decide +kernel
theorem d_T_add_11 : decode b_T_add 11 = .ok (.aload_n 0, 1) := by decide +kernel
theorem d_T_add_12 : decode b_T_add 12 = .ok (.getfield 9, 3) := by decide +kernel
theorem d_T_add_15 : decode b_T_add 15 = .ok (.arraylength, 1) := by decide +kernel
theorem d_T_add_16 : decode b_T_add 16 = .ok (.if_icmp .ge 23, 3) := by decide +kernel
theorem d_T_add_19 : decode b_T_add 19 = .ok (.aload_n 0, 1) := by decide +kernel
theorem d_T_add_20 : decode b_T_add 20 = .ok (.getfield 9, 3) := by decide +kernel
theorem d_T_add_23 : decode b_T_add 23 = .ok (.aload_n 0, 1) := by decide +kernel
theorem d_T_add_24 : decode b_T_add 24 = .ok (.getfield 19, 3) := by decide +kernel
theorem d_T_add_27 : decode b_T_add 27 = .ok (.iload_n 1, 1) := by decide +kernel
theorem d_T_add_28 : decode b_T_add 28 = .ok (.bastore, 1) := by decide +kernel
theorem d_T_add_29 : decode b_T_add 29 = .ok (.aload_n 0, 1) := by decide +kernel
theorem d_T_add_30 : decode b_T_add 30 = .ok (.dup, 1) := by decide +kernel
theorem d_T_add_31 : decode b_T_add 31 = .ok (.getfield 19, 3) := by decide +kernel
theorem d_T_add_34 : decode b_T_add 34 = .ok (.iconst 1, 1) := by decide +kernel
theorem d_T_add_35 : decode b_T_add 35 = .ok (.iadd, 1) := by decide +kernel
theorem d_T_add_36 : decode b_T_add 36 = .ok (.putfield 19, 3) := by decide +kernel
theorem d_T_add_39 : decode b_T_add 39 = .ok (.return_, 1) := by decide +kernel
abbrev b_R_black : ByteArray := prog_1_method_11_code
def y_R_black : MethodName := ⟨"RedactCheck", "black", "()I"⟩
theorem d_R_black_0 : decode b_R_black 0 = .ok (.aload_n 0, 1) := by decide +kernel
theorem d_R_black_1 : decode b_R_black 1 = .ok (.getfield 16, 3) := by decide +kernel
theorem d_R_black_4 : decode b_R_black 4 = .ok (.invokevirtual 62, 3) := by decide +kernel
theorem d_R_black_7 : decode b_R_black 7 = .ok (.aload_n 0, 1) := by decide +kernel
theorem d_R_black_8 : decode b_R_black 8 = .ok (.invokevirtual 118, 3) := by decide +kernel
theorem d_R_black_11 : decode b_R_black 11 = .ok (.iadd, 1) := by decide +kernel
theorem d_R_black_12 : decode b_R_black 12 = .ok (.bipush 20, 2) := by decide +kernel
theorem d_R_black_14 : decode b_R_black 14 = .ok (.if_icmp .le 13, 3) := by decide +kernel
theorem d_R_black_17 : decode b_R_black 17 = .ok (.new 121, 3) := by decide +kernel
theorem d_R_black_20 : decode b_R_black 20 = .ok (.dup, 1) := by decide +kernel
theorem d_R_black_21 : decode b_R_black 21 = .ok (.ldc 123, 2) := by decide +kernel
theorem d_R_black_23 : decode b_R_black 23 = .ok (.invokespecial 125, 3) := by decide +kernel
theorem d_R_black_26 : decode b_R_black 26 = .ok (.athrow, 1) := by decide +kernel
theorem d_R_black_27 : decode b_R_black 27 = .ok (.aload_n 0, 1) := by decide +kernel
theorem d_R_black_28 : decode b_R_black 28 = .ok (.invokevirtual 126, 3) := by decide +kernel
theorem d_R_black_31 : decode b_R_black 31 = .ok (.aload_n 0, 1) := by decide +kernel
theorem d_R_black_32 : decode b_R_black 32 = .ok (.invokevirtual 129, 3) := by decide +kernel
theorem d_R_black_35 : decode b_R_black 35 = .ok (.iadd, 1) := by decide +kernel
theorem d_R_black_36 : decode b_R_black 36 = .ok (.aload_n 0, 1) := by decide +kernel
theorem d_R_black_37 : decode b_R_black 37 = .ok (.invokevirtual 132, 3) := by decide +kernel
theorem d_R_black_40 : decode b_R_black 40 = .ok (.iadd, 1) := by decide +kernel
theorem d_R_black_41 : decode b_R_black 41 = .ok (.ireturn, 1) := by decide +kernel
abbrev b_R_markUses : ByteArray := prog_1_method_26_code
def y_R_markUses : MethodName := ⟨"RedactCheck", "markUses", "()I"⟩
theorem d_R_markUses_0 : decode b_R_markUses 0 = .ok (.iconst 0, 1) := by decide +kernel
theorem d_R_markUses_1 : decode b_R_markUses 1 = .ok (.istore_n 1, 1) := by decide +kernel
theorem d_R_markUses_2 : decode b_R_markUses 2 = .ok (.iconst 0, 1) := by decide +kernel
theorem d_R_markUses_3 : decode b_R_markUses 3 = .ok (.istore_n 2, 1) := by decide +kernel
theorem d_R_markUses_4 : decode b_R_markUses 4 = .ok (.iload_n 2, 1) := by decide +kernel
theorem d_R_markUses_5 : decode b_R_markUses 5 = .ok (.aload_n 0, 1) := by decide +kernel
theorem d_R_markUses_6 : decode b_R_markUses 6 = .ok (.getfield 19, 3) := by decide +kernel
theorem d_R_markUses_9 : decode b_R_markUses 9 = .ok (.invokevirtual 62, 3) := by decide +kernel
theorem d_R_markUses_12 : decode b_R_markUses 12 = .ok (.if_icmp .ge 74, 3) := by decide +kernel
theorem d_R_markUses_15 : decode b_R_markUses 15 = .ok (.aload_n 0, 1) := by decide +kernel
theorem d_R_markUses_16 : decode b_R_markUses 16 = .ok (.getfield 19, 3) := by decide +kernel
theorem d_R_markUses_19 : decode b_R_markUses 19 = .ok (.iload_n 2, 1) := by decide +kernel
theorem d_R_markUses_20 : decode b_R_markUses 20 = .ok (.invokevirtual 138, 3) := by decide +kernel
theorem d_R_markUses_23 : decode b_R_markUses 23 = .ok (.checkcast 77, 3) := by decide +kernel
theorem d_R_markUses_26 : decode b_R_markUses 26 = .ok (.astore_n 3, 1) := by decide +kernel
theorem d_R_markUses_27 : decode b_R_markUses 27 = .ok (.aload_n 3, 1) := by decide +kernel
theorem d_R_markUses_28 : decode b_R_markUses 28 = .ok (.aload_n 0, 1) := by decide +kernel
theorem d_R_markUses_29 : decode b_R_markUses 29 = .ok (.aload_n 3, 1) := by decide +kernel
theorem d_R_markUses_30 : decode b_R_markUses 30 = .ok (.getfield 149, 3) := by decide +kernel
theorem d_R_markUses_33 : decode b_R_markUses 33 = .ok (.aload_n 3, 1) := by decide +kernel
theorem d_R_markUses_34 : decode b_R_markUses 34 = .ok (.getfield 192, 3) := by decide +kernel
theorem d_R_markUses_37 : decode b_R_markUses 37 = .ok (.aload_n 3, 1) := by decide +kernel
theorem d_R_markUses_38 : decode b_R_markUses 38 = .ok (.getfield 195, 3) := by decide +kernel
theorem d_R_markUses_41 : decode b_R_markUses 41 = .ok (.aload_n 3, 1) := by decide +kernel
theorem d_R_markUses_42 : decode b_R_markUses 42 = .ok (.getfield 198, 3) := by decide +kernel
theorem d_R_markUses_45 : decode b_R_markUses 45 = .ok (.invokevirtual 201, 3) := by decide +kernel
theorem d_R_markUses_48 : decode b_R_markUses 48 = .ok (.putfield 205, 3) := by decide +kernel
theorem d_R_markUses_51 : decode b_R_markUses 51 = .ok (.aload_n 3, 1) := by decide +kernel
theorem d_R_markUses_52 : decode b_R_markUses 52 = .ok (.aload_n 0, 1) := by decide +kernel
theorem d_R_markUses_53 : decode b_R_markUses 53 = .ok (.aload_n 3, 1) := by decide +kernel
theorem d_R_markUses_54 : decode b_R_markUses 54 = .ok (.iload_n 2, 1) := by decide +kernel
theorem d_R_markUses_55 : decode b_R_markUses 55 = .ok (.invokevirtual 209, 3) := by decide +kernel
theorem d_R_markUses_58 : decode b_R_markUses 58 = .ok (.putfield 213, 3) := by decide +kernel
theorem d_R_markUses_61 : decode b_R_markUses 61 = .ok (.aload_n 3, 1) := by decide +kernel
theorem d_R_markUses_62 : decode b_R_markUses 62 = .ok (.getfield 205, 3) := by decide +kernel
theorem d_R_markUses_65 : decode b_R_markUses 65 = .ok (.lconst 0, 1) := by decide +kernel
theorem d_R_markUses_66 : decode b_R_markUses 66 = .ok (.lcmp, 1) := by decide +kernel
theorem d_R_markUses_67 : decode b_R_markUses 67 = .ok (.ifCond .eq 13, 3) := by decide +kernel
theorem d_R_markUses_70 : decode b_R_markUses 70 = .ok (.aload_n 3, 1) := by decide +kernel
theorem d_R_markUses_71 : decode b_R_markUses 71 = .ok (.getfield 213, 3) := by decide +kernel
theorem d_R_markUses_74 : decode b_R_markUses 74 = .ok (.ifnonnull 6, 3) := by decide +kernel
theorem d_R_markUses_77 : decode b_R_markUses 77 = .ok (.iinc 1 1, 3) := by decide +kernel
theorem d_R_markUses_80 : decode b_R_markUses 80 = .ok (.iinc 2 1, 3) := by decide +kernel
theorem d_R_markUses_83 : decode b_R_markUses 83 = .ok (.goto (-79), 3) := by decide +kernel
theorem d_R_markUses_86 : decode b_R_markUses 86 = .ok (.iload_n 1, 1) := by decide +kernel
theorem d_R_markUses_87 : decode b_R_markUses 87 = .ok (.ireturn, 1) := by decide +kernel
abbrev b_R_marksOf : ByteArray := prog_1_method_32_code
def y_R_marksOf : MethodName := ⟨"RedactCheck", "marksOf", "(LRedactCheck$SignRow;III)J"⟩
theorem d_R_marksOf_0 : decode b_R_marksOf 0 = .ok (.aload_n 1, 1) := by decide +kernel
theorem d_R_marksOf_1 : decode b_R_marksOf 1 = .ok (.aload_n 0, 1) := by decide +kernel
theorem d_R_marksOf_2 : decode b_R_marksOf 2 = .ok (.getfield 41, 3) := by decide +kernel
theorem d_R_marksOf_5 : decode b_R_marksOf 5 = .ok (.invokevirtual 142, 3) := by decide +kernel
theorem d_R_marksOf_8 : decode b_R_marksOf 8 = .ok (.aload_n 0, 1) := by decide +kernel
theorem d_R_marksOf_9 : decode b_R_marksOf 9 = .ok (.invokevirtual 241, 3) := by decide +kernel
theorem d_R_marksOf_12 : decode b_R_marksOf 12 = .ok (.aload_n 0, 1) := by decide +kernel
theorem d_R_marksOf_13 : decode b_R_marksOf 13 = .ok (.aload_n 1, 1) := by decide +kernel
theorem d_R_marksOf_14 : decode b_R_marksOf 14 = .ok (.iload_n 2, 1) := by decide +kernel
theorem d_R_marksOf_15 : decode b_R_marksOf 15 = .ok (.iload_n 3, 1) := by decide +kernel
theorem d_R_marksOf_16 : decode b_R_marksOf 16 = .ok (.iload 4, 2) := by decide +kernel
theorem d_R_marksOf_18 : decode b_R_marksOf 18 = .ok (.invokevirtual 249, 3) := by decide +kernel
theorem d_R_marksOf_21 : decode b_R_marksOf 21 = .ok (.lor, 1) := by decide +kernel
theorem d_R_marksOf_22 : decode b_R_marksOf 22 = .ok (.lreturn, 1) := by decide +kernel
abbrev b_R_marksOfWords : ByteArray := prog_1_method_35_code
def y_R_marksOfWords : MethodName := ⟨"RedactCheck", "marksOfWords", "()J"⟩
theorem d_R_marksOfWords_0 : decode b_R_marksOfWords 0 = .ok (.lconst 0, 1) := by decide +kernel
theorem d_R_marksOfWords_1 : decode b_R_marksOfWords 1 = .ok (.lstore_n 1, 1) := by decide +kernel
theorem d_R_marksOfWords_2 : decode b_R_marksOfWords 2 = .ok (.iconst 0, 1) := by decide +kernel
theorem d_R_marksOfWords_3 : decode b_R_marksOfWords 3 = .ok (.istore_n 3, 1) := by decide +kernel
theorem d_R_marksOfWords_4 : decode b_R_marksOfWords 4 = .ok (.iload_n 3, 1) := by decide +kernel
theorem d_R_marksOfWords_5 : decode b_R_marksOfWords 5 = .ok (.aload_n 0, 1) := by decide +kernel
theorem d_R_marksOfWords_6 : decode b_R_marksOfWords 6 = .ok (.getfield 41, 3) := by decide +kernel
theorem d_R_marksOfWords_9 : decode b_R_marksOfWords 9 = .ok (.getfield 261, 3) := by decide +kernel
theorem d_R_marksOfWords_12 : decode b_R_marksOfWords 12 = .ok (.if_icmp .ge 71, 3) := by decide +kernel
theorem d_R_marksOfWords_15 : decode b_R_marksOfWords 15 = .ok (.iconst 0, 1) := by decide +kernel
theorem d_R_marksOfWords_16 : decode b_R_marksOfWords 16 = .ok (.istore 4, 2) := by decide +kernel
theorem d_R_marksOfWords_18 : decode b_R_marksOfWords 18 = .ok (.iload 4, 2) := by decide +kernel
theorem d_R_marksOfWords_20 : decode b_R_marksOfWords 20 = .ok (.aload_n 0, 1) := by decide +kernel
theorem d_R_marksOfWords_21 : decode b_R_marksOfWords 21 = .ok (.getfield 22, 3) := by decide +kernel
theorem d_R_marksOfWords_24 : decode b_R_marksOfWords 24 = .ok (.invokevirtual 62, 3) := by decide +kernel
theorem d_R_marksOfWords_27 : decode b_R_marksOfWords 27 = .ok (.if_icmp .ge 50, 3) := by decide +kernel
theorem d_R_marksOfWords_30 : decode b_R_marksOfWords 30 = .ok (.aload_n 0, 1) := by decide +kernel
theorem d_R_marksOfWords_31 : decode b_R_marksOfWords 31 = .ok (.getfield 22, 3) := by decide +kernel
theorem d_R_marksOfWords_34 : decode b_R_marksOfWords 34 = .ok (.iload 4, 2) := by decide +kernel
theorem d_R_marksOfWords_36 : decode b_R_marksOfWords 36 = .ok (.invokevirtual 138, 3) := by decide +kernel
theorem d_R_marksOfWords_39 : decode b_R_marksOfWords 39 = .ok (.checkcast 82, 3) := by decide +kernel
theorem d_R_marksOfWords_42 : decode b_R_marksOfWords 42 = .ok (.astore 5, 2) := by decide +kernel
theorem d_R_marksOfWords_44 : decode b_R_marksOfWords 44 = .ok (.aload 5, 2) := by decide +kernel
theorem d_R_marksOfWords_46 : decode b_R_marksOfWords 46 = .ok (.aload_n 0, 1) := by decide +kernel
theorem d_R_marksOfWords_47 : decode b_R_marksOfWords 47 = .ok (.getfield 41, 3) := by decide +kernel
theorem d_R_marksOfWords_50 : decode b_R_marksOfWords 50 = .ok (.iload_n 3, 1) := by decide +kernel
theorem d_R_marksOfWords_51 : decode b_R_marksOfWords 51 = .ok (.invokevirtual 262, 3) := by decide +kernel
theorem d_R_marksOfWords_54 : decode b_R_marksOfWords 54 = .ok (.ifCond .eq 17, 3) := by decide +kernel
theorem d_R_marksOfWords_57 : decode b_R_marksOfWords 57 = .ok (.lload_n 1, 1) := by decide +kernel
theorem d_R_marksOfWords_58 : decode b_R_marksOfWords 58 = .ok (.lconst 1, 1) := by decide +kernel
theorem d_R_marksOfWords_59 : decode b_R_marksOfWords 59 = .ok (.aload 5, 2) := by decide +kernel
theorem d_R_marksOfWords_61 : decode b_R_marksOfWords 61 = .ok (.getfield 96, 3) := by decide +kernel
theorem d_R_marksOfWords_64 : decode b_R_marksOfWords 64 = .ok (.lshl, 1) := by decide +kernel
theorem d_R_marksOfWords_65 : decode b_R_marksOfWords 65 = .ok (.lconst 1, 1) := by decide +kernel
theorem d_R_marksOfWords_66 : decode b_R_marksOfWords 66 = .ok (.lsub, 1) := by decide +kernel
theorem d_R_marksOfWords_67 : decode b_R_marksOfWords 67 = .ok (.iload_n 3, 1) := by decide +kernel
theorem d_R_marksOfWords_68 : decode b_R_marksOfWords 68 = .ok (.lshl, 1) := by decide +kernel
theorem d_R_marksOfWords_69 : decode b_R_marksOfWords 69 = .ok (.lor, 1) := by decide +kernel
theorem d_R_marksOfWords_70 : decode b_R_marksOfWords 70 = .ok (.lstore_n 1, 1) := by decide +kernel
theorem d_R_marksOfWords_71 : decode b_R_marksOfWords 71 = .ok (.iinc 4 1, 3) := by decide +kernel
theorem d_R_marksOfWords_74 : decode b_R_marksOfWords 74 = .ok (.goto (-56), 3) := by decide +kernel
theorem d_R_marksOfWords_77 : decode b_R_marksOfWords 77 = .ok (.iinc 3 1, 3) := by decide +kernel
theorem d_R_marksOfWords_80 : decode b_R_marksOfWords 80 = .ok (.goto (-76), 3) := by decide +kernel
theorem d_R_marksOfWords_83 : decode b_R_marksOfWords 83 = .ok (.lload_n 1, 1) := by decide +kernel
theorem d_R_marksOfWords_84 : decode b_R_marksOfWords 84 = .ok (.lreturn, 1) := by decide +kernel
abbrev b_R_marksOfAreas : ByteArray := prog_1_method_33_code
def y_R_marksOfAreas : MethodName := ⟨"RedactCheck", "marksOfAreas", "(LRedactCheck$SignRow;III)J"⟩
theorem d_R_marksOfAreas_0 : decode b_R_marksOfAreas 0 = .ok (.lconst 0, 1) := by decide +kernel
theorem d_R_marksOfAreas_1 : decode b_R_marksOfAreas 1 = .ok (.lstore 5, 2) := by decide +kernel
theorem d_R_marksOfAreas_3 : decode b_R_marksOfAreas 3 = .ok (.iconst 0, 1) := by decide +kernel
theorem d_R_marksOfAreas_4 : decode b_R_marksOfAreas 4 = .ok (.istore 7, 2) := by decide +kernel
theorem d_R_marksOfAreas_6 : decode b_R_marksOfAreas 6 = .ok (.iload 7, 2) := by decide +kernel
theorem d_R_marksOfAreas_8 : decode b_R_marksOfAreas 8 = .ok (.aload_n 1, 1) := by decide +kernel
theorem d_R_marksOfAreas_9 : decode b_R_marksOfAreas 9 = .ok (.getfield 161, 3) := by decide +kernel
theorem d_R_marksOfAreas_12 : decode b_R_marksOfAreas 12 = .ok (.if_icmp .ge 62, 3) := by decide +kernel
theorem d_R_marksOfAreas_15 : decode b_R_marksOfAreas 15 = .ok (.aload_n 1, 1) := by decide +kernel
theorem d_R_marksOfAreas_16 : decode b_R_marksOfAreas 16 = .ok (.iload 7, 2) := by decide +kernel
theorem d_R_marksOfAreas_18 : decode b_R_marksOfAreas 18 = .ok (.iconst 0, 1) := by decide +kernel
theorem d_R_marksOfAreas_19 : decode b_R_marksOfAreas 19 = .ok (.invokevirtual 162, 3) := by decide +kernel
theorem d_R_marksOfAreas_22 : decode b_R_marksOfAreas 22 = .ok (.ifCond .eq 46, 3) := by decide +kernel
theorem d_R_marksOfAreas_25 : decode b_R_marksOfAreas 25 = .ok (.aload_n 0, 1) := by decide +kernel
theorem d_R_marksOfAreas_26 : decode b_R_marksOfAreas 26 = .ok (.iload_n 2, 1) := by decide +kernel
theorem d_R_marksOfAreas_27 : decode b_R_marksOfAreas 27 = .ok (.aload_n 1, 1) := by decide +kernel
theorem d_R_marksOfAreas_28 : decode b_R_marksOfAreas 28 = .ok (.iload 7, 2) := by decide +kernel
theorem d_R_marksOfAreas_30 : decode b_R_marksOfAreas 30 = .ok (.iconst 1, 1) := by decide +kernel
theorem d_R_marksOfAreas_31 : decode b_R_marksOfAreas 31 = .ok (.invokevirtual 162, 3) := by decide +kernel
theorem d_R_marksOfAreas_34 : decode b_R_marksOfAreas 34 = .ok (.iload_n 3, 1) := by decide +kernel
theorem d_R_marksOfAreas_35 : decode b_R_marksOfAreas 35 = .ok (.iadd, 1) := by decide +kernel
theorem d_R_marksOfAreas_36 : decode b_R_marksOfAreas 36 = .ok (.aload_n 1, 1) := by decide +kernel
theorem d_R_marksOfAreas_37 : decode b_R_marksOfAreas 37 = .ok (.iload 7, 2) := by decide +kernel
theorem d_R_marksOfAreas_39 : decode b_R_marksOfAreas 39 = .ok (.iconst 2, 1) := by decide +kernel
theorem d_R_marksOfAreas_40 : decode b_R_marksOfAreas 40 = .ok (.invokevirtual 162, 3) := by decide +kernel
theorem d_R_marksOfAreas_43 : decode b_R_marksOfAreas 43 = .ok (.iload 4, 2) := by decide +kernel
theorem d_R_marksOfAreas_45 : decode b_R_marksOfAreas 45 = .ok (.iadd, 1) := by decide +kernel
theorem d_R_marksOfAreas_46 : decode b_R_marksOfAreas 46 = .ok (.aload_n 1, 1) := by decide +kernel
theorem d_R_marksOfAreas_47 : decode b_R_marksOfAreas 47 = .ok (.iload 7, 2) := by decide +kernel
theorem d_R_marksOfAreas_49 : decode b_R_marksOfAreas 49 = .ok (.iconst 3, 1) := by decide +kernel
theorem d_R_marksOfAreas_50 : decode b_R_marksOfAreas 50 = .ok (.invokevirtual 162, 3) := by decide +kernel
theorem d_R_marksOfAreas_53 : decode b_R_marksOfAreas 53 = .ok (.invokevirtual 252, 3) := by decide +kernel
theorem d_R_marksOfAreas_56 : decode b_R_marksOfAreas 56 = .ok (.ifCond .eq 12, 3) := by decide +kernel
theorem d_R_marksOfAreas_59 : decode b_R_marksOfAreas 59 = .ok (.lload 5, 2) := by decide +kernel
theorem d_R_marksOfAreas_61 : decode b_R_marksOfAreas 61 = .ok (.lconst 1, 1) := by decide +kernel
theorem d_R_marksOfAreas_62 : decode b_R_marksOfAreas 62 = .ok (.iload 7, 2) := by decide +kernel
theorem d_R_marksOfAreas_64 : decode b_R_marksOfAreas 64 = .ok (.lshl, 1) := by decide +kernel
theorem d_R_marksOfAreas_65 : decode b_R_marksOfAreas 65 = .ok (.lor, 1) := by decide +kernel
theorem d_R_marksOfAreas_66 : decode b_R_marksOfAreas 66 = .ok (.lstore 5, 2) := by decide +kernel
theorem d_R_marksOfAreas_68 : decode b_R_marksOfAreas 68 = .ok (.iinc 7 1, 3) := by decide +kernel
theorem d_R_marksOfAreas_71 : decode b_R_marksOfAreas 71 = .ok (.goto (-65), 3) := by decide +kernel
theorem d_R_marksOfAreas_74 : decode b_R_marksOfAreas 74 = .ok (.lload 5, 2) := by decide +kernel
theorem d_R_marksOfAreas_76 : decode b_R_marksOfAreas 76 = .ok (.lreturn, 1) := by decide +kernel
abbrev b_R_isInArea : ByteArray := prog_1_method_34_code
def y_R_isInArea : MethodName := ⟨"RedactCheck", "isInArea", "(IIII)Z"⟩
theorem d_R_isInArea_0 : decode b_R_isInArea 0 = .ok (.iconst 0, 1) := by decide +kernel
theorem d_R_isInArea_1 : decode b_R_isInArea 1 = .ok (.istore 5, 2) := by decide +kernel
theorem d_R_isInArea_3 : decode b_R_isInArea 3 = .ok (.iload 5, 2) := by decide +kernel
theorem d_R_isInArea_5 : decode b_R_isInArea 5 = .ok (.aload_n 0, 1) := by decide +kernel
theorem d_R_isInArea_6 : decode b_R_isInArea 6 = .ok (.getfield 25, 3) := by decide +kernel
theorem d_R_isInArea_9 : decode b_R_isInArea 9 = .ok (.invokevirtual 62, 3) := by decide +kernel
theorem d_R_isInArea_12 : decode b_R_isInArea 12 = .ok (.if_icmp .ge 46, 3) := by decide +kernel
theorem d_R_isInArea_15 : decode b_R_isInArea 15 = .ok (.aload_n 0, 1) := by decide +kernel
theorem d_R_isInArea_16 : decode b_R_isInArea 16 = .ok (.getfield 25, 3) := by decide +kernel
theorem d_R_isInArea_19 : decode b_R_isInArea 19 = .ok (.iload 5, 2) := by decide +kernel
theorem d_R_isInArea_21 : decode b_R_isInArea 21 = .ok (.invokevirtual 138, 3) := by decide +kernel
theorem d_R_isInArea_24 : decode b_R_isInArea 24 = .ok (.checkcast 102, 3) := by decide +kernel
theorem d_R_isInArea_27 : decode b_R_isInArea 27 = .ok (.astore 6, 2) := by decide +kernel
theorem d_R_isInArea_29 : decode b_R_isInArea 29 = .ok (.aload 6, 2) := by decide +kernel
theorem d_R_isInArea_31 : decode b_R_isInArea 31 = .ok (.getfield 256, 3) := by decide +kernel
theorem d_R_isInArea_34 : decode b_R_isInArea 34 = .ok (.iload_n 1, 1) := by decide +kernel
theorem d_R_isInArea_35 : decode b_R_isInArea 35 = .ok (.if_icmp .ne 17, 3) := by decide +kernel
theorem d_R_isInArea_38 : decode b_R_isInArea 38 = .ok (.aload 6, 2) := by decide +kernel
theorem d_R_isInArea_40 : decode b_R_isInArea 40 = .ok (.iload_n 2, 1) := by decide +kernel
theorem d_R_isInArea_41 : decode b_R_isInArea 41 = .ok (.iload_n 3, 1) := by decide +kernel
theorem d_R_isInArea_42 : decode b_R_isInArea 42 = .ok (.iload 4, 2) := by decide +kernel
theorem d_R_isInArea_44 : decode b_R_isInArea 44 = .ok (.invokevirtual 257, 3) := by decide +kernel
theorem d_R_isInArea_47 : decode b_R_isInArea 47 = .ok (.ifCond .eq 5, 3) := by decide +kernel
theorem d_R_isInArea_50 : decode b_R_isInArea 50 = .ok (.iconst 1, 1) := by decide +kernel
theorem d_R_isInArea_51 : decode b_R_isInArea 51 = .ok (.ireturn, 1) := by decide +kernel
theorem d_R_isInArea_52 : decode b_R_isInArea 52 = .ok (.iinc 5 1, 3) := by decide +kernel
theorem d_R_isInArea_55 : decode b_R_isInArea 55 = .ok (.goto (-52), 3) := by decide +kernel
theorem d_R_isInArea_58 : decode b_R_isInArea 58 = .ok (.iconst 0, 1) := by decide +kernel
theorem d_R_isInArea_59 : decode b_R_isInArea 59 = .ok (.ireturn, 1) := by decide +kernel
abbrev b_A_touches : ByteArray := prog_2_method_2_code
def y_A_touches : MethodName := ⟨"RedactCheck$Area", "touches", "(III)Z"⟩
theorem d_A_touches_0 : decode b_A_touches 0 = .ok (.aload_n 0, 1) := by decide +kernel
theorem d_A_touches_1 : decode b_A_touches 1 = .ok (.getfield 21, 3) := by decide +kernel
theorem d_A_touches_4 : decode b_A_touches 4 = .ok (.ifCond .le 61, 3) := by decide +kernel
theorem d_A_touches_7 : decode b_A_touches 7 = .ok (.aload_n 0, 1) := by decide +kernel
theorem d_A_touches_8 : decode b_A_touches 8 = .ok (.getfield 24, 3) := by decide +kernel
theorem d_A_touches_11 : decode b_A_touches 11 = .ok (.ifCond .le 54, 3) := by decide +kernel
theorem d_A_touches_14 : decode b_A_touches 14 = .ok (.iload_n 1, 1) := by decide +kernel
theorem d_A_touches_15 : decode b_A_touches 15 = .ok (.aload_n 0, 1) := by decide +kernel
theorem d_A_touches_16 : decode b_A_touches 16 = .ok (.getfield 15, 3) := by decide +kernel
theorem d_A_touches_19 : decode b_A_touches 19 = .ok (.aload_n 0, 1) := by decide +kernel
theorem d_A_touches_20 : decode b_A_touches 20 = .ok (.getfield 21, 3) := by decide +kernel
theorem d_A_touches_23 : decode b_A_touches 23 = .ok (.iadd, 1) := by decide +kernel
theorem d_A_touches_24 : decode b_A_touches 24 = .ok (.if_icmp .ge 41, 3) := by decide +kernel
theorem d_A_touches_27 : decode b_A_touches 27 = .ok (.aload_n 0, 1) := by decide +kernel
theorem d_A_touches_28 : decode b_A_touches 28 = .ok (.getfield 15, 3) := by decide +kernel
theorem d_A_touches_31 : decode b_A_touches 31 = .ok (.iload_n 1, 1) := by decide +kernel
theorem d_A_touches_32 : decode b_A_touches 32 = .ok (.iload_n 3, 1) := by decide +kernel
theorem d_A_touches_33 : decode b_A_touches 33 = .ok (.iadd, 1) := by decide +kernel
theorem d_A_touches_34 : decode b_A_touches 34 = .ok (.if_icmp .ge 31, 3) := by decide +kernel
theorem d_A_touches_37 : decode b_A_touches 37 = .ok (.iload_n 2, 1) := by decide +kernel
theorem d_A_touches_38 : decode b_A_touches 38 = .ok (.aload_n 0, 1) := by decide +kernel
theorem d_A_touches_39 : decode b_A_touches 39 = .ok (.getfield 18, 3) := by decide +kernel
theorem d_A_touches_42 : decode b_A_touches 42 = .ok (.aload_n 0, 1) := by decide +kernel
theorem d_A_touches_43 : decode b_A_touches 43 = .ok (.getfield 24, 3) := by decide +kernel
theorem d_A_touches_46 : decode b_A_touches 46 = .ok (.iadd, 1) := by decide +kernel
theorem d_A_touches_47 : decode b_A_touches 47 = .ok (.if_icmp .ge 18, 3) := by decide +kernel
theorem d_A_touches_50 : decode b_A_touches 50 = .ok (.aload_n 0, 1) := by decide +kernel
theorem d_A_touches_51 : decode b_A_touches 51 = .ok (.getfield 18, 3) := by decide +kernel
theorem d_A_touches_54 : decode b_A_touches 54 = .ok (.iload_n 2, 1) := by decide +kernel
theorem d_A_touches_55 : decode b_A_touches 55 = .ok (.bipush 10, 2) := by decide +kernel
theorem d_A_touches_57 : decode b_A_touches 57 = .ok (.iadd, 1) := by decide +kernel
theorem d_A_touches_58 : decode b_A_touches 58 = .ok (.if_icmp .ge 7, 3) := by decide +kernel
theorem d_A_touches_61 : decode b_A_touches 61 = .ok (.iconst 1, 1) := by decide +kernel
theorem d_A_touches_62 : decode b_A_touches 62 = .ok (.goto 4, 3) := by decide +kernel
theorem d_A_touches_65 : decode b_A_touches 65 = .ok (.iconst 0, 1) := by decide +kernel
theorem d_A_touches_66 : decode b_A_touches 66 = .ok (.ireturn, 1) := by decide +kernel
abbrev b_R_twinOf : ByteArray := prog_1_method_27_code
def y_R_twinOf : MethodName := ⟨"RedactCheck", "twinOf", "(LRedactCheck$Use;I)LRedactCheck$Use;"⟩
theorem d_R_twinOf_0 : decode b_R_twinOf 0 = .ok (.iconst 0, 1) := by decide +kernel
theorem d_R_twinOf_1 : decode b_R_twinOf 1 = .ok (.istore_n 3, 1) := by decide +kernel
theorem d_R_twinOf_2 : decode b_R_twinOf 2 = .ok (.iload_n 3, 1) := by decide +kernel
theorem d_R_twinOf_3 : decode b_R_twinOf 3 = .ok (.iload_n 2, 1) := by decide +kernel
theorem d_R_twinOf_4 : decode b_R_twinOf 4 = .ok (.if_icmp .ge 67, 3) := by decide +kernel
theorem d_R_twinOf_7 : decode b_R_twinOf 7 = .ok (.iload_n 3, 1) := by decide +kernel
theorem d_R_twinOf_8 : decode b_R_twinOf 8 = .ok (.aload_n 0, 1) := by decide +kernel
theorem d_R_twinOf_9 : decode b_R_twinOf 9 = .ok (.getfield 19, 3) := by decide +kernel
theorem d_R_twinOf_12 : decode b_R_twinOf 12 = .ok (.invokevirtual 62, 3) := by decide +kernel
theorem d_R_twinOf_15 : decode b_R_twinOf 15 = .ok (.if_icmp .ge 56, 3) := by decide +kernel
theorem d_R_twinOf_18 : decode b_R_twinOf 18 = .ok (.aload_n 0, 1) := by decide +kernel
theorem d_R_twinOf_19 : decode b_R_twinOf 19 = .ok (.getfield 19, 3) := by decide +kernel
theorem d_R_twinOf_22 : decode b_R_twinOf 22 = .ok (.iload_n 3, 1) := by decide +kernel
theorem d_R_twinOf_23 : decode b_R_twinOf 23 = .ok (.invokevirtual 138, 3) := by decide +kernel
theorem d_R_twinOf_26 : decode b_R_twinOf 26 = .ok (.checkcast 77, 3) := by decide +kernel
theorem d_R_twinOf_29 : decode b_R_twinOf 29 = .ok (.astore 4, 2) := by decide +kernel
theorem d_R_twinOf_31 : decode b_R_twinOf 31 = .ok (.aload 4, 2) := by decide +kernel
theorem d_R_twinOf_33 : decode b_R_twinOf 33 = .ok (.getfield 149, 3) := by decide +kernel
theorem d_R_twinOf_36 : decode b_R_twinOf 36 = .ok (.getfield 172, 3) := by decide +kernel
theorem d_R_twinOf_39 : decode b_R_twinOf 39 = .ok (.aload_n 1, 1) := by decide +kernel
theorem d_R_twinOf_40 : decode b_R_twinOf 40 = .ok (.getfield 149, 3) := by decide +kernel
theorem d_R_twinOf_43 : decode b_R_twinOf 43 = .ok (.getfield 172, 3) := by decide +kernel
theorem d_R_twinOf_46 : decode b_R_twinOf 46 = .ok (.if_icmp .ne 19, 3) := by decide +kernel
theorem d_R_twinOf_49 : decode b_R_twinOf 49 = .ok (.aload 4, 2) := by decide +kernel
theorem d_R_twinOf_51 : decode b_R_twinOf 51 = .ok (.getfield 205, 3) := by decide +kernel
theorem d_R_twinOf_54 : decode b_R_twinOf 54 = .ok (.aload_n 1, 1) := by decide +kernel
theorem d_R_twinOf_55 : decode b_R_twinOf 55 = .ok (.getfield 205, 3) := by decide +kernel
theorem d_R_twinOf_58 : decode b_R_twinOf 58 = .ok (.lcmp, 1) := by decide +kernel
theorem d_R_twinOf_59 : decode b_R_twinOf 59 = .ok (.ifCond .ne 6, 3) := by decide +kernel
theorem d_R_twinOf_62 : decode b_R_twinOf 62 = .ok (.aload 4, 2) := by decide +kernel
theorem d_R_twinOf_64 : decode b_R_twinOf 64 = .ok (.areturn, 1) := by decide +kernel
theorem d_R_twinOf_65 : decode b_R_twinOf 65 = .ok (.iinc 3 1, 3) := by decide +kernel
theorem d_R_twinOf_68 : decode b_R_twinOf 68 = .ok (.goto (-66), 3) := by decide +kernel
theorem d_R_twinOf_71 : decode b_R_twinOf 71 = .ok (.aconst_null, 1) := by decide +kernel
theorem d_R_twinOf_72 : decode b_R_twinOf 72 = .ok (.areturn, 1) := by decide +kernel
abbrev b_R_cutPages : ByteArray := prog_1_method_28_code
end
section
def y_R_cutPages : MethodName := ⟨"RedactCheck", "cutPages", "()I"⟩
theorem d_R_cutPages_0 : decode b_R_cutPages 0 = .ok (.iconst 0, 1) := by decide +kernel
theorem d_R_cutPages_1 : decode b_R_cutPages 1 = .ok (.istore_n 1, 1) := by decide +kernel
theorem d_R_cutPages_2 : decode b_R_cutPages 2 = .ok (.iconst 0, 1) := by decide +kernel
theorem d_R_cutPages_3 : decode b_R_cutPages 3 = .ok (.istore_n 2, 1) := by decide +kernel
theorem d_R_cutPages_4 : decode b_R_cutPages 4 = .ok (.iload_n 2, 1) := by decide +kernel
theorem d_R_cutPages_5 : decode b_R_cutPages 5 = .ok (.aload_n 0, 1) := by decide +kernel
theorem d_R_cutPages_6 : decode b_R_cutPages 6 = .ok (.getfield 10, 3) := by decide +kernel
theorem d_R_cutPages_9 : decode b_R_cutPages 9 = .ok (.invokevirtual 62, 3) := by decide +kernel
theorem d_R_cutPages_12 : decode b_R_cutPages 12 = .ok (.if_icmp .ge 45, 3) := by decide +kernel
theorem d_R_cutPages_15 : decode b_R_cutPages 15 = .ok (.aload_n 0, 1) := by decide +kernel
theorem d_R_cutPages_16 : decode b_R_cutPages 16 = .ok (.getfield 10, 3) := by decide +kernel
theorem d_R_cutPages_19 : decode b_R_cutPages 19 = .ok (.iload_n 2, 1) := by decide +kernel
theorem d_R_cutPages_20 : decode b_R_cutPages 20 = .ok (.invokevirtual 138, 3) := by decide +kernel
theorem d_R_cutPages_23 : decode b_R_cutPages 23 = .ok (.checkcast 45, 3) := by decide +kernel
theorem d_R_cutPages_26 : decode b_R_cutPages 26 = .ok (.astore_n 3, 1) := by decide +kernel
theorem d_R_cutPages_27 : decode b_R_cutPages 27 = .ok (.aload_n 0, 1) := by decide +kernel
theorem d_R_cutPages_28 : decode b_R_cutPages 28 = .ok (.aload_n 3, 1) := by decide +kernel
theorem d_R_cutPages_29 : decode b_R_cutPages 29 = .ok (.iload_n 2, 1) := by decide +kernel
theorem d_R_cutPages_30 : decode b_R_cutPages 30 = .ok (.iconst 0, 1) := by decide +kernel
theorem d_R_cutPages_31 : decode b_R_cutPages 31 = .ok (.iconst 0, 1) := by decide +kernel
theorem d_R_cutPages_32 : decode b_R_cutPages 32 = .ok (.invokevirtual 201, 3) := by decide +kernel
theorem d_R_cutPages_35 : decode b_R_cutPages 35 = .ok (.lstore 4, 2) := by decide +kernel
theorem d_R_cutPages_37 : decode b_R_cutPages 37 = .ok (.aload_n 3, 1) := by decide +kernel
theorem d_R_cutPages_38 : decode b_R_cutPages 38 = .ok (.lload 4, 2) := by decide +kernel
theorem d_R_cutPages_40 : decode b_R_cutPages 40 = .ok (.invokevirtual 217, 3) := by decide +kernel
theorem d_R_cutPages_43 : decode b_R_cutPages 43 = .ok (.iload_n 1, 1) := by decide +kernel
theorem d_R_cutPages_44 : decode b_R_cutPages 44 = .ok (.lload 4, 2) := by decide +kernel
theorem d_R_cutPages_46 : decode b_R_cutPages 46 = .ok (.invokestatic 221, 3) := by decide +kernel
theorem d_R_cutPages_49 : decode b_R_cutPages 49 = .ok (.iadd, 1) := by decide +kernel
theorem d_R_cutPages_50 : decode b_R_cutPages 50 = .ok (.istore_n 1, 1) := by decide +kernel
theorem d_R_cutPages_51 : decode b_R_cutPages 51 = .ok (.iinc 2 1, 3) := by decide +kernel
theorem d_R_cutPages_54 : decode b_R_cutPages 54 = .ok (.goto (-50), 3) := by decide +kernel
theorem d_R_cutPages_57 : decode b_R_cutPages 57 = .ok (.iload_n 1, 1) := by decide +kernel
theorem d_R_cutPages_58 : decode b_R_cutPages 58 = .ok (.ireturn, 1) := by decide +kernel
abbrev b_O_cut : ByteArray := prog_5_method_4_code
def y_O_cut : MethodName := ⟨"RedactCheck$Row", "cut", "(J)V"⟩
theorem d_O_cut_0 : decode b_O_cut 0 = .ok (.iconst 0, 1) := by decide +kernel
theorem d_O_cut_1 : decode b_O_cut 1 = .ok (.istore_n 3, 1) := by decide +kernel
theorem d_O_cut_2 : decode b_O_cut 2 = .ok (.iconst 0, 1) := by decide +kernel
theorem d_O_cut_3 : decode b_O_cut 3 = .ok (.istore 4, 2) := by decide +kernel
theorem d_O_cut_5 : decode b_O_cut 5 = .ok (.iconst 0, 1) := by decide +kernel
theorem d_O_cut_6 : decode b_O_cut 6 = .ok (.istore 5, 2) := by decide +kernel
theorem d_O_cut_8 : decode b_O_cut 8 = .ok (.iload 5, 2) := by decide +kernel
theorem d_O_cut_10 : decode b_O_cut 10 = .ok (.aload_n 0, 1) := by decide +kernel
theorem d_O_cut_11 : decode b_O_cut 11 = .ok (.getfield 7, 3) := by decide +kernel
theorem d_O_cut_14 : decode b_O_cut 14 = .ok (.if_icmp .ge 64, 3) := by decide +kernel
theorem d_O_cut_17 : decode b_O_cut 17 = .ok (.lload_n 1, 1) := by decide +kernel
theorem d_O_cut_18 : decode b_O_cut 18 = .ok (.iload 5, 2) := by decide +kernel
theorem d_O_cut_20 : decode b_O_cut 20 = .ok (.lushr, 1) := by decide +kernel
theorem d_O_cut_21 : decode b_O_cut 21 = .ok (.lconst 1, 1) := by decide +kernel
theorem d_O_cut_22 : decode b_O_cut 22 = .ok (.land, 1) := by decide +kernel
theorem d_O_cut_23 : decode b_O_cut 23 = .ok (.lconst 0, 1) := by decide +kernel
theorem d_O_cut_24 : decode b_O_cut 24 = .ok (.lcmp, 1) := by decide +kernel
theorem d_O_cut_25 : decode b_O_cut 25 = .ok (.ifCond .eq 7, 3) := by decide +kernel
theorem d_O_cut_28 : decode b_O_cut 28 = .ok (.iconst 1, 1) := by decide +kernel
theorem d_O_cut_29 : decode b_O_cut 29 = .ok (.goto 4, 3) := by decide +kernel
theorem d_O_cut_32 : decode b_O_cut 32 = .ok (.iconst 0, 1) := by decide +kernel
theorem d_O_cut_33 : decode b_O_cut 33 = .ok (.istore 6, 2) := by decide +kernel
theorem d_O_cut_35 : decode b_O_cut 35 = .ok (.iload 6, 2) := by decide +kernel
theorem d_O_cut_37 : decode b_O_cut 37 = .ok (.ifCond .ne 16, 3) := by decide +kernel
theorem d_O_cut_40 : decode b_O_cut 40 = .ok (.aload_n 0, 1) := by decide +kernel
theorem d_O_cut_41 : decode b_O_cut 41 = .ok (.iload 5, 2) := by decide +kernel
theorem d_O_cut_43 : decode b_O_cut 43 = .ok (.iload_n 3, 1) := by decide +kernel
theorem d_O_cut_44 : decode b_O_cut 44 = .ok (.invokevirtual 13, 3) := by decide +kernel
theorem d_O_cut_47 : decode b_O_cut 47 = .ok (.iinc 3 1, 3) := by decide +kernel
theorem d_O_cut_50 : decode b_O_cut 50 = .ok (.goto 18, 3) := by decide +kernel
theorem d_O_cut_53 : decode b_O_cut 53 = .ok (.iload 4, 2) := by decide +kernel
theorem d_O_cut_55 : decode b_O_cut 55 = .ok (.ifCond .ne 13, 3) := by decide +kernel
theorem d_O_cut_58 : decode b_O_cut 58 = .ok (.aload_n 0, 1) := by decide +kernel
theorem d_O_cut_59 : decode b_O_cut 59 = .ok (.iload 5, 2) := by decide +kernel
theorem d_O_cut_61 : decode b_O_cut 61 = .ok (.iload_n 3, 1) := by decide +kernel
theorem d_O_cut_62 : decode b_O_cut 62 = .ok (.invokevirtual 17, 3) := by decide +kernel
theorem d_O_cut_65 : decode b_O_cut 65 = .ok (.iinc 3 1, 3) := by decide +kernel
theorem d_O_cut_68 : decode b_O_cut 68 = .ok (.iload 6, 2) := by decide +kernel
theorem d_O_cut_70 : decode b_O_cut 70 = .ok (.istore 4, 2) := by decide +kernel
theorem d_O_cut_72 : decode b_O_cut 72 = .ok (.iinc 5 1, 3) := by decide +kernel
theorem d_O_cut_75 : decode b_O_cut 75 = .ok (.goto (-67), 3) := by decide +kernel
theorem d_O_cut_78 : decode b_O_cut 78 = .ok (.aload_n 0, 1) := by decide +kernel
theorem d_O_cut_79 : decode b_O_cut 79 = .ok (.iload_n 3, 1) := by decide +kernel
theorem d_O_cut_80 : decode b_O_cut 80 = .ok (.putfield 7, 3) := by decide +kernel
theorem d_O_cut_83 : decode b_O_cut 83 = .ok (.return_, 1) := by decide +kernel
abbrev b_C_keep : ByteArray := prog_3_method_4_code
def y_C_keep : MethodName := ⟨"RedactCheck$Codes", "keep", "(II)V"⟩
theorem d_C_keep_0 : decode b_C_keep 0 = .ok (.aload_n 0, 1) := by decide +kernel
theorem d_C_keep_1 : decode b_C_keep 1 = .ok (.iload_n 2, 1) := by decide +kernel
theorem d_C_keep_2 : decode b_C_keep 2 = .ok (.aload_n 0, 1) := by decide +kernel
theorem d_C_keep_3 : decode b_C_keep 3 = .ok (.iload_n 1, 1) := by decide +kernel
theorem d_C_keep_4 : decode b_C_keep 4 = .ok (.invokevirtual 19, 3) := by decide +kernel
theorem d_C_keep_7 : decode b_C_keep 7 = .ok (.invokevirtual 23, 3) := by decide +kernel
theorem d_C_keep_10 : decode b_C_keep 10 = .ok (.return_, 1) := by decide +kernel
abbrev b_C_put : ByteArray := prog_3_method_6_code
def y_C_put : MethodName := ⟨"RedactCheck$Codes", "put", "(II)V"⟩
theorem d_C_put_0 : decode b_C_put 0 = .ok (.iload_n 1, 1) := by decide +kernel
theorem d_C_put_1 : decode b_C_put 1 = .ok (.ifCond .lt 19, 3) := by decide +kernel
theorem d_C_put_4 : decode b_C_put 4 = .ok (.iload_n 1, 1) := by decide +kernel
theorem d_C_put_5 : decode b_C_put 5 = .ok (.aload_n 0, 1) := by decide +kernel
theorem d_C_put_6 : decode b_C_put 6 = .ok (.getfield 9, 3) := by decide +kernel
theorem d_C_put_9 : decode b_C_put 9 = .ok (.arraylength, 1) := by decide +kernel
theorem d_C_put_10 : decode b_C_put 10 = .ok (.if_icmp .ge 10, 3) := by decide +kernel
theorem d_C_put_13 : decode b_C_put 13 = .ok (.aload_n 0, 1) := by decide +kernel
theorem d_C_put_14 : decode b_C_put 14 = .ok (.getfield 9, 3) := by decide +kernel
theorem d_C_put_17 : decode b_C_put 17 = .ok (.iload_n 1, 1) := by decide +kernel
theorem d_C_put_18 : decode b_C_put 18 = .ok (.iload_n 2, 1) := by decide +kernel
theorem d_C_put_19 : decode b_C_put 19 = .ok (.iastore, 1) := by decide +kernel
theorem d_C_put_20 : decode b_C_put 20 = .ok (.return_, 1) := by decide +kernel
abbrev b_S_keep : ByteArray := prog_6_method_6_code
def y_S_keep : MethodName := ⟨"RedactCheck$SignRow", "keep", "(II)V"⟩
theorem d_S_keep_0 : decode b_S_keep 0 = .ok (.aload_n 0, 1) := by decide +kernel
theorem d_S_keep_1 : decode b_S_keep 1 = .ok (.iload_n 2, 1) := by decide +kernel
theorem d_S_keep_2 : decode b_S_keep 2 = .ok (.aload_n 0, 1) := by decide +kernel
theorem d_S_keep_3 : decode b_S_keep 3 = .ok (.iload_n 1, 1) := by decide +kernel
theorem d_S_keep_4 : decode b_S_keep 4 = .ok (.iconst 0, 1) := by decide +kernel
theorem d_S_keep_5 : decode b_S_keep 5 = .ok (.invokevirtual 29, 3) := by decide +kernel
theorem d_S_keep_8 : decode b_S_keep 8 = .ok (.aload_n 0, 1) := by decide +kernel
theorem d_S_keep_9 : decode b_S_keep 9 = .ok (.iload_n 1, 1) := by decide +kernel
theorem d_S_keep_10 : decode b_S_keep 10 = .ok (.iconst 1, 1) := by decide +kernel
theorem d_S_keep_11 : decode b_S_keep 11 = .ok (.invokevirtual 29, 3) := by decide +kernel
theorem d_S_keep_14 : decode b_S_keep 14 = .ok (.aload_n 0, 1) := by decide +kernel
theorem d_S_keep_15 : decode b_S_keep 15 = .ok (.iload_n 1, 1) := by decide +kernel
theorem d_S_keep_16 : decode b_S_keep 16 = .ok (.iconst 2, 1) := by decide +kernel
theorem d_S_keep_17 : decode b_S_keep 17 = .ok (.invokevirtual 29, 3) := by decide +kernel
theorem d_S_keep_20 : decode b_S_keep 20 = .ok (.aload_n 0, 1) := by decide +kernel
theorem d_S_keep_21 : decode b_S_keep 21 = .ok (.iload_n 1, 1) := by decide +kernel
theorem d_S_keep_22 : decode b_S_keep 22 = .ok (.iconst 3, 1) := by decide +kernel
theorem d_S_keep_23 : decode b_S_keep 23 = .ok (.invokevirtual 29, 3) := by decide +kernel
theorem d_S_keep_26 : decode b_S_keep 26 = .ok (.invokevirtual 22, 3) := by decide +kernel
theorem d_S_keep_29 : decode b_S_keep 29 = .ok (.return_, 1) := by decide +kernel
abbrev b_C_blot : ByteArray := prog_3_method_5_code
def y_C_blot : MethodName := ⟨"RedactCheck$Codes", "blot", "(II)V"⟩
theorem d_C_blot_0 : decode b_C_blot 0 = .ok (.aload_n 0, 1) := by decide +kernel
theorem d_C_blot_1 : decode b_C_blot 1 = .ok (.iload_n 2, 1) := by decide +kernel
theorem d_C_blot_2 : decode b_C_blot 2 = .ok (.bipush 42, 2) := by decide +kernel
theorem d_C_blot_4 : decode b_C_blot 4 = .ok (.invokevirtual 23, 3) := by decide +kernel
theorem d_C_blot_7 : decode b_C_blot 7 = .ok (.return_, 1) := by decide +kernel
abbrev b_S_blot : ByteArray := prog_6_method_7_code
def y_S_blot : MethodName := ⟨"RedactCheck$SignRow", "blot", "(II)V"⟩
theorem d_S_blot_0 : decode b_S_blot 0 = .ok (.aload_n 0, 1) := by decide +kernel
theorem d_S_blot_1 : decode b_S_blot 1 = .ok (.iload_n 2, 1) := by decide +kernel
theorem d_S_blot_2 : decode b_S_blot 2 = .ok (.iconst 0, 1) := by decide +kernel
theorem d_S_blot_3 : decode b_S_blot 3 = .ok (.aload_n 0, 1) := by decide +kernel
theorem d_S_blot_4 : decode b_S_blot 4 = .ok (.iload_n 1, 1) := by decide +kernel
theorem d_S_blot_5 : decode b_S_blot 5 = .ok (.iconst 1, 1) := by decide +kernel
theorem d_S_blot_6 : decode b_S_blot 6 = .ok (.invokevirtual 29, 3) := by decide +kernel
theorem d_S_blot_9 : decode b_S_blot 9 = .ok (.aload_n 0, 1) := by decide +kernel
theorem d_S_blot_10 : decode b_S_blot 10 = .ok (.iload_n 1, 1) := by decide +kernel
theorem d_S_blot_11 : decode b_S_blot 11 = .ok (.iconst 2, 1) := by decide +kernel
theorem d_S_blot_12 : decode b_S_blot 12 = .ok (.invokevirtual 29, 3) := by decide +kernel
theorem d_S_blot_15 : decode b_S_blot 15 = .ok (.bipush 100, 2) := by decide +kernel
theorem d_S_blot_17 : decode b_S_blot 17 = .ok (.invokevirtual 22, 3) := by decide +kernel
theorem d_S_blot_20 : decode b_S_blot 20 = .ok (.return_, 1) := by decide +kernel
abbrev b_R_cutUses : ByteArray := prog_1_method_29_code
def y_R_cutUses : MethodName := ⟨"RedactCheck", "cutUses", "()I"⟩
theorem d_R_cutUses_0 : decode b_R_cutUses 0 = .ok (.iconst 0, 1) := by decide +kernel
theorem d_R_cutUses_1 : decode b_R_cutUses 1 = .ok (.istore_n 1, 1) := by decide +kernel
theorem d_R_cutUses_2 : decode b_R_cutUses 2 = .ok (.iconst 0, 1) := by decide +kernel
theorem d_R_cutUses_3 : decode b_R_cutUses 3 = .ok (.istore_n 2, 1) := by decide +kernel
theorem d_R_cutUses_4 : decode b_R_cutUses 4 = .ok (.iload_n 2, 1) := by decide +kernel
theorem d_R_cutUses_5 : decode b_R_cutUses 5 = .ok (.aload_n 0, 1) := by decide +kernel
theorem d_R_cutUses_6 : decode b_R_cutUses 6 = .ok (.getfield 19, 3) := by decide +kernel
theorem d_R_cutUses_9 : decode b_R_cutUses 9 = .ok (.invokevirtual 62, 3) := by decide +kernel
theorem d_R_cutUses_12 : decode b_R_cutUses 12 = .ok (.if_icmp .ge 73, 3) := by decide +kernel
theorem d_R_cutUses_15 : decode b_R_cutUses 15 = .ok (.aload_n 0, 1) := by decide +kernel
theorem d_R_cutUses_16 : decode b_R_cutUses 16 = .ok (.getfield 19, 3) := by decide +kernel
theorem d_R_cutUses_19 : decode b_R_cutUses 19 = .ok (.iload_n 2, 1) := by decide +kernel
theorem d_R_cutUses_20 : decode b_R_cutUses 20 = .ok (.invokevirtual 138, 3) := by decide +kernel
theorem d_R_cutUses_23 : decode b_R_cutUses 23 = .ok (.checkcast 77, 3) := by decide +kernel
theorem d_R_cutUses_26 : decode b_R_cutUses 26 = .ok (.astore_n 3, 1) := by decide +kernel
theorem d_R_cutUses_27 : decode b_R_cutUses 27 = .ok (.aload_n 3, 1) := by decide +kernel
theorem d_R_cutUses_28 : decode b_R_cutUses 28 = .ok (.getfield 205, 3) := by decide +kernel
theorem d_R_cutUses_31 : decode b_R_cutUses 31 = .ok (.lconst 0, 1) := by decide +kernel
theorem d_R_cutUses_32 : decode b_R_cutUses 32 = .ok (.lcmp, 1) := by decide +kernel
theorem d_R_cutUses_33 : decode b_R_cutUses 33 = .ok (.ifCond .eq 46, 3) := by decide +kernel
theorem d_R_cutUses_36 : decode b_R_cutUses 36 = .ok (.aload_n 3, 1) := by decide +kernel
theorem d_R_cutUses_37 : decode b_R_cutUses 37 = .ok (.aload_n 3, 1) := by decide +kernel
theorem d_R_cutUses_38 : decode b_R_cutUses 38 = .ok (.getfield 213, 3) := by decide +kernel
theorem d_R_cutUses_41 : decode b_R_cutUses 41 = .ok (.ifnonnull 18, 3) := by decide +kernel
theorem d_R_cutUses_44 : decode b_R_cutUses 44 = .ok (.aload_n 0, 1) := by decide +kernel
theorem d_R_cutUses_45 : decode b_R_cutUses 45 = .ok (.aload_n 3, 1) := by decide +kernel
theorem d_R_cutUses_46 : decode b_R_cutUses 46 = .ok (.getfield 149, 3) := by decide +kernel
theorem d_R_cutUses_49 : decode b_R_cutUses 49 = .ok (.aload_n 3, 1) := by decide +kernel
theorem d_R_cutUses_50 : decode b_R_cutUses 50 = .ok (.getfield 205, 3) := by decide +kernel
theorem d_R_cutUses_53 : decode b_R_cutUses 53 = .ok (.invokevirtual 227, 3) := by decide +kernel
theorem d_R_cutUses_56 : decode b_R_cutUses 56 = .ok (.goto 10, 3) := by decide +kernel
theorem d_R_cutUses_59 : decode b_R_cutUses 59 = .ok (.aload_n 3, 1) := by decide +kernel
theorem d_R_cutUses_60 : decode b_R_cutUses 60 = .ok (.getfield 213, 3) := by decide +kernel
theorem d_R_cutUses_63 : decode b_R_cutUses 63 = .ok (.getfield 149, 3) := by decide +kernel
theorem d_R_cutUses_66 : decode b_R_cutUses 66 = .ok (.putfield 149, 3) := by decide +kernel
theorem d_R_cutUses_69 : decode b_R_cutUses 69 = .ok (.iload_n 1, 1) := by decide +kernel
theorem d_R_cutUses_70 : decode b_R_cutUses 70 = .ok (.aload_n 3, 1) := by decide +kernel
theorem d_R_cutUses_71 : decode b_R_cutUses 71 = .ok (.getfield 205, 3) := by decide +kernel
theorem d_R_cutUses_74 : decode b_R_cutUses 74 = .ok (.invokestatic 221, 3) := by decide +kernel
theorem d_R_cutUses_77 : decode b_R_cutUses 77 = .ok (.iadd, 1) := by decide +kernel
theorem d_R_cutUses_78 : decode b_R_cutUses 78 = .ok (.istore_n 1, 1) := by decide +kernel
theorem d_R_cutUses_79 : decode b_R_cutUses 79 = .ok (.iinc 2 1, 3) := by decide +kernel
theorem d_R_cutUses_82 : decode b_R_cutUses 82 = .ok (.goto (-78), 3) := by decide +kernel
theorem d_R_cutUses_85 : decode b_R_cutUses 85 = .ok (.iload_n 1, 1) := by decide +kernel
theorem d_R_cutUses_86 : decode b_R_cutUses 86 = .ok (.ireturn, 1) := by decide +kernel
abbrev b_R_addCutCopy : ByteArray := prog_1_method_30_code
def y_R_addCutCopy : MethodName := ⟨"RedactCheck", "addCutCopy", "(LRedactCheck$SignRow;J)LRedactCheck$SignRow;"⟩
theorem d_R_addCutCopy_0 : decode b_R_addCutCopy 0 = .ok (.aload_n 1, 1) := by decide +kernel
theorem d_R_addCutCopy_1 : decode b_R_addCutCopy 1 = .ok (.aload_n 0, 1) := by decide +kernel
theorem d_R_addCutCopy_2 : decode b_R_addCutCopy 2 = .ok (.getfield 16, 3) := by decide +kernel
theorem d_R_addCutCopy_5 : decode b_R_addCutCopy 5 = .ok (.invokevirtual 62, 3) := by decide +kernel
theorem d_R_addCutCopy_8 : decode b_R_addCutCopy 8 = .ok (.invokevirtual 231, 3) := by decide +kernel
theorem d_R_addCutCopy_11 : decode b_R_addCutCopy 11 = .ok (.astore 4, 2) := by decide +kernel
theorem d_R_addCutCopy_13 : decode b_R_addCutCopy 13 = .ok (.aload 4, 2) := by decide +kernel
theorem d_R_addCutCopy_15 : decode b_R_addCutCopy 15 = .ok (.lload_n 2, 1) := by decide +kernel
theorem d_R_addCutCopy_16 : decode b_R_addCutCopy 16 = .ok (.invokevirtual 217, 3) := by decide +kernel
theorem d_R_addCutCopy_19 : decode b_R_addCutCopy 19 = .ok (.aload_n 0, 1) := by decide +kernel
theorem d_R_addCutCopy_20 : decode b_R_addCutCopy 20 = .ok (.getfield 16, 3) := by decide +kernel
theorem d_R_addCutCopy_23 : decode b_R_addCutCopy 23 = .ok (.aload 4, 2) := by decide +kernel
theorem d_R_addCutCopy_25 : decode b_R_addCutCopy 25 = .ok (.invokevirtual 50, 3) := by decide +kernel
theorem d_R_addCutCopy_28 : decode b_R_addCutCopy 28 = .ok (.pop, 1) := by decide +kernel
theorem d_R_addCutCopy_29 : decode b_R_addCutCopy 29 = .ok (.aload 4, 2) := by decide +kernel
theorem d_R_addCutCopy_31 : decode b_R_addCutCopy 31 = .ok (.areturn, 1) := by decide +kernel
abbrev b_S_copyNumbered : ByteArray := prog_6_method_5_code
def y_S_copyNumbered : MethodName := ⟨"RedactCheck$SignRow", "copyNumbered", "(I)LRedactCheck$SignRow;"⟩
theorem d_S_copyNumbered_0 : decode b_S_copyNumbered 0 = .ok (.new 10, 3) := by decide +kernel
theorem d_S_copyNumbered_3 : decode b_S_copyNumbered 3 = .ok (.dup, 1) := by decide +kernel
theorem d_S_copyNumbered_4 : decode b_S_copyNumbered 4 = .ok (.iload_n 1, 1) := by decide +kernel
theorem d_S_copyNumbered_5 : decode b_S_copyNumbered 5 = .ok (.invokespecial 37, 3) := by decide +kernel
theorem d_S_copyNumbered_8 : decode b_S_copyNumbered 8 = .ok (.astore_n 2, 1) := by decide +kernel
theorem d_S_copyNumbered_9 : decode b_S_copyNumbered 9 = .ok (.iconst 0, 1) := by decide +kernel
theorem d_S_copyNumbered_10 : decode b_S_copyNumbered 10 = .ok (.istore_n 3, 1) := by decide +kernel
theorem d_S_copyNumbered_11 : decode b_S_copyNumbered 11 = .ok (.iload_n 3, 1) := by decide +kernel
theorem d_S_copyNumbered_12 : decode b_S_copyNumbered 12 = .ok (.aload_n 0, 1) := by decide +kernel
theorem d_S_copyNumbered_13 : decode b_S_copyNumbered 13 = .ok (.getfield 19, 3) := by decide +kernel
theorem d_S_copyNumbered_16 : decode b_S_copyNumbered 16 = .ok (.if_icmp .ge 37, 3) := by decide +kernel
theorem d_S_copyNumbered_19 : decode b_S_copyNumbered 19 = .ok (.aload_n 2, 1) := by decide +kernel
theorem d_S_copyNumbered_20 : decode b_S_copyNumbered 20 = .ok (.aload_n 0, 1) := by decide +kernel
theorem d_S_copyNumbered_21 : decode b_S_copyNumbered 21 = .ok (.iload_n 3, 1) := by decide +kernel
theorem d_S_copyNumbered_22 : decode b_S_copyNumbered 22 = .ok (.iconst 0, 1) := by decide +kernel
theorem d_S_copyNumbered_23 : decode b_S_copyNumbered 23 = .ok (.invokevirtual 29, 3) := by decide +kernel
theorem d_S_copyNumbered_26 : decode b_S_copyNumbered 26 = .ok (.aload_n 0, 1) := by decide +kernel
theorem d_S_copyNumbered_27 : decode b_S_copyNumbered 27 = .ok (.iload_n 3, 1) := by decide +kernel
theorem d_S_copyNumbered_28 : decode b_S_copyNumbered 28 = .ok (.iconst 1, 1) := by decide +kernel
theorem d_S_copyNumbered_29 : decode b_S_copyNumbered 29 = .ok (.invokevirtual 29, 3) := by decide +kernel
theorem d_S_copyNumbered_32 : decode b_S_copyNumbered 32 = .ok (.aload_n 0, 1) := by decide +kernel
theorem d_S_copyNumbered_33 : decode b_S_copyNumbered 33 = .ok (.iload_n 3, 1) := by decide +kernel
theorem d_S_copyNumbered_34 : decode b_S_copyNumbered 34 = .ok (.iconst 2, 1) := by decide +kernel
theorem d_S_copyNumbered_35 : decode b_S_copyNumbered 35 = .ok (.invokevirtual 29, 3) := by decide +kernel
theorem d_S_copyNumbered_38 : decode b_S_copyNumbered 38 = .ok (.aload_n 0, 1) := by decide +kernel
theorem d_S_copyNumbered_39 : decode b_S_copyNumbered 39 = .ok (.iload_n 3, 1) := by decide +kernel
theorem d_S_copyNumbered_40 : decode b_S_copyNumbered 40 = .ok (.iconst 3, 1) := by decide +kernel
theorem d_S_copyNumbered_41 : decode b_S_copyNumbered 41 = .ok (.invokevirtual 29, 3) := by decide +kernel
theorem d_S_copyNumbered_44 : decode b_S_copyNumbered 44 = .ok (.invokevirtual 39, 3) := by decide +kernel
theorem d_S_copyNumbered_47 : decode b_S_copyNumbered 47 = .ok (.iinc 3 1, 3) := by decide +kernel
theorem d_S_copyNumbered_50 : decode b_S_copyNumbered 50 = .ok (.goto (-39), 3) := by decide +kernel
theorem d_S_copyNumbered_53 : decode b_S_copyNumbered 53 = .ok (.aload_n 2, 1) := by decide +kernel
theorem d_S_copyNumbered_54 : decode b_S_copyNumbered 54 = .ok (.areturn, 1) := by decide +kernel
abbrev b_R_cutStores : ByteArray := prog_1_method_31_code
def y_R_cutStores : MethodName := ⟨"RedactCheck", "cutStores", "()I"⟩
theorem d_R_cutStores_0 : decode b_R_cutStores 0 = .ok (.iconst 0, 1) := by decide +kernel
theorem d_R_cutStores_1 : decode b_R_cutStores 1 = .ok (.istore_n 1, 1) := by decide +kernel
theorem d_R_cutStores_2 : decode b_R_cutStores 2 = .ok (.iconst 0, 1) := by decide +kernel
theorem d_R_cutStores_3 : decode b_R_cutStores 3 = .ok (.istore_n 2, 1) := by decide +kernel
theorem d_R_cutStores_4 : decode b_R_cutStores 4 = .ok (.iload_n 2, 1) := by decide +kernel
theorem d_R_cutStores_5 : decode b_R_cutStores 5 = .ok (.aload_n 0, 1) := by decide +kernel
theorem d_R_cutStores_6 : decode b_R_cutStores 6 = .ok (.getfield 28, 3) := by decide +kernel
theorem d_R_cutStores_9 : decode b_R_cutStores 9 = .ok (.invokevirtual 62, 3) := by decide +kernel
theorem d_R_cutStores_12 : decode b_R_cutStores 12 = .ok (.if_icmp .ge 75, 3) := by decide +kernel
theorem d_R_cutStores_15 : decode b_R_cutStores 15 = .ok (.aload_n 0, 1) := by decide +kernel
theorem d_R_cutStores_16 : decode b_R_cutStores 16 = .ok (.getfield 28, 3) := by decide +kernel
theorem d_R_cutStores_19 : decode b_R_cutStores 19 = .ok (.iload_n 2, 1) := by decide +kernel
theorem d_R_cutStores_20 : decode b_R_cutStores 20 = .ok (.invokevirtual 138, 3) := by decide +kernel
theorem d_R_cutStores_23 : decode b_R_cutStores 23 = .ok (.checkcast 107, 3) := by decide +kernel
theorem d_R_cutStores_26 : decode b_R_cutStores 26 = .ok (.astore_n 3, 1) := by decide +kernel
theorem d_R_cutStores_27 : decode b_R_cutStores 27 = .ok (.aload_n 3, 1) := by decide +kernel
theorem d_R_cutStores_28 : decode b_R_cutStores 28 = .ok (.aload_n 0, 1) := by decide +kernel
theorem d_R_cutStores_29 : decode b_R_cutStores 29 = .ok (.getfield 41, 3) := by decide +kernel
theorem d_R_cutStores_32 : decode b_R_cutStores 32 = .ok (.aload_n 3, 1) := by decide +kernel
theorem d_R_cutStores_33 : decode b_R_cutStores 33 = .ok (.getfield 235, 3) := by decide +kernel
theorem d_R_cutStores_36 : decode b_R_cutStores 36 = .ok (.invokevirtual 238, 3) := by decide +kernel
theorem d_R_cutStores_39 : decode b_R_cutStores 39 = .ok (.ifCond .eq 37, 3) := by decide +kernel
theorem d_R_cutStores_42 : decode b_R_cutStores 42 = .ok (.aload_n 0, 1) := by decide +kernel
theorem d_R_cutStores_43 : decode b_R_cutStores 43 = .ok (.invokevirtual 241, 3) := by decide +kernel
theorem d_R_cutStores_46 : decode b_R_cutStores 46 = .ok (.lstore 4, 2) := by decide +kernel
theorem d_R_cutStores_48 : decode b_R_cutStores 48 = .ok (.aload_n 0, 1) := by decide +kernel
theorem d_R_cutStores_49 : decode b_R_cutStores 49 = .ok (.getfield 41, 3) := by decide +kernel
theorem d_R_cutStores_52 : decode b_R_cutStores 52 = .ok (.lload 4, 2) := by decide +kernel
theorem d_R_cutStores_54 : decode b_R_cutStores 54 = .ok (.invokevirtual 245, 3) := by decide +kernel
theorem d_R_cutStores_57 : decode b_R_cutStores 57 = .ok (.aload_n 3, 1) := by decide +kernel
theorem d_R_cutStores_58 : decode b_R_cutStores 58 = .ok (.aload_n 0, 1) := by decide +kernel
theorem d_R_cutStores_59 : decode b_R_cutStores 59 = .ok (.getfield 41, 3) := by decide +kernel
theorem d_R_cutStores_62 : decode b_R_cutStores 62 = .ok (.invokevirtual 246, 3) := by decide +kernel
theorem d_R_cutStores_65 : decode b_R_cutStores 65 = .ok (.iload_n 1, 1) := by decide +kernel
theorem d_R_cutStores_66 : decode b_R_cutStores 66 = .ok (.lload 4, 2) := by decide +kernel
theorem d_R_cutStores_68 : decode b_R_cutStores 68 = .ok (.invokestatic 221, 3) := by decide +kernel
theorem d_R_cutStores_71 : decode b_R_cutStores 71 = .ok (.iadd, 1) := by decide +kernel
theorem d_R_cutStores_72 : decode b_R_cutStores 72 = .ok (.istore_n 1, 1) := by decide +kernel
theorem d_R_cutStores_73 : decode b_R_cutStores 73 = .ok (.goto 8, 3) := by decide +kernel
theorem d_R_cutStores_76 : decode b_R_cutStores 76 = .ok (.aload_n 3, 1) := by decide +kernel
theorem d_R_cutStores_77 : decode b_R_cutStores 77 = .ok (.iconst 0, 1) := by decide +kernel
theorem d_R_cutStores_78 : decode b_R_cutStores 78 = .ok (.putfield 114, 3) := by decide +kernel
theorem d_R_cutStores_81 : decode b_R_cutStores 81 = .ok (.iinc 2 1, 3) := by decide +kernel
theorem d_R_cutStores_84 : decode b_R_cutStores 84 = .ok (.goto (-80), 3) := by decide +kernel
theorem d_R_cutStores_87 : decode b_R_cutStores 87 = .ok (.iload_n 1, 1) := by decide +kernel
theorem d_R_cutStores_88 : decode b_R_cutStores 88 = .ok (.ireturn, 1) := by decide +kernel
abbrev b_T_write : ByteArray := prog_7_method_5_code
def y_T_write : MethodName := ⟨"RedactCheck$Store", "write", "(LRedactCheck$Codes;)V"⟩
theorem d_T_write_0 : decode b_T_write 0 = .ok (.aload_n 0, 1) := by decide +kernel
theorem d_T_write_1 : decode b_T_write 1 = .ok (.iconst 0, 1) := by decide +kernel
theorem d_T_write_2 : decode b_T_write 2 = .ok (.putfield 19, 3) := by decide +kernel
theorem d_T_write_5 : decode b_T_write 5 = .ok (.iconst 0, 1) := by decide +kernel
theorem d_T_write_6 : decode b_T_write 6 = .ok (.istore_n 2, 1) := by decide +kernel
theorem d_T_write_7 : decode b_T_write 7 = .ok (.iload_n 2, 1) := by decide +kernel
theorem d_T_write_8 : decode b_T_write 8 = .ok (.aload_n 1, 1) := by decide +kernel
theorem d_T_write_9 : decode b_T_write 9 = .ok (.getfield 22, 3) := by decide +kernel
theorem d_T_write_12 : decode b_T_write 12 = .ok (.if_icmp .ge 18, 3) := by decide +kernel
theorem d_T_write_15 : decode b_T_write 15 = .ok (.aload_n 0, 1) := by decide +kernel
theorem d_T_write_16 : decode b_T_write 16 = .ok (.aload_n 1, 1) := by decide +kernel
theorem d_T_write_17 : decode b_T_write 17 = .ok (.iload_n 2, 1) := by decide +kernel
theorem d_T_write_18 : decode b_T_write 18 = .ok (.invokevirtual 37, 3) := by decide +kernel
theorem d_T_write_21 : decode b_T_write 21 = .ok (.invokevirtual 40, 3) := by decide +kernel
theorem d_T_write_24 : decode b_T_write 24 = .ok (.iinc 2 1, 3) := by decide +kernel
theorem d_T_write_27 : decode b_T_write 27 = .ok (.goto (-20), 3) := by decide +kernel
theorem d_T_write_30 : decode b_T_write 30 = .ok (.return_, 1) := by decide +kernel
abbrev b_T_writeCode : ByteArray := prog_7_method_6_code
def y_T_writeCode : MethodName := ⟨"RedactCheck$Store", "writeCode", "(I)V"⟩
theorem d_T_writeCode_0 : decode b_T_writeCode 0 = .ok (.aload_n 0, 1) := by decide +kernel
theorem d_T_writeCode_1 : decode b_T_writeCode 1 = .ok (.getfield 15, 3) := by decide +kernel
theorem d_T_writeCode_4 : decode b_T_writeCode 4 = .ok (.tableswitch 65 0 2 #[28, 37, 51], 28) := by decide +kernel
theorem d_T_writeCode_32 : decode b_T_writeCode 32 = .ok (.aload_n 0, 1) := by decide +kernel
theorem d_T_writeCode_33 : decode b_T_writeCode 33 = .ok (.iload_n 1, 1) := by decide +kernel
theorem d_T_writeCode_34 : decode b_T_writeCode 34 = .ok (.i2b, 1) := by decide +kernel
theorem d_T_writeCode_35 : decode b_T_writeCode 35 = .ok (.invokevirtual 43, 3) := by decide +kernel
theorem d_T_writeCode_38 : decode b_T_writeCode 38 = .ok (.goto 55, 3) := by decide +kernel
theorem d_T_writeCode_41 : decode b_T_writeCode 41 = .ok (.aload_n 0, 1) := by decide +kernel
theorem d_T_writeCode_42 : decode b_T_writeCode 42 = .ok (.iconst 0, 1) := by decide +kernel
theorem d_T_writeCode_43 : decode b_T_writeCode 43 = .ok (.invokevirtual 43, 3) := by decide +kernel
theorem d_T_writeCode_46 : decode b_T_writeCode 46 = .ok (.aload_n 0, 1) := by decide +kernel
theorem d_T_writeCode_47 : decode b_T_writeCode 47 = .ok (.iload_n 1, 1) := by decide +kernel
theorem d_T_writeCode_48 : decode b_T_writeCode 48 = .ok (.i2b, 1) := by decide +kernel
theorem d_T_writeCode_49 : decode b_T_writeCode 49 = .ok (.invokevirtual 43, 3) := by decide +kernel
theorem d_T_writeCode_52 : decode b_T_writeCode 52 = .ok (.goto 41, 3) := by decide +kernel
theorem d_T_writeCode_55 : decode b_T_writeCode 55 = .ok (.aload_n 0, 1) := by decide +kernel
theorem d_T_writeCode_56 : decode b_T_writeCode 56 = .ok (.iload_n 1, 1) := by decide +kernel
theorem d_T_writeCode_57 : decode b_T_writeCode 57 = .ok (.i2b, 1) := by decide +kernel
theorem d_T_writeCode_58 : decode b_T_writeCode 58 = .ok (.invokevirtual 43, 3) := by decide +kernel
theorem d_T_writeCode_61 : decode b_T_writeCode 61 = .ok (.aload_n 0, 1) := by decide +kernel
theorem d_T_writeCode_62 : decode b_T_writeCode 62 = .ok (.iconst 0, 1) := by decide +kernel
theorem d_T_writeCode_63 : decode b_T_writeCode 63 = .ok (.invokevirtual 43, 3) := by decide +kernel
theorem d_T_writeCode_66 : decode b_T_writeCode 66 = .ok (.goto 27, 3) := by decide +kernel
theorem d_T_writeCode_69 : decode b_T_writeCode 69 = .ok (.aload_n 0, 1) := by decide +kernel
theorem d_T_writeCode_70 : decode b_T_writeCode 70 = .ok (.iload_n 1, 1) := by decide +kernel
theorem d_T_writeCode_71 : decode b_T_writeCode 71 = .ok (.iconst 4, 1) := by decide +kernel
theorem d_T_writeCode_72 : decode b_T_writeCode 72 = .ok (.ishr, 1) := by decide +kernel
theorem d_T_writeCode_73 : decode b_T_writeCode 73 = .ok (.bipush 15, 2) := by decide +kernel
theorem d_T_writeCode_75 : decode b_T_writeCode 75 = .ok (.iand, 1) := by decide +kernel
theorem d_T_writeCode_76 : decode b_T_writeCode 76 = .ok (.invokestatic 46, 3) := by decide +kernel
theorem d_T_writeCode_79 : decode b_T_writeCode 79 = .ok (.invokevirtual 43, 3) := by decide +kernel
theorem d_T_writeCode_82 : decode b_T_writeCode 82 = .ok (.aload_n 0, 1) := by decide +kernel
theorem d_T_writeCode_83 : decode b_T_writeCode 83 = .ok (.iload_n 1, 1) := by decide +kernel
theorem d_T_writeCode_84 : decode b_T_writeCode 84 = .ok (.bipush 15, 2) := by decide +kernel
theorem d_T_writeCode_86 : decode b_T_writeCode 86 = .ok (.iand, 1) := by decide +kernel
theorem d_T_writeCode_87 : decode b_T_writeCode 87 = .ok (.invokestatic 46, 3) := by decide +kernel
theorem d_T_writeCode_90 : decode b_T_writeCode 90 = .ok (.invokevirtual 43, 3) := by decide +kernel
theorem d_T_writeCode_93 : decode b_T_writeCode 93 = .ok (.return_, 1) := by decide +kernel
abbrev b_T_digitOf : ByteArray := prog_7_method_10_code
def y_T_digitOf : MethodName := ⟨"RedactCheck$Store", "digitOf", "(I)B"⟩
theorem d_T_digitOf_0 : decode b_T_digitOf 0 = .ok (.iload_n 0, 1) := by decide +kernel
theorem d_T_digitOf_1 : decode b_T_digitOf 1 = .ok (.bipush 10, 2) := by decide +kernel
theorem d_T_digitOf_3 : decode b_T_digitOf 3 = .ok (.if_icmp .ge 10, 3) := by decide +kernel
theorem d_T_digitOf_6 : decode b_T_digitOf 6 = .ok (.bipush 48, 2) := by decide +kernel
theorem d_T_digitOf_8 : decode b_T_digitOf 8 = .ok (.iload_n 0, 1) := by decide +kernel
theorem d_T_digitOf_9 : decode b_T_digitOf 9 = .ok (.iadd, 1) := by decide +kernel
theorem d_T_digitOf_10 : decode b_T_digitOf 10 = .ok (.goto 10, 3) := by decide +kernel
theorem d_T_digitOf_13 : decode b_T_digitOf 13 = .ok (.bipush 65, 2) := by decide +kernel
theorem d_T_digitOf_15 : decode b_T_digitOf 15 = .ok (.iload_n 0, 1) := by decide +kernel
theorem d_T_digitOf_16 : decode b_T_digitOf 16 = .ok (.iadd, 1) := by decide +kernel
theorem d_T_digitOf_17 : decode b_T_digitOf 17 = .ok (.bipush 10, 2) := by decide +kernel
theorem d_T_digitOf_19 : decode b_T_digitOf 19 = .ok (.isub, 1) := by decide +kernel
theorem d_T_digitOf_20 : decode b_T_digitOf 20 = .ok (.i2b, 1) := by decide +kernel
theorem d_T_digitOf_21 : decode b_T_digitOf 21 = .ok (.ireturn, 1) := by decide +kernel
abbrev b_R_left : ByteArray := prog_1_method_13_code
def y_R_left : MethodName := ⟨"RedactCheck", "left", "(II)I"⟩
theorem d_R_left_0 : decode b_R_left 0 = .ok (.iload_n 1, 1) := by decide +kernel
theorem d_R_left_1 : decode b_R_left 1 = .ok (.aload_n 0, 1) := by decide +kernel
theorem d_R_left_2 : decode b_R_left 2 = .ok (.getfield 34, 3) := by decide +kernel
theorem d_R_left_5 : decode b_R_left 5 = .ok (.getfield 156, 3) := by decide +kernel
theorem d_R_left_8 : decode b_R_left 8 = .ok (.invokestatic 70, 3) := by decide +kernel
theorem d_R_left_11 : decode b_R_left 11 = .ok (.iload_n 2, 1) := by decide +kernel
theorem d_R_left_12 : decode b_R_left 12 = .ok (.iconst 5, 1) := by decide +kernel
theorem d_R_left_13 : decode b_R_left 13 = .ok (.invokestatic 70, 3) := by decide +kernel
theorem d_R_left_16 : decode b_R_left 16 = .ok (.aload_n 0, 1) := by decide +kernel
theorem d_R_left_17 : decode b_R_left 17 = .ok (.getfield 34, 3) := by decide +kernel
theorem d_R_left_20 : decode b_R_left 20 = .ok (.iload_n 1, 1) := by decide +kernel
theorem d_R_left_21 : decode b_R_left 21 = .ok (.iload_n 2, 1) := by decide +kernel
theorem d_R_left_22 : decode b_R_left 22 = .ok (.invokevirtual 157, 3) := by decide +kernel
theorem d_R_left_25 : decode b_R_left 25 = .ok (.ireturn, 1) := by decide +kernel
abbrev b_F_part : ByteArray := prog_4_method_4_code
def y_F_part : MethodName := ⟨"RedactCheck$Findings", "part", "(II)I"⟩
theorem d_F_part_0 : decode b_F_part 0 = .ok (.iload_n 1, 1) := by decide +kernel
theorem d_F_part_1 : decode b_F_part 1 = .ok (.ifCond .lt 18, 3) := by decide +kernel
theorem d_F_part_4 : decode b_F_part 4 = .ok (.iload_n 1, 1) := by decide +kernel
theorem d_F_part_5 : decode b_F_part 5 = .ok (.bipush 100, 2) := by decide +kernel
theorem d_F_part_7 : decode b_F_part 7 = .ok (.if_icmp .ge 12, 3) := by decide +kernel
theorem d_F_part_10 : decode b_F_part 10 = .ok (.iload_n 2, 1) := by decide +kernel
theorem d_F_part_11 : decode b_F_part 11 = .ok (.ifCond .lt 8, 3) := by decide +kernel
theorem d_F_part_14 : decode b_F_part 14 = .ok (.iload_n 2, 1) := by decide +kernel
theorem d_F_part_15 : decode b_F_part 15 = .ok (.iconst 5, 1) := by decide +kernel
theorem d_F_part_16 : decode b_F_part 16 = .ok (.if_icmp .lt 5, 3) := by decide +kernel
theorem d_F_part_19 : decode b_F_part 19 = .ok (.iconst (-1), 1) := by decide +kernel
theorem d_F_part_20 : decode b_F_part 20 = .ok (.ireturn, 1) := by decide +kernel
theorem d_F_part_21 : decode b_F_part 21 = .ok (.aload_n 0, 1) := by decide +kernel
theorem d_F_part_22 : decode b_F_part 22 = .ok (.getfield 9, 3) := by decide +kernel
theorem d_F_part_25 : decode b_F_part 25 = .ok (.iload_n 1, 1) := by decide +kernel
theorem d_F_part_26 : decode b_F_part 26 = .ok (.iconst 5, 1) := by decide +kernel
theorem d_F_part_27 : decode b_F_part 27 = .ok (.imul, 1) := by decide +kernel
theorem d_F_part_28 : decode b_F_part 28 = .ok (.iload_n 2, 1) := by decide +kernel
theorem d_F_part_29 : decode b_F_part 29 = .ok (.iadd, 1) := by decide +kernel
theorem d_F_part_30 : decode b_F_part 30 = .ok (.iaload, 1) := by decide +kernel
theorem d_F_part_31 : decode b_F_part 31 = .ok (.ireturn, 1) := by decide +kernel
abbrev b_R_at : ByteArray := prog_1_method_14_code
def y_R_at : MethodName := ⟨"RedactCheck", "at", "(IIII)I"⟩
theorem d_R_at_0 : decode b_R_at 0 = .ok (.iload_n 1, 1) := by decide +kernel
theorem d_R_at_1 : decode b_R_at 1 = .ok (.iconst 2, 1) := by decide +kernel
theorem d_R_at_2 : decode b_R_at 2 = .ok (.invokestatic 70, 3) := by decide +kernel
theorem d_R_at_5 : decode b_R_at 5 = .ok (.iload_n 1, 1) := by decide +kernel
theorem d_R_at_6 : decode b_R_at 6 = .ok (.ifCond .ne 10, 3) := by decide +kernel
theorem d_R_at_9 : decode b_R_at 9 = .ok (.aload_n 0, 1) := by decide +kernel
theorem d_R_at_10 : decode b_R_at 10 = .ok (.getfield 10, 3) := by decide +kernel
theorem d_R_at_13 : decode b_R_at 13 = .ok (.goto 7, 3) := by decide +kernel
theorem d_R_at_16 : decode b_R_at 16 = .ok (.aload_n 0, 1) := by decide +kernel
theorem d_R_at_17 : decode b_R_at 17 = .ok (.getfield 16, 3) := by decide +kernel
theorem d_R_at_20 : decode b_R_at 20 = .ok (.iload_n 2, 1) := by decide +kernel
theorem d_R_at_21 : decode b_R_at 21 = .ok (.invokestatic 54, 3) := by decide +kernel
theorem d_R_at_24 : decode b_R_at 24 = .ok (.astore 5, 2) := by decide +kernel
theorem d_R_at_26 : decode b_R_at 26 = .ok (.iload_n 3, 1) := by decide +kernel
theorem d_R_at_27 : decode b_R_at 27 = .ok (.aload 5, 2) := by decide +kernel
theorem d_R_at_29 : decode b_R_at 29 = .ok (.getfield 161, 3) := by decide +kernel
theorem d_R_at_32 : decode b_R_at 32 = .ok (.invokestatic 70, 3) := by decide +kernel
theorem d_R_at_35 : decode b_R_at 35 = .ok (.iload 4, 2) := by decide +kernel
theorem d_R_at_37 : decode b_R_at 37 = .ok (.iconst 4, 1) := by decide +kernel
theorem d_R_at_38 : decode b_R_at 38 = .ok (.invokestatic 70, 3) := by decide +kernel
theorem d_R_at_41 : decode b_R_at 41 = .ok (.aload 5, 2) := by decide +kernel
theorem d_R_at_43 : decode b_R_at 43 = .ok (.iload_n 3, 1) := by decide +kernel
theorem d_R_at_44 : decode b_R_at 44 = .ok (.iload 4, 2) := by decide +kernel
theorem d_R_at_46 : decode b_R_at 46 = .ok (.invokevirtual 162, 3) := by decide +kernel
theorem d_R_at_49 : decode b_R_at 49 = .ok (.ireturn, 1) := by decide +kernel
abbrev b_R_byteOf : ByteArray := prog_1_method_15_code
def y_R_byteOf : MethodName := ⟨"RedactCheck", "byteOf", "(II)B"⟩
theorem d_R_byteOf_0 : decode b_R_byteOf 0 = .ok (.aload_n 0, 1) := by decide +kernel
theorem d_R_byteOf_1 : decode b_R_byteOf 1 = .ok (.iload_n 1, 1) := by decide +kernel
theorem d_R_byteOf_2 : decode b_R_byteOf 2 = .ok (.invokevirtual 110, 3) := by decide +kernel
theorem d_R_byteOf_5 : decode b_R_byteOf 5 = .ok (.astore_n 3, 1) := by decide +kernel
theorem d_R_byteOf_6 : decode b_R_byteOf 6 = .ok (.iload_n 2, 1) := by decide +kernel
theorem d_R_byteOf_7 : decode b_R_byteOf 7 = .ok (.aload_n 3, 1) := by decide +kernel
theorem d_R_byteOf_8 : decode b_R_byteOf 8 = .ok (.getfield 114, 3) := by decide +kernel
theorem d_R_byteOf_11 : decode b_R_byteOf 11 = .ok (.invokestatic 70, 3) := by decide +kernel
theorem d_R_byteOf_14 : decode b_R_byteOf 14 = .ok (.aload_n 3, 1) := by decide +kernel
theorem d_R_byteOf_15 : decode b_R_byteOf 15 = .ok (.iload_n 2, 1) := by decide +kernel
theorem d_R_byteOf_16 : decode b_R_byteOf 16 = .ok (.invokevirtual 163, 3) := by decide +kernel
theorem d_R_byteOf_19 : decode b_R_byteOf 19 = .ok (.ireturn, 1) := by decide +kernel
abbrev b_R_formOf : ByteArray := prog_1_method_16_code
def y_R_formOf : MethodName := ⟨"RedactCheck", "formOf", "(I)I"⟩
theorem d_R_formOf_0 : decode b_R_formOf 0 = .ok (.iload_n 1, 1) := by decide +kernel
theorem d_R_formOf_1 : decode b_R_formOf 1 = .ok (.ifCond .lt 14, 3) := by decide +kernel
theorem d_R_formOf_4 : decode b_R_formOf 4 = .ok (.iload_n 1, 1) := by decide +kernel
theorem d_R_formOf_5 : decode b_R_formOf 5 = .ok (.aload_n 0, 1) := by decide +kernel
theorem d_R_formOf_6 : decode b_R_formOf 6 = .ok (.getfield 19, 3) := by decide +kernel
theorem d_R_formOf_9 : decode b_R_formOf 9 = .ok (.invokevirtual 62, 3) := by decide +kernel
theorem d_R_formOf_12 : decode b_R_formOf 12 = .ok (.if_icmp .lt 13, 3) := by decide +kernel
theorem d_R_formOf_15 : decode b_R_formOf 15 = .ok (.new 167, 3) := by decide +kernel
theorem d_R_formOf_18 : decode b_R_formOf 18 = .ok (.dup, 1) := by decide +kernel
theorem d_R_formOf_19 : decode b_R_formOf 19 = .ok (.ldc 169, 2) := by decide +kernel
theorem d_R_formOf_21 : decode b_R_formOf 21 = .ok (.invokespecial 171, 3) := by decide +kernel
theorem d_R_formOf_24 : decode b_R_formOf 24 = .ok (.athrow, 1) := by decide +kernel
theorem d_R_formOf_25 : decode b_R_formOf 25 = .ok (.aload_n 0, 1) := by decide +kernel
theorem d_R_formOf_26 : decode b_R_formOf 26 = .ok (.getfield 19, 3) := by decide +kernel
theorem d_R_formOf_29 : decode b_R_formOf 29 = .ok (.iload_n 1, 1) := by decide +kernel
theorem d_R_formOf_30 : decode b_R_formOf 30 = .ok (.invokevirtual 138, 3) := by decide +kernel
theorem d_R_formOf_33 : decode b_R_formOf 33 = .ok (.checkcast 77, 3) := by decide +kernel
theorem d_R_formOf_36 : decode b_R_formOf 36 = .ok (.getfield 149, 3) := by decide +kernel
theorem d_R_formOf_39 : decode b_R_formOf 39 = .ok (.getfield 172, 3) := by decide +kernel
theorem d_R_formOf_42 : decode b_R_formOf 42 = .ok (.ireturn, 1) := by decide +kernel
abbrev b_R_many : ByteArray := prog_1_method_17_code
def y_R_many : MethodName := ⟨"RedactCheck", "many", "(II)I"⟩
theorem d_R_many_0 : decode b_R_many 0 = .ok (.iload_n 1, 1) := by decide +kernel
theorem d_R_many_1 : decode b_R_many 1 = .ok (.tableswitch 73 0 3 #[31, 43, 55, 64], 31) := by decide +kernel
theorem d_R_many_32 : decode b_R_many 32 = .ok (.aload_n 0, 1) := by decide +kernel
theorem d_R_many_33 : decode b_R_many 33 = .ok (.getfield 10, 3) := by decide +kernel
theorem d_R_many_36 : decode b_R_many 36 = .ok (.iload_n 2, 1) := by decide +kernel
theorem d_R_many_37 : decode b_R_many 37 = .ok (.invokestatic 54, 3) := by decide +kernel
theorem d_R_many_40 : decode b_R_many 40 = .ok (.getfield 161, 3) := by decide +kernel
theorem d_R_many_43 : decode b_R_many 43 = .ok (.ireturn, 1) := by decide +kernel
theorem d_R_many_44 : decode b_R_many 44 = .ok (.aload_n 0, 1) := by decide +kernel
theorem d_R_many_45 : decode b_R_many 45 = .ok (.getfield 16, 3) := by decide +kernel
theorem d_R_many_48 : decode b_R_many 48 = .ok (.iload_n 2, 1) := by decide +kernel
theorem d_R_many_49 : decode b_R_many 49 = .ok (.invokestatic 54, 3) := by decide +kernel
theorem d_R_many_52 : decode b_R_many 52 = .ok (.getfield 161, 3) := by decide +kernel
theorem d_R_many_55 : decode b_R_many 55 = .ok (.ireturn, 1) := by decide +kernel
theorem d_R_many_56 : decode b_R_many 56 = .ok (.aload_n 0, 1) := by decide +kernel
theorem d_R_many_57 : decode b_R_many 57 = .ok (.iload_n 2, 1) := by decide +kernel
theorem d_R_many_58 : decode b_R_many 58 = .ok (.invokevirtual 110, 3) := by decide +kernel
theorem d_R_many_61 : decode b_R_many 61 = .ok (.getfield 114, 3) := by decide +kernel
theorem d_R_many_64 : decode b_R_many 64 = .ok (.ireturn, 1) := by decide +kernel
theorem d_R_many_65 : decode b_R_many 65 = .ok (.aload_n 0, 1) := by decide +kernel
theorem d_R_many_66 : decode b_R_many 66 = .ok (.iload_n 2, 1) := by decide +kernel
theorem d_R_many_67 : decode b_R_many 67 = .ok (.invokevirtual 85, 3) := by decide +kernel
theorem d_R_many_70 : decode b_R_many 70 = .ok (.getfield 96, 3) := by decide +kernel
theorem d_R_many_73 : decode b_R_many 73 = .ok (.ireturn, 1) := by decide +kernel
theorem d_R_many_74 : decode b_R_many 74 = .ok (.new 167, 3) := by decide +kernel
theorem d_R_many_77 : decode b_R_many 77 = .ok (.dup, 1) := by decide +kernel
theorem d_R_many_78 : decode b_R_many 78 = .ok (.ldc 175, 2) := by decide +kernel
theorem d_R_many_80 : decode b_R_many 80 = .ok (.invokespecial 171, 3) := by decide +kernel
theorem d_R_many_83 : decode b_R_many 83 = .ok (.athrow, 1) := by decide +kernel
end
section
abbrev b_M_init : ByteArray := prog_11_method_1_code
def y_M_init : MethodName := ⟨"RedactCheckModel", "<init>", "()V"⟩
theorem d_M_init_0 : decode b_M_init 0 = .ok (.aload_n 0, 1) := by decide +kernel
theorem d_M_init_1 : decode b_M_init 1 = .ok (.invokespecial 1, 3) := by decide +kernel
theorem d_M_init_4 : decode b_M_init 4 = .ok (.aload_n 0, 1) := by decide +kernel
theorem d_M_init_5 : decode b_M_init 5 = .ok (.bipush 24, 2) := by decide +kernel
theorem d_M_init_7 : decode b_M_init 7 = .ok (.newarray .int, 2) := by decide +kernel
theorem d_M_init_9 : decode b_M_init 9 = .ok (.putfield 7, 3) := by decide +kernel
theorem d_M_init_12 : decode b_M_init 12 = .ok (.aload_n 0, 1) := by decide +kernel
theorem d_M_init_13 : decode b_M_init 13 = .ok (.sipush 960, 3) := by decide +kernel
theorem d_M_init_16 : decode b_M_init 16 = .ok (.newarray .int, 2) := by decide +kernel
theorem d_M_init_18 : decode b_M_init 18 = .ok (.putfield 13, 3) := by decide +kernel
theorem d_M_init_21 : decode b_M_init 21 = .ok (.aload_n 0, 1) := by decide +kernel
theorem d_M_init_22 : decode b_M_init 22 = .ok (.sipush 960, 3) := by decide +kernel
theorem d_M_init_25 : decode b_M_init 25 = .ok (.newarray .int, 2) := by decide +kernel
theorem d_M_init_27 : decode b_M_init 27 = .ok (.putfield 16, 3) := by decide +kernel
theorem d_M_init_30 : decode b_M_init 30 = .ok (.aload_n 0, 1) := by decide +kernel
theorem d_M_init_31 : decode b_M_init 31 = .ok (.sipush 960, 3) := by decide +kernel
theorem d_M_init_34 : decode b_M_init 34 = .ok (.newarray .int, 2) := by decide +kernel
theorem d_M_init_36 : decode b_M_init 36 = .ok (.putfield 19, 3) := by decide +kernel
theorem d_M_init_39 : decode b_M_init 39 = .ok (.aload_n 0, 1) := by decide +kernel
theorem d_M_init_40 : decode b_M_init 40 = .ok (.sipush 960, 3) := by decide +kernel
theorem d_M_init_43 : decode b_M_init 43 = .ok (.newarray .int, 2) := by decide +kernel
theorem d_M_init_45 : decode b_M_init 45 = .ok (.putfield 22, 3) := by decide +kernel
theorem d_M_init_48 : decode b_M_init 48 = .ok (.aload_n 0, 1) := by decide +kernel
theorem d_M_init_49 : decode b_M_init 49 = .ok (.bipush 12, 2) := by decide +kernel
theorem d_M_init_51 : decode b_M_init 51 = .ok (.newarray .int, 2) := by decide +kernel
theorem d_M_init_53 : decode b_M_init 53 = .ok (.putfield 25, 3) := by decide +kernel
theorem d_M_init_56 : decode b_M_init 56 = .ok (.aload_n 0, 1) := by decide +kernel
theorem d_M_init_57 : decode b_M_init 57 = .ok (.bipush 12, 2) := by decide +kernel
theorem d_M_init_59 : decode b_M_init 59 = .ok (.newarray .int, 2) := by decide +kernel
theorem d_M_init_61 : decode b_M_init 61 = .ok (.putfield 28, 3) := by decide +kernel
theorem d_M_init_64 : decode b_M_init 64 = .ok (.aload_n 0, 1) := by decide +kernel
theorem d_M_init_65 : decode b_M_init 65 = .ok (.bipush 12, 2) := by decide +kernel
theorem d_M_init_67 : decode b_M_init 67 = .ok (.newarray .int, 2) := by decide +kernel
theorem d_M_init_69 : decode b_M_init 69 = .ok (.putfield 31, 3) := by decide +kernel
theorem d_M_init_72 : decode b_M_init 72 = .ok (.aload_n 0, 1) := by decide +kernel
theorem d_M_init_73 : decode b_M_init 73 = .ok (.bipush 12, 2) := by decide +kernel
theorem d_M_init_75 : decode b_M_init 75 = .ok (.newarray .int, 2) := by decide +kernel
theorem d_M_init_77 : decode b_M_init 77 = .ok (.putfield 34, 3) := by decide +kernel
theorem d_M_init_80 : decode b_M_init 80 = .ok (.aload_n 0, 1) := by decide +kernel
theorem d_M_init_81 : decode b_M_init 81 = .ok (.iconst 4, 1) := by decide +kernel
theorem d_M_init_82 : decode b_M_init 82 = .ok (.newarray .int, 2) := by decide +kernel
theorem d_M_init_84 : decode b_M_init 84 = .ok (.putfield 37, 3) := by decide +kernel
theorem d_M_init_87 : decode b_M_init 87 = .ok (.aload_n 0, 1) := by decide +kernel
theorem d_M_init_88 : decode b_M_init 88 = .ok (.bipush 32, 2) := by decide +kernel
theorem d_M_init_90 : decode b_M_init 90 = .ok (.newarray .int, 2) := by decide +kernel
theorem d_M_init_92 : decode b_M_init 92 = .ok (.putfield 40, 3) := by decide +kernel
theorem d_M_init_95 : decode b_M_init 95 = .ok (.aload_n 0, 1) := by decide +kernel
theorem d_M_init_96 : decode b_M_init 96 = .ok (.bipush 8, 2) := by decide +kernel
theorem d_M_init_98 : decode b_M_init 98 = .ok (.newarray .int, 2) := by decide +kernel
theorem d_M_init_100 : decode b_M_init 100 = .ok (.putfield 43, 3) := by decide +kernel
theorem d_M_init_103 : decode b_M_init 103 = .ok (.aload_n 0, 1) := by decide +kernel
theorem d_M_init_104 : decode b_M_init 104 = .ok (.bipush 8, 2) := by decide +kernel
theorem d_M_init_106 : decode b_M_init 106 = .ok (.newarray .int, 2) := by decide +kernel
theorem d_M_init_108 : decode b_M_init 108 = .ok (.putfield 46, 3) := by decide +kernel
theorem d_M_init_111 : decode b_M_init 111 = .ok (.aload_n 0, 1) := by decide +kernel
theorem d_M_init_112 : decode b_M_init 112 = .ok (.bipush 8, 2) := by decide +kernel
theorem d_M_init_114 : decode b_M_init 114 = .ok (.newarray .int, 2) := by decide +kernel
theorem d_M_init_116 : decode b_M_init 116 = .ok (.putfield 49, 3) := by decide +kernel
theorem d_M_init_119 : decode b_M_init 119 = .ok (.aload_n 0, 1) := by decide +kernel
theorem d_M_init_120 : decode b_M_init 120 = .ok (.bipush 8, 2) := by decide +kernel
theorem d_M_init_122 : decode b_M_init 122 = .ok (.newarray .int, 2) := by decide +kernel
theorem d_M_init_124 : decode b_M_init 124 = .ok (.putfield 52, 3) := by decide +kernel
theorem d_M_init_127 : decode b_M_init 127 = .ok (.aload_n 0, 1) := by decide +kernel
theorem d_M_init_128 : decode b_M_init 128 = .ok (.bipush 8, 2) := by decide +kernel
theorem d_M_init_130 : decode b_M_init 130 = .ok (.newarray .int, 2) := by decide +kernel
theorem d_M_init_132 : decode b_M_init 132 = .ok (.putfield 55, 3) := by decide +kernel
theorem d_M_init_135 : decode b_M_init 135 = .ok (.aload_n 0, 1) := by decide +kernel
theorem d_M_init_136 : decode b_M_init 136 = .ok (.bipush 8, 2) := by decide +kernel
theorem d_M_init_138 : decode b_M_init 138 = .ok (.newarray .int, 2) := by decide +kernel
theorem d_M_init_140 : decode b_M_init 140 = .ok (.putfield 58, 3) := by decide +kernel
theorem d_M_init_143 : decode b_M_init 143 = .ok (.aload_n 0, 1) := by decide +kernel
theorem d_M_init_144 : decode b_M_init 144 = .ok (.bipush 8, 2) := by decide +kernel
theorem d_M_init_146 : decode b_M_init 146 = .ok (.newarray .int, 2) := by decide +kernel
theorem d_M_init_148 : decode b_M_init 148 = .ok (.putfield 61, 3) := by decide +kernel
theorem d_M_init_151 : decode b_M_init 151 = .ok (.aload_n 0, 1) := by decide +kernel
theorem d_M_init_152 : decode b_M_init 152 = .ok (.sipush 480, 3) := by decide +kernel
theorem d_M_init_155 : decode b_M_init 155 = .ok (.newarray .int, 2) := by decide +kernel
theorem d_M_init_157 : decode b_M_init 157 = .ok (.putfield 64, 3) := by decide +kernel
theorem d_M_init_160 : decode b_M_init 160 = .ok (.aload_n 0, 1) := by decide +kernel
theorem d_M_init_161 : decode b_M_init 161 = .ok (.sipush 500, 3) := by decide +kernel
theorem d_M_init_164 : decode b_M_init 164 = .ok (.newarray .int, 2) := by decide +kernel
theorem d_M_init_166 : decode b_M_init 166 = .ok (.putfield 67, 3) := by decide +kernel
theorem d_M_init_169 : decode b_M_init 169 = .ok (.aload_n 0, 1) := by decide +kernel
theorem d_M_init_170 : decode b_M_init 170 = .ok (.sipush 640, 3) := by decide +kernel
theorem d_M_init_173 : decode b_M_init 173 = .ok (.newarray .boolean, 2) := by decide +kernel
theorem d_M_init_175 : decode b_M_init 175 = .ok (.putfield 70, 3) := by decide +kernel
theorem d_M_init_178 : decode b_M_init 178 = .ok (.aload_n 0, 1) := by decide +kernel
theorem d_M_init_179 : decode b_M_init 179 = .ok (.bipush 12, 2) := by decide +kernel
theorem d_M_init_181 : decode b_M_init 181 = .ok (.newarray .int, 2) := by decide +kernel
theorem d_M_init_183 : decode b_M_init 183 = .ok (.putfield 74, 3) := by decide +kernel
theorem d_M_init_186 : decode b_M_init 186 = .ok (.aload_n 0, 1) := by decide +kernel
theorem d_M_init_187 : decode b_M_init 187 = .ok (.bipush 60, 2) := by decide +kernel
theorem d_M_init_189 : decode b_M_init 189 = .ok (.newarray .int, 2) := by decide +kernel
theorem d_M_init_191 : decode b_M_init 191 = .ok (.putfield 77, 3) := by decide +kernel
theorem d_M_init_194 : decode b_M_init 194 = .ok (.aload_n 0, 1) := by decide +kernel
theorem d_M_init_195 : decode b_M_init 195 = .ok (.bipush 60, 2) := by decide +kernel
theorem d_M_init_197 : decode b_M_init 197 = .ok (.newarray .boolean, 2) := by decide +kernel
theorem d_M_init_199 : decode b_M_init 199 = .ok (.putfield 80, 3) := by decide +kernel
theorem d_M_init_202 : decode b_M_init 202 = .ok (.aload_n 0, 1) := by decide +kernel
theorem d_M_init_203 : decode b_M_init 203 = .ok (.iconst 0, 1) := by decide +kernel
theorem d_M_init_204 : decode b_M_init 204 = .ok (.putfield 83, 3) := by decide +kernel
theorem d_M_init_207 : decode b_M_init 207 = .ok (.return_, 1) := by decide +kernel
abbrev b_M_thrown : ByteArray := prog_11_method_2_code
def y_M_thrown : MethodName := ⟨"RedactCheckModel", "thrown", "()I"⟩
theorem d_M_thrown_0 : decode b_M_thrown 0 = .ok (.aload_n 0, 1) := by decide +kernel
theorem d_M_thrown_1 : decode b_M_thrown 1 = .ok (.getfield 87, 3) := by decide +kernel
theorem d_M_thrown_4 : decode b_M_thrown 4 = .ok (.ireturn, 1) := by decide +kernel
abbrev b_M_sign : ByteArray := prog_11_method_6_code
def y_M_sign : MethodName := ⟨"RedactCheckModel", "sign", "(IIIII)I"⟩
theorem d_M_sign_0 : decode b_M_sign 0 = .ok (.aload_n 0, 1) := by decide +kernel
theorem d_M_sign_1 : decode b_M_sign 1 = .ok (.iload_n 1, 1) := by decide +kernel
theorem d_M_sign_2 : decode b_M_sign 2 = .ok (.iconst 0, 1) := by decide +kernel
theorem d_M_sign_3 : decode b_M_sign 3 = .ok (.iconst 3, 1) := by decide +kernel
theorem d_M_sign_4 : decode b_M_sign 4 = .ok (.invokestatic 90, 3) := by decide +kernel
theorem d_M_sign_7 : decode b_M_sign 7 = .ok (.ifCond .eq 7, 3) := by decide +kernel
theorem d_M_sign_10 : decode b_M_sign 10 = .ok (.iconst 0, 1) := by decide +kernel
theorem d_M_sign_11 : decode b_M_sign 11 = .ok (.goto 4, 3) := by decide +kernel
theorem d_M_sign_14 : decode b_M_sign 14 = .ok (.iconst 1, 1) := by decide +kernel
theorem d_M_sign_15 : decode b_M_sign 15 = .ok (.putfield 87, 3) := by decide +kernel
theorem d_M_sign_18 : decode b_M_sign 18 = .ok (.aload_n 0, 1) := by decide +kernel
theorem d_M_sign_19 : decode b_M_sign 19 = .ok (.getfield 87, 3) := by decide +kernel
theorem d_M_sign_22 : decode b_M_sign 22 = .ok (.ifCond .le 7, 3) := by decide +kernel
theorem d_M_sign_25 : decode b_M_sign 25 = .ok (.iconst 0, 1) := by decide +kernel
theorem d_M_sign_26 : decode b_M_sign 26 = .ok (.goto 14, 3) := by decide +kernel
theorem d_M_sign_29 : decode b_M_sign 29 = .ok (.aload_n 0, 1) := by decide +kernel
theorem d_M_sign_30 : decode b_M_sign 30 = .ok (.iload_n 1, 1) := by decide +kernel
theorem d_M_sign_31 : decode b_M_sign 31 = .ok (.iload_n 2, 1) := by decide +kernel
theorem d_M_sign_32 : decode b_M_sign 32 = .ok (.iload_n 3, 1) := by decide +kernel
theorem d_M_sign_33 : decode b_M_sign 33 = .ok (.iload 4, 2) := by decide +kernel
theorem d_M_sign_35 : decode b_M_sign 35 = .ok (.iload 5, 2) := by decide +kernel
theorem d_M_sign_37 : decode b_M_sign 37 = .ok (.invokevirtual 98, 3) := by decide +kernel
theorem d_M_sign_40 : decode b_M_sign 40 = .ok (.ireturn, 1) := by decide +kernel
abbrev b_M_in : ByteArray := prog_11_method_3_code
def y_M_in : MethodName := ⟨"RedactCheckModel", "in", "(III)Z"⟩
theorem d_M_in_0 : decode b_M_in 0 = .ok (.iload_n 0, 1) := by decide +kernel
theorem d_M_in_1 : decode b_M_in 1 = .ok (.iload_n 1, 1) := by decide +kernel
theorem d_M_in_2 : decode b_M_in 2 = .ok (.if_icmp .lt 12, 3) := by decide +kernel
theorem d_M_in_5 : decode b_M_in 5 = .ok (.iload_n 0, 1) := by decide +kernel
theorem d_M_in_6 : decode b_M_in 6 = .ok (.iload_n 2, 1) := by decide +kernel
theorem d_M_in_7 : decode b_M_in 7 = .ok (.if_icmp .gt 7, 3) := by decide +kernel
theorem d_M_in_10 : decode b_M_in 10 = .ok (.iconst 1, 1) := by decide +kernel
theorem d_M_in_11 : decode b_M_in 11 = .ok (.goto 4, 3) := by decide +kernel
theorem d_M_in_14 : decode b_M_in 14 = .ok (.iconst 0, 1) := by decide +kernel
theorem d_M_in_15 : decode b_M_in 15 = .ok (.ireturn, 1) := by decide +kernel
abbrev b_M_addSign : ByteArray := prog_11_method_4_code
def y_M_addSign : MethodName := ⟨"RedactCheckModel", "addSign", "(IIIII)I"⟩
theorem d_M_addSign_0 : decode b_M_addSign 0 = .ok (.iload_n 2, 1) := by decide +kernel
theorem d_M_addSign_1 : decode b_M_addSign 1 = .ok (.bipush 33, 2) := by decide +kernel
theorem d_M_addSign_3 : decode b_M_addSign 3 = .ok (.bipush 126, 2) := by decide +kernel
theorem d_M_addSign_5 : decode b_M_addSign 5 = .ok (.invokestatic 90, 3) := by decide +kernel
theorem d_M_addSign_8 : decode b_M_addSign 8 = .ok (.ifCond .eq 37, 3) := by decide +kernel
theorem d_M_addSign_11 : decode b_M_addSign 11 = .ok (.iload_n 3, 1) := by decide +kernel
theorem d_M_addSign_12 : decode b_M_addSign 12 = .ok (.iconst 0, 1) := by decide +kernel
theorem d_M_addSign_13 : decode b_M_addSign 13 = .ok (.sipush 999, 3) := by decide +kernel
theorem d_M_addSign_16 : decode b_M_addSign 16 = .ok (.invokestatic 90, 3) := by decide +kernel
theorem d_M_addSign_19 : decode b_M_addSign 19 = .ok (.ifCond .eq 26, 3) := by decide +kernel
theorem d_M_addSign_22 : decode b_M_addSign 22 = .ok (.iload 4, 2) := by decide +kernel
theorem d_M_addSign_24 : decode b_M_addSign 24 = .ok (.iconst 0, 1) := by decide +kernel
theorem d_M_addSign_25 : decode b_M_addSign 25 = .ok (.sipush 999, 3) := by decide +kernel
theorem d_M_addSign_28 : decode b_M_addSign 28 = .ok (.invokestatic 90, 3) := by decide +kernel
theorem d_M_addSign_31 : decode b_M_addSign 31 = .ok (.ifCond .eq 14, 3) := by decide +kernel
theorem d_M_addSign_34 : decode b_M_addSign 34 = .ok (.iload 5, 2) := by decide +kernel
theorem d_M_addSign_36 : decode b_M_addSign 36 = .ok (.iconst 1, 1) := by decide +kernel
theorem d_M_addSign_37 : decode b_M_addSign 37 = .ok (.bipush 50, 2) := by decide +kernel
theorem d_M_addSign_39 : decode b_M_addSign 39 = .ok (.invokestatic 90, 3) := by decide +kernel
theorem d_M_addSign_42 : decode b_M_addSign 42 = .ok (.ifCond .ne 11, 3) := by decide +kernel
theorem d_M_addSign_45 : decode b_M_addSign 45 = .ok (.aload_n 0, 1) := by decide +kernel
theorem d_M_addSign_46 : decode b_M_addSign 46 = .ok (.iconst 2, 1) := by decide +kernel
theorem d_M_addSign_47 : decode b_M_addSign 47 = .ok (.putfield 87, 3) := by decide +kernel
theorem d_M_addSign_50 : decode b_M_addSign 50 = .ok (.goto 19, 3) := by decide +kernel
theorem d_M_addSign_53 : decode b_M_addSign 53 = .ok (.aload_n 0, 1) := by decide +kernel
theorem d_M_addSign_54 : decode b_M_addSign 54 = .ok (.getfield 7, 3) := by decide +kernel
theorem d_M_addSign_57 : decode b_M_addSign 57 = .ok (.iload_n 1, 1) := by decide +kernel
theorem d_M_addSign_58 : decode b_M_addSign 58 = .ok (.iaload, 1) := by decide +kernel
theorem d_M_addSign_59 : decode b_M_addSign 59 = .ok (.bipush 40, 2) := by decide +kernel
theorem d_M_addSign_61 : decode b_M_addSign 61 = .ok (.if_icmp .ne 8, 3) := by decide +kernel
theorem d_M_addSign_64 : decode b_M_addSign 64 = .ok (.aload_n 0, 1) := by decide +kernel
theorem d_M_addSign_65 : decode b_M_addSign 65 = .ok (.iconst 3, 1) := by decide +kernel
theorem d_M_addSign_66 : decode b_M_addSign 66 = .ok (.putfield 87, 3) := by decide +kernel
theorem d_M_addSign_69 : decode b_M_addSign 69 = .ok (.aload_n 0, 1) := by decide +kernel
theorem d_M_addSign_70 : decode b_M_addSign 70 = .ok (.getfield 87, 3) := by decide +kernel
theorem d_M_addSign_73 : decode b_M_addSign 73 = .ok (.ifCond .le 5, 3) := by decide +kernel
theorem d_M_addSign_76 : decode b_M_addSign 76 = .ok (.iconst 0, 1) := by decide +kernel
theorem d_M_addSign_77 : decode b_M_addSign 77 = .ok (.ireturn, 1) := by decide +kernel
theorem d_M_addSign_78 : decode b_M_addSign 78 = .ok (.aload_n 0, 1) := by decide +kernel
theorem d_M_addSign_79 : decode b_M_addSign 79 = .ok (.iload_n 1, 1) := by decide +kernel
theorem d_M_addSign_80 : decode b_M_addSign 80 = .ok (.iload_n 2, 1) := by decide +kernel
theorem d_M_addSign_81 : decode b_M_addSign 81 = .ok (.iload_n 3, 1) := by decide +kernel
theorem d_M_addSign_82 : decode b_M_addSign 82 = .ok (.iload 4, 2) := by decide +kernel
theorem d_M_addSign_84 : decode b_M_addSign 84 = .ok (.iload 5, 2) := by decide +kernel
theorem d_M_addSign_86 : decode b_M_addSign 86 = .ok (.invokevirtual 94, 3) := by decide +kernel
theorem d_M_addSign_89 : decode b_M_addSign 89 = .ok (.aload_n 0, 1) := by decide +kernel
theorem d_M_addSign_90 : decode b_M_addSign 90 = .ok (.getfield 7, 3) := by decide +kernel
theorem d_M_addSign_93 : decode b_M_addSign 93 = .ok (.iload_n 1, 1) := by decide +kernel
theorem d_M_addSign_94 : decode b_M_addSign 94 = .ok (.iaload, 1) := by decide +kernel
theorem d_M_addSign_95 : decode b_M_addSign 95 = .ok (.ireturn, 1) := by decide +kernel
abbrev b_M_lay : ByteArray := prog_11_method_5_code
def y_M_lay : MethodName := ⟨"RedactCheckModel", "lay", "(IIIII)V"⟩
theorem d_M_lay_0 : decode b_M_lay 0 = .ok (.bipush 40, 2) := by decide +kernel
theorem d_M_lay_2 : decode b_M_lay 2 = .ok (.iload_n 1, 1) := by decide +kernel
theorem d_M_lay_3 : decode b_M_lay 3 = .ok (.imul, 1) := by decide +kernel
theorem d_M_lay_4 : decode b_M_lay 4 = .ok (.aload_n 0, 1) := by decide +kernel
theorem d_M_lay_5 : decode b_M_lay 5 = .ok (.getfield 7, 3) := by decide +kernel
theorem d_M_lay_8 : decode b_M_lay 8 = .ok (.iload_n 1, 1) := by decide +kernel
theorem d_M_lay_9 : decode b_M_lay 9 = .ok (.iaload, 1) := by decide +kernel
theorem d_M_lay_10 : decode b_M_lay 10 = .ok (.iadd, 1) := by decide +kernel
theorem d_M_lay_11 : decode b_M_lay 11 = .ok (.istore 6, 2) := by decide +kernel
theorem d_M_lay_13 : decode b_M_lay 13 = .ok (.aload_n 0, 1) := by decide +kernel
theorem d_M_lay_14 : decode b_M_lay 14 = .ok (.getfield 13, 3) := by decide +kernel
theorem d_M_lay_17 : decode b_M_lay 17 = .ok (.iload 6, 2) := by decide +kernel
theorem d_M_lay_19 : decode b_M_lay 19 = .ok (.iload_n 2, 1) := by decide +kernel
theorem d_M_lay_20 : decode b_M_lay 20 = .ok (.iastore, 1) := by decide +kernel
theorem d_M_lay_21 : decode b_M_lay 21 = .ok (.aload_n 0, 1) := by decide +kernel
theorem d_M_lay_22 : decode b_M_lay 22 = .ok (.getfield 16, 3) := by decide +kernel
theorem d_M_lay_25 : decode b_M_lay 25 = .ok (.iload 6, 2) := by decide +kernel
theorem d_M_lay_27 : decode b_M_lay 27 = .ok (.iload_n 3, 1) := by decide +kernel
theorem d_M_lay_28 : decode b_M_lay 28 = .ok (.iastore, 1) := by decide +kernel
theorem d_M_lay_29 : decode b_M_lay 29 = .ok (.aload_n 0, 1) := by decide +kernel
theorem d_M_lay_30 : decode b_M_lay 30 = .ok (.getfield 19, 3) := by decide +kernel
theorem d_M_lay_33 : decode b_M_lay 33 = .ok (.iload 6, 2) := by decide +kernel
theorem d_M_lay_35 : decode b_M_lay 35 = .ok (.iload 4, 2) := by decide +kernel
theorem d_M_lay_37 : decode b_M_lay 37 = .ok (.iastore, 1) := by decide +kernel
theorem d_M_lay_38 : decode b_M_lay 38 = .ok (.aload_n 0, 1) := by decide +kernel
theorem d_M_lay_39 : decode b_M_lay 39 = .ok (.getfield 22, 3) := by decide +kernel
theorem d_M_lay_42 : decode b_M_lay 42 = .ok (.iload 6, 2) := by decide +kernel
theorem d_M_lay_44 : decode b_M_lay 44 = .ok (.iload 5, 2) := by decide +kernel
theorem d_M_lay_46 : decode b_M_lay 46 = .ok (.iastore, 1) := by decide +kernel
theorem d_M_lay_47 : decode b_M_lay 47 = .ok (.aload_n 0, 1) := by decide +kernel
theorem d_M_lay_48 : decode b_M_lay 48 = .ok (.getfield 7, 3) := by decide +kernel
theorem d_M_lay_51 : decode b_M_lay 51 = .ok (.iload_n 1, 1) := by decide +kernel
theorem d_M_lay_52 : decode b_M_lay 52 = .ok (.dup2, 1) := by decide +kernel
theorem d_M_lay_53 : decode b_M_lay 53 = .ok (.iaload, 1) := by decide +kernel
theorem d_M_lay_54 : decode b_M_lay 54 = .ok (.iconst 1, 1) := by decide +kernel
theorem d_M_lay_55 : decode b_M_lay 55 = .ok (.iadd, 1) := by decide +kernel
theorem d_M_lay_56 : decode b_M_lay 56 = .ok (.iastore, 1) := by decide +kernel
theorem d_M_lay_57 : decode b_M_lay 57 = .ok (.return_, 1) := by decide +kernel
abbrev b_M_form : ByteArray := prog_11_method_7_code
def y_M_form : MethodName := ⟨"RedactCheckModel", "form", "()I"⟩
theorem d_M_form_0 : decode b_M_form 0 = .ok (.aload_n 0, 1) := by decide +kernel
theorem d_M_form_1 : decode b_M_form 1 = .ok (.aload_n 0, 1) := by decide +kernel
theorem d_M_form_2 : decode b_M_form 2 = .ok (.getfield 83, 3) := by decide +kernel
theorem d_M_form_5 : decode b_M_form 5 = .ok (.bipush 20, 2) := by decide +kernel
theorem d_M_form_7 : decode b_M_form 7 = .ok (.if_icmp .ne 7, 3) := by decide +kernel
theorem d_M_form_10 : decode b_M_form 10 = .ok (.iconst 1, 1) := by decide +kernel
theorem d_M_form_11 : decode b_M_form 11 = .ok (.goto 4, 3) := by decide +kernel
theorem d_M_form_14 : decode b_M_form 14 = .ok (.iconst 0, 1) := by decide +kernel
theorem d_M_form_15 : decode b_M_form 15 = .ok (.putfield 87, 3) := by decide +kernel
theorem d_M_form_18 : decode b_M_form 18 = .ok (.aload_n 0, 1) := by decide +kernel
theorem d_M_form_19 : decode b_M_form 19 = .ok (.getfield 87, 3) := by decide +kernel
theorem d_M_form_22 : decode b_M_form 22 = .ok (.ifCond .le 5, 3) := by decide +kernel
theorem d_M_form_25 : decode b_M_form 25 = .ok (.iconst 0, 1) := by decide +kernel
theorem d_M_form_26 : decode b_M_form 26 = .ok (.ireturn, 1) := by decide +kernel
theorem d_M_form_27 : decode b_M_form 27 = .ok (.aload_n 0, 1) := by decide +kernel
theorem d_M_form_28 : decode b_M_form 28 = .ok (.dup, 1) := by decide +kernel
theorem d_M_form_29 : decode b_M_form 29 = .ok (.getfield 83, 3) := by decide +kernel
theorem d_M_form_32 : decode b_M_form 32 = .ok (.iconst 1, 1) := by decide +kernel
theorem d_M_form_33 : decode b_M_form 33 = .ok (.iadd, 1) := by decide +kernel
theorem d_M_form_34 : decode b_M_form 34 = .ok (.putfield 83, 3) := by decide +kernel
theorem d_M_form_37 : decode b_M_form 37 = .ok (.aload_n 0, 1) := by decide +kernel
theorem d_M_form_38 : decode b_M_form 38 = .ok (.getfield 83, 3) := by decide +kernel
theorem d_M_form_41 : decode b_M_form 41 = .ok (.iconst 1, 1) := by decide +kernel
theorem d_M_form_42 : decode b_M_form 42 = .ok (.isub, 1) := by decide +kernel
theorem d_M_form_43 : decode b_M_form 43 = .ok (.ireturn, 1) := by decide +kernel
abbrev b_M_formSign : ByteArray := prog_11_method_8_code
def y_M_formSign : MethodName := ⟨"RedactCheckModel", "formSign", "(IIIII)I"⟩
theorem d_M_formSign_0 : decode b_M_formSign 0 = .ok (.aload_n 0, 1) := by decide +kernel
theorem d_M_formSign_1 : decode b_M_formSign 1 = .ok (.iload_n 1, 1) := by decide +kernel
theorem d_M_formSign_2 : decode b_M_formSign 2 = .ok (.iconst 0, 1) := by decide +kernel
theorem d_M_formSign_3 : decode b_M_formSign 3 = .ok (.aload_n 0, 1) := by decide +kernel
theorem d_M_formSign_4 : decode b_M_formSign 4 = .ok (.getfield 83, 3) := by decide +kernel
theorem d_M_formSign_7 : decode b_M_formSign 7 = .ok (.iconst 1, 1) := by decide +kernel
theorem d_M_formSign_8 : decode b_M_formSign 8 = .ok (.isub, 1) := by decide +kernel
theorem d_M_formSign_9 : decode b_M_formSign 9 = .ok (.invokestatic 90, 3) := by decide +kernel
theorem d_M_formSign_12 : decode b_M_formSign 12 = .ok (.ifCond .eq 7, 3) := by decide +kernel
theorem d_M_formSign_15 : decode b_M_formSign 15 = .ok (.iconst 0, 1) := by decide +kernel
theorem d_M_formSign_16 : decode b_M_formSign 16 = .ok (.goto 4, 3) := by decide +kernel
theorem d_M_formSign_19 : decode b_M_formSign 19 = .ok (.iconst 1, 1) := by decide +kernel
theorem d_M_formSign_20 : decode b_M_formSign 20 = .ok (.putfield 87, 3) := by decide +kernel
theorem d_M_formSign_23 : decode b_M_formSign 23 = .ok (.aload_n 0, 1) := by decide +kernel
theorem d_M_formSign_24 : decode b_M_formSign 24 = .ok (.getfield 87, 3) := by decide +kernel
theorem d_M_formSign_27 : decode b_M_formSign 27 = .ok (.ifCond .le 7, 3) := by decide +kernel
theorem d_M_formSign_30 : decode b_M_formSign 30 = .ok (.iconst 0, 1) := by decide +kernel
theorem d_M_formSign_31 : decode b_M_formSign 31 = .ok (.goto 16, 3) := by decide +kernel
theorem d_M_formSign_34 : decode b_M_formSign 34 = .ok (.aload_n 0, 1) := by decide +kernel
theorem d_M_formSign_35 : decode b_M_formSign 35 = .ok (.iconst 4, 1) := by decide +kernel
theorem d_M_formSign_36 : decode b_M_formSign 36 = .ok (.iload_n 1, 1) := by decide +kernel
theorem d_M_formSign_37 : decode b_M_formSign 37 = .ok (.iadd, 1) := by decide +kernel
theorem d_M_formSign_38 : decode b_M_formSign 38 = .ok (.iload_n 2, 1) := by decide +kernel
theorem d_M_formSign_39 : decode b_M_formSign 39 = .ok (.iload_n 3, 1) := by decide +kernel
theorem d_M_formSign_40 : decode b_M_formSign 40 = .ok (.iload 4, 2) := by decide +kernel
theorem d_M_formSign_42 : decode b_M_formSign 42 = .ok (.iload 5, 2) := by decide +kernel
theorem d_M_formSign_44 : decode b_M_formSign 44 = .ok (.invokevirtual 98, 3) := by decide +kernel
theorem d_M_formSign_47 : decode b_M_formSign 47 = .ok (.ireturn, 1) := by decide +kernel
abbrev b_M_use : ByteArray := prog_11_method_9_code
def y_M_use : MethodName := ⟨"RedactCheckModel", "use", "(IIII)I"⟩
theorem d_M_use_0 : decode b_M_use 0 = .ok (.aload_n 0, 1) := by decide +kernel
theorem d_M_use_1 : decode b_M_use 1 = .ok (.iload_n 1, 1) := by decide +kernel
theorem d_M_use_2 : decode b_M_use 2 = .ok (.iconst 0, 1) := by decide +kernel
theorem d_M_use_3 : decode b_M_use 3 = .ok (.iconst 3, 1) := by decide +kernel
theorem d_M_use_4 : decode b_M_use 4 = .ok (.invokestatic 90, 3) := by decide +kernel
theorem d_M_use_7 : decode b_M_use 7 = .ok (.ifCond .eq 17, 3) := by decide +kernel
theorem d_M_use_10 : decode b_M_use 10 = .ok (.iload_n 2, 1) := by decide +kernel
theorem d_M_use_11 : decode b_M_use 11 = .ok (.iconst 0, 1) := by decide +kernel
theorem d_M_use_12 : decode b_M_use 12 = .ok (.aload_n 0, 1) := by decide +kernel
theorem d_M_use_13 : decode b_M_use 13 = .ok (.getfield 83, 3) := by decide +kernel
theorem d_M_use_16 : decode b_M_use 16 = .ok (.iconst 1, 1) := by decide +kernel
theorem d_M_use_17 : decode b_M_use 17 = .ok (.isub, 1) := by decide +kernel
theorem d_M_use_18 : decode b_M_use 18 = .ok (.invokestatic 90, 3) := by decide +kernel
theorem d_M_use_21 : decode b_M_use 21 = .ok (.ifCond .ne 7, 3) := by decide +kernel
theorem d_M_use_24 : decode b_M_use 24 = .ok (.iconst 1, 1) := by decide +kernel
theorem d_M_use_25 : decode b_M_use 25 = .ok (.goto 48, 3) := by decide +kernel
theorem d_M_use_28 : decode b_M_use 28 = .ok (.iload_n 3, 1) := by decide +kernel
theorem d_M_use_29 : decode b_M_use 29 = .ok (.sipush (-999), 3) := by decide +kernel
theorem d_M_use_32 : decode b_M_use 32 = .ok (.sipush 999, 3) := by decide +kernel
theorem d_M_use_35 : decode b_M_use 35 = .ok (.invokestatic 90, 3) := by decide +kernel
theorem d_M_use_38 : decode b_M_use 38 = .ok (.ifCond .eq 17, 3) := by decide +kernel
theorem d_M_use_41 : decode b_M_use 41 = .ok (.iload 4, 2) := by decide +kernel
theorem d_M_use_43 : decode b_M_use 43 = .ok (.sipush (-999), 3) := by decide +kernel
theorem d_M_use_46 : decode b_M_use 46 = .ok (.sipush 999, 3) := by decide +kernel
theorem d_M_use_49 : decode b_M_use 49 = .ok (.invokestatic 90, 3) := by decide +kernel
theorem d_M_use_52 : decode b_M_use 52 = .ok (.ifCond .ne 7, 3) := by decide +kernel
theorem d_M_use_55 : decode b_M_use 55 = .ok (.iconst 2, 1) := by decide +kernel
theorem d_M_use_56 : decode b_M_use 56 = .ok (.goto 17, 3) := by decide +kernel
theorem d_M_use_59 : decode b_M_use 59 = .ok (.aload_n 0, 1) := by decide +kernel
theorem d_M_use_60 : decode b_M_use 60 = .ok (.getfield 102, 3) := by decide +kernel
theorem d_M_use_63 : decode b_M_use 63 = .ok (.bipush 12, 2) := by decide +kernel
theorem d_M_use_65 : decode b_M_use 65 = .ok (.if_icmp .ne 7, 3) := by decide +kernel
theorem d_M_use_68 : decode b_M_use 68 = .ok (.iconst 3, 1) := by decide +kernel
theorem d_M_use_69 : decode b_M_use 69 = .ok (.goto 4, 3) := by decide +kernel
theorem d_M_use_72 : decode b_M_use 72 = .ok (.iconst 0, 1) := by decide +kernel
theorem d_M_use_73 : decode b_M_use 73 = .ok (.putfield 87, 3) := by decide +kernel
theorem d_M_use_76 : decode b_M_use 76 = .ok (.aload_n 0, 1) := by decide +kernel
theorem d_M_use_77 : decode b_M_use 77 = .ok (.getfield 87, 3) := by decide +kernel
theorem d_M_use_80 : decode b_M_use 80 = .ok (.ifCond .le 5, 3) := by decide +kernel
theorem d_M_use_83 : decode b_M_use 83 = .ok (.iconst 0, 1) := by decide +kernel
theorem d_M_use_84 : decode b_M_use 84 = .ok (.ireturn, 1) := by decide +kernel
theorem d_M_use_85 : decode b_M_use 85 = .ok (.aload_n 0, 1) := by decide +kernel
theorem d_M_use_86 : decode b_M_use 86 = .ok (.getfield 25, 3) := by decide +kernel
theorem d_M_use_89 : decode b_M_use 89 = .ok (.aload_n 0, 1) := by decide +kernel
theorem d_M_use_90 : decode b_M_use 90 = .ok (.getfield 102, 3) := by decide +kernel
theorem d_M_use_93 : decode b_M_use 93 = .ok (.iload_n 1, 1) := by decide +kernel
theorem d_M_use_94 : decode b_M_use 94 = .ok (.iastore, 1) := by decide +kernel
theorem d_M_use_95 : decode b_M_use 95 = .ok (.aload_n 0, 1) := by decide +kernel
theorem d_M_use_96 : decode b_M_use 96 = .ok (.getfield 28, 3) := by decide +kernel
theorem d_M_use_99 : decode b_M_use 99 = .ok (.aload_n 0, 1) := by decide +kernel
theorem d_M_use_100 : decode b_M_use 100 = .ok (.getfield 102, 3) := by decide +kernel
theorem d_M_use_103 : decode b_M_use 103 = .ok (.iload_n 2, 1) := by decide +kernel
theorem d_M_use_104 : decode b_M_use 104 = .ok (.iastore, 1) := by decide +kernel
theorem d_M_use_105 : decode b_M_use 105 = .ok (.aload_n 0, 1) := by decide +kernel
theorem d_M_use_106 : decode b_M_use 106 = .ok (.getfield 31, 3) := by decide +kernel
theorem d_M_use_109 : decode b_M_use 109 = .ok (.aload_n 0, 1) := by decide +kernel
theorem d_M_use_110 : decode b_M_use 110 = .ok (.getfield 102, 3) := by decide +kernel
theorem d_M_use_113 : decode b_M_use 113 = .ok (.iload_n 3, 1) := by decide +kernel
theorem d_M_use_114 : decode b_M_use 114 = .ok (.iastore, 1) := by decide +kernel
theorem d_M_use_115 : decode b_M_use 115 = .ok (.aload_n 0, 1) := by decide +kernel
theorem d_M_use_116 : decode b_M_use 116 = .ok (.getfield 34, 3) := by decide +kernel
theorem d_M_use_119 : decode b_M_use 119 = .ok (.aload_n 0, 1) := by decide +kernel
theorem d_M_use_120 : decode b_M_use 120 = .ok (.getfield 102, 3) := by decide +kernel
theorem d_M_use_123 : decode b_M_use 123 = .ok (.iload 4, 2) := by decide +kernel
theorem d_M_use_125 : decode b_M_use 125 = .ok (.iastore, 1) := by decide +kernel
theorem d_M_use_126 : decode b_M_use 126 = .ok (.aload_n 0, 1) := by decide +kernel
theorem d_M_use_127 : decode b_M_use 127 = .ok (.dup, 1) := by decide +kernel
theorem d_M_use_128 : decode b_M_use 128 = .ok (.getfield 102, 3) := by decide +kernel
theorem d_M_use_131 : decode b_M_use 131 = .ok (.iconst 1, 1) := by decide +kernel
theorem d_M_use_132 : decode b_M_use 132 = .ok (.iadd, 1) := by decide +kernel
theorem d_M_use_133 : decode b_M_use 133 = .ok (.putfield 102, 3) := by decide +kernel
theorem d_M_use_136 : decode b_M_use 136 = .ok (.aload_n 0, 1) := by decide +kernel
theorem d_M_use_137 : decode b_M_use 137 = .ok (.getfield 102, 3) := by decide +kernel
theorem d_M_use_140 : decode b_M_use 140 = .ok (.iconst 1, 1) := by decide +kernel
theorem d_M_use_141 : decode b_M_use 141 = .ok (.isub, 1) := by decide +kernel
theorem d_M_use_142 : decode b_M_use 142 = .ok (.ireturn, 1) := by decide +kernel
abbrev b_M_word : ByteArray := prog_11_method_10_code
def y_M_word : MethodName := ⟨"RedactCheckModel", "word", "()I"⟩
theorem d_M_word_0 : decode b_M_word 0 = .ok (.aload_n 0, 1) := by decide +kernel
theorem d_M_word_1 : decode b_M_word 1 = .ok (.aload_n 0, 1) := by decide +kernel
theorem d_M_word_2 : decode b_M_word 2 = .ok (.getfield 105, 3) := by decide +kernel
theorem d_M_word_5 : decode b_M_word 5 = .ok (.iconst 4, 1) := by decide +kernel
theorem d_M_word_6 : decode b_M_word 6 = .ok (.if_icmp .ne 7, 3) := by decide +kernel
theorem d_M_word_9 : decode b_M_word 9 = .ok (.iconst 1, 1) := by decide +kernel
theorem d_M_word_10 : decode b_M_word 10 = .ok (.goto 4, 3) := by decide +kernel
theorem d_M_word_13 : decode b_M_word 13 = .ok (.iconst 0, 1) := by decide +kernel
theorem d_M_word_14 : decode b_M_word 14 = .ok (.putfield 87, 3) := by decide +kernel
theorem d_M_word_17 : decode b_M_word 17 = .ok (.aload_n 0, 1) := by decide +kernel
theorem d_M_word_18 : decode b_M_word 18 = .ok (.getfield 87, 3) := by decide +kernel
theorem d_M_word_21 : decode b_M_word 21 = .ok (.ifCond .le 5, 3) := by decide +kernel
theorem d_M_word_24 : decode b_M_word 24 = .ok (.iconst 0, 1) := by decide +kernel
theorem d_M_word_25 : decode b_M_word 25 = .ok (.ireturn, 1) := by decide +kernel
theorem d_M_word_26 : decode b_M_word 26 = .ok (.aload_n 0, 1) := by decide +kernel
theorem d_M_word_27 : decode b_M_word 27 = .ok (.dup, 1) := by decide +kernel
theorem d_M_word_28 : decode b_M_word 28 = .ok (.getfield 105, 3) := by decide +kernel
theorem d_M_word_31 : decode b_M_word 31 = .ok (.iconst 1, 1) := by decide +kernel
theorem d_M_word_32 : decode b_M_word 32 = .ok (.iadd, 1) := by decide +kernel
theorem d_M_word_33 : decode b_M_word 33 = .ok (.putfield 105, 3) := by decide +kernel
theorem d_M_word_36 : decode b_M_word 36 = .ok (.aload_n 0, 1) := by decide +kernel
theorem d_M_word_37 : decode b_M_word 37 = .ok (.getfield 105, 3) := by decide +kernel
theorem d_M_word_40 : decode b_M_word 40 = .ok (.iconst 1, 1) := by decide +kernel
theorem d_M_word_41 : decode b_M_word 41 = .ok (.isub, 1) := by decide +kernel
theorem d_M_word_42 : decode b_M_word 42 = .ok (.ireturn, 1) := by decide +kernel
abbrev b_M_letter : ByteArray := prog_11_method_11_code
def y_M_letter : MethodName := ⟨"RedactCheckModel", "letter", "(II)I"⟩
theorem d_M_letter_0 : decode b_M_letter 0 = .ok (.aload_n 0, 1) := by decide +kernel
theorem d_M_letter_1 : decode b_M_letter 1 = .ok (.iload_n 1, 1) := by decide +kernel
theorem d_M_letter_2 : decode b_M_letter 2 = .ok (.iconst 0, 1) := by decide +kernel
theorem d_M_letter_3 : decode b_M_letter 3 = .ok (.aload_n 0, 1) := by decide +kernel
theorem d_M_letter_4 : decode b_M_letter 4 = .ok (.getfield 105, 3) := by decide +kernel
theorem d_M_letter_7 : decode b_M_letter 7 = .ok (.iconst 1, 1) := by decide +kernel
theorem d_M_letter_8 : decode b_M_letter 8 = .ok (.isub, 1) := by decide +kernel
theorem d_M_letter_9 : decode b_M_letter 9 = .ok (.invokestatic 90, 3) := by decide +kernel
theorem d_M_letter_12 : decode b_M_letter 12 = .ok (.ifCond .ne 7, 3) := by decide +kernel
theorem d_M_letter_15 : decode b_M_letter 15 = .ok (.iconst 1, 1) := by decide +kernel
theorem d_M_letter_16 : decode b_M_letter 16 = .ok (.goto 40, 3) := by decide +kernel
theorem d_M_letter_19 : decode b_M_letter 19 = .ok (.iload_n 2, 1) := by decide +kernel
theorem d_M_letter_20 : decode b_M_letter 20 = .ok (.bipush 33, 2) := by decide +kernel
theorem d_M_letter_22 : decode b_M_letter 22 = .ok (.bipush 126, 2) := by decide +kernel
theorem d_M_letter_24 : decode b_M_letter 24 = .ok (.invokestatic 90, 3) := by decide +kernel
theorem d_M_letter_27 : decode b_M_letter 27 = .ok (.ifCond .eq 9, 3) := by decide +kernel
theorem d_M_letter_30 : decode b_M_letter 30 = .ok (.iload_n 2, 1) := by decide +kernel
theorem d_M_letter_31 : decode b_M_letter 31 = .ok (.bipush 42, 2) := by decide +kernel
theorem d_M_letter_33 : decode b_M_letter 33 = .ok (.if_icmp .ne 7, 3) := by decide +kernel
theorem d_M_letter_36 : decode b_M_letter 36 = .ok (.iconst 2, 1) := by decide +kernel
theorem d_M_letter_37 : decode b_M_letter 37 = .ok (.goto 19, 3) := by decide +kernel
theorem d_M_letter_40 : decode b_M_letter 40 = .ok (.aload_n 0, 1) := by decide +kernel
theorem d_M_letter_41 : decode b_M_letter 41 = .ok (.getfield 37, 3) := by decide +kernel
theorem d_M_letter_44 : decode b_M_letter 44 = .ok (.iload_n 1, 1) := by decide +kernel
theorem d_M_letter_45 : decode b_M_letter 45 = .ok (.iaload, 1) := by decide +kernel
theorem d_M_letter_46 : decode b_M_letter 46 = .ok (.bipush 8, 2) := by decide +kernel
theorem d_M_letter_48 : decode b_M_letter 48 = .ok (.if_icmp .ne 7, 3) := by decide +kernel
theorem d_M_letter_51 : decode b_M_letter 51 = .ok (.iconst 3, 1) := by decide +kernel
theorem d_M_letter_52 : decode b_M_letter 52 = .ok (.goto 4, 3) := by decide +kernel
theorem d_M_letter_55 : decode b_M_letter 55 = .ok (.iconst 0, 1) := by decide +kernel
theorem d_M_letter_56 : decode b_M_letter 56 = .ok (.putfield 87, 3) := by decide +kernel
theorem d_M_letter_59 : decode b_M_letter 59 = .ok (.aload_n 0, 1) := by decide +kernel
theorem d_M_letter_60 : decode b_M_letter 60 = .ok (.getfield 87, 3) := by decide +kernel
theorem d_M_letter_63 : decode b_M_letter 63 = .ok (.ifCond .le 5, 3) := by decide +kernel
theorem d_M_letter_66 : decode b_M_letter 66 = .ok (.iconst 0, 1) := by decide +kernel
theorem d_M_letter_67 : decode b_M_letter 67 = .ok (.ireturn, 1) := by decide +kernel
theorem d_M_letter_68 : decode b_M_letter 68 = .ok (.aload_n 0, 1) := by decide +kernel
theorem d_M_letter_69 : decode b_M_letter 69 = .ok (.getfield 40, 3) := by decide +kernel
theorem d_M_letter_72 : decode b_M_letter 72 = .ok (.bipush 8, 2) := by decide +kernel
theorem d_M_letter_74 : decode b_M_letter 74 = .ok (.iload_n 1, 1) := by decide +kernel
theorem d_M_letter_75 : decode b_M_letter 75 = .ok (.imul, 1) := by decide +kernel
theorem d_M_letter_76 : decode b_M_letter 76 = .ok (.aload_n 0, 1) := by decide +kernel
theorem d_M_letter_77 : decode b_M_letter 77 = .ok (.getfield 37, 3) := by decide +kernel
theorem d_M_letter_80 : decode b_M_letter 80 = .ok (.iload_n 1, 1) := by decide +kernel
theorem d_M_letter_81 : decode b_M_letter 81 = .ok (.iaload, 1) := by decide +kernel
theorem d_M_letter_82 : decode b_M_letter 82 = .ok (.iadd, 1) := by decide +kernel
theorem d_M_letter_83 : decode b_M_letter 83 = .ok (.iload_n 2, 1) := by decide +kernel
theorem d_M_letter_84 : decode b_M_letter 84 = .ok (.iastore, 1) := by decide +kernel
theorem d_M_letter_85 : decode b_M_letter 85 = .ok (.aload_n 0, 1) := by decide +kernel
theorem d_M_letter_86 : decode b_M_letter 86 = .ok (.getfield 37, 3) := by decide +kernel
theorem d_M_letter_89 : decode b_M_letter 89 = .ok (.iload_n 1, 1) := by decide +kernel
theorem d_M_letter_90 : decode b_M_letter 90 = .ok (.dup2, 1) := by decide +kernel
theorem d_M_letter_91 : decode b_M_letter 91 = .ok (.iaload, 1) := by decide +kernel
theorem d_M_letter_92 : decode b_M_letter 92 = .ok (.iconst 1, 1) := by decide +kernel
theorem d_M_letter_93 : decode b_M_letter 93 = .ok (.iadd, 1) := by decide +kernel
theorem d_M_letter_94 : decode b_M_letter 94 = .ok (.iastore, 1) := by decide +kernel
theorem d_M_letter_95 : decode b_M_letter 95 = .ok (.aload_n 0, 1) := by decide +kernel
theorem d_M_letter_96 : decode b_M_letter 96 = .ok (.getfield 37, 3) := by decide +kernel
theorem d_M_letter_99 : decode b_M_letter 99 = .ok (.iload_n 1, 1) := by decide +kernel
theorem d_M_letter_100 : decode b_M_letter 100 = .ok (.iaload, 1) := by decide +kernel
theorem d_M_letter_101 : decode b_M_letter 101 = .ok (.ireturn, 1) := by decide +kernel
abbrev b_M_area : ByteArray := prog_11_method_12_code
def y_M_area : MethodName := ⟨"RedactCheckModel", "area", "(IIIII)I"⟩
theorem d_M_area_0 : decode b_M_area 0 = .ok (.aload_n 0, 1) := by decide +kernel
theorem d_M_area_1 : decode b_M_area 1 = .ok (.iload_n 1, 1) := by decide +kernel
theorem d_M_area_2 : decode b_M_area 2 = .ok (.iconst 0, 1) := by decide +kernel
theorem d_M_area_3 : decode b_M_area 3 = .ok (.iconst 3, 1) := by decide +kernel
theorem d_M_area_4 : decode b_M_area 4 = .ok (.invokestatic 90, 3) := by decide +kernel
theorem d_M_area_7 : decode b_M_area 7 = .ok (.ifCond .ne 7, 3) := by decide +kernel
theorem d_M_area_10 : decode b_M_area 10 = .ok (.iconst 1, 1) := by decide +kernel
theorem d_M_area_11 : decode b_M_area 11 = .ok (.goto 71, 3) := by decide +kernel
theorem d_M_area_14 : decode b_M_area 14 = .ok (.iload_n 2, 1) := by decide +kernel
theorem d_M_area_15 : decode b_M_area 15 = .ok (.sipush (-999), 3) := by decide +kernel
theorem d_M_area_18 : decode b_M_area 18 = .ok (.sipush 999, 3) := by decide +kernel
theorem d_M_area_21 : decode b_M_area 21 = .ok (.invokestatic 90, 3) := by decide +kernel
theorem d_M_area_24 : decode b_M_area 24 = .ok (.ifCond .eq 40, 3) := by decide +kernel
theorem d_M_area_27 : decode b_M_area 27 = .ok (.iload_n 3, 1) := by decide +kernel
theorem d_M_area_28 : decode b_M_area 28 = .ok (.sipush (-999), 3) := by decide +kernel
theorem d_M_area_31 : decode b_M_area 31 = .ok (.sipush 999, 3) := by decide +kernel
theorem d_M_area_34 : decode b_M_area 34 = .ok (.invokestatic 90, 3) := by decide +kernel
theorem d_M_area_37 : decode b_M_area 37 = .ok (.ifCond .eq 27, 3) := by decide +kernel
theorem d_M_area_40 : decode b_M_area 40 = .ok (.iload 4, 2) := by decide +kernel
theorem d_M_area_42 : decode b_M_area 42 = .ok (.iconst 0, 1) := by decide +kernel
theorem d_M_area_43 : decode b_M_area 43 = .ok (.sipush 1999, 3) := by decide +kernel
theorem d_M_area_46 : decode b_M_area 46 = .ok (.invokestatic 90, 3) := by decide +kernel
theorem d_M_area_49 : decode b_M_area 49 = .ok (.ifCond .eq 15, 3) := by decide +kernel
theorem d_M_area_52 : decode b_M_area 52 = .ok (.iload 5, 2) := by decide +kernel
theorem d_M_area_54 : decode b_M_area 54 = .ok (.iconst 0, 1) := by decide +kernel
theorem d_M_area_55 : decode b_M_area 55 = .ok (.sipush 1999, 3) := by decide +kernel
theorem d_M_area_58 : decode b_M_area 58 = .ok (.invokestatic 90, 3) := by decide +kernel
theorem d_M_area_61 : decode b_M_area 61 = .ok (.ifCond .ne 7, 3) := by decide +kernel
theorem d_M_area_64 : decode b_M_area 64 = .ok (.iconst 2, 1) := by decide +kernel
theorem d_M_area_65 : decode b_M_area 65 = .ok (.goto 17, 3) := by decide +kernel
theorem d_M_area_68 : decode b_M_area 68 = .ok (.aload_n 0, 1) := by decide +kernel
theorem d_M_area_69 : decode b_M_area 69 = .ok (.getfield 108, 3) := by decide +kernel
theorem d_M_area_72 : decode b_M_area 72 = .ok (.bipush 8, 2) := by decide +kernel
theorem d_M_area_74 : decode b_M_area 74 = .ok (.if_icmp .ne 7, 3) := by decide +kernel
theorem d_M_area_77 : decode b_M_area 77 = .ok (.iconst 3, 1) := by decide +kernel
theorem d_M_area_78 : decode b_M_area 78 = .ok (.goto 4, 3) := by decide +kernel
theorem d_M_area_81 : decode b_M_area 81 = .ok (.iconst 0, 1) := by decide +kernel
theorem d_M_area_82 : decode b_M_area 82 = .ok (.putfield 87, 3) := by decide +kernel
theorem d_M_area_85 : decode b_M_area 85 = .ok (.aload_n 0, 1) := by decide +kernel
theorem d_M_area_86 : decode b_M_area 86 = .ok (.getfield 87, 3) := by decide +kernel
theorem d_M_area_89 : decode b_M_area 89 = .ok (.ifCond .le 5, 3) := by decide +kernel
theorem d_M_area_92 : decode b_M_area 92 = .ok (.iconst 0, 1) := by decide +kernel
theorem d_M_area_93 : decode b_M_area 93 = .ok (.ireturn, 1) := by decide +kernel
theorem d_M_area_94 : decode b_M_area 94 = .ok (.aload_n 0, 1) := by decide +kernel
theorem d_M_area_95 : decode b_M_area 95 = .ok (.getfield 43, 3) := by decide +kernel
theorem d_M_area_98 : decode b_M_area 98 = .ok (.aload_n 0, 1) := by decide +kernel
theorem d_M_area_99 : decode b_M_area 99 = .ok (.getfield 108, 3) := by decide +kernel
theorem d_M_area_102 : decode b_M_area 102 = .ok (.iload_n 1, 1) := by decide +kernel
theorem d_M_area_103 : decode b_M_area 103 = .ok (.iastore, 1) := by decide +kernel
theorem d_M_area_104 : decode b_M_area 104 = .ok (.aload_n 0, 1) := by decide +kernel
theorem d_M_area_105 : decode b_M_area 105 = .ok (.getfield 46, 3) := by decide +kernel
theorem d_M_area_108 : decode b_M_area 108 = .ok (.aload_n 0, 1) := by decide +kernel
theorem d_M_area_109 : decode b_M_area 109 = .ok (.getfield 108, 3) := by decide +kernel
theorem d_M_area_112 : decode b_M_area 112 = .ok (.iload_n 2, 1) := by decide +kernel
theorem d_M_area_113 : decode b_M_area 113 = .ok (.iastore, 1) := by decide +kernel
theorem d_M_area_114 : decode b_M_area 114 = .ok (.aload_n 0, 1) := by decide +kernel
theorem d_M_area_115 : decode b_M_area 115 = .ok (.getfield 49, 3) := by decide +kernel
theorem d_M_area_118 : decode b_M_area 118 = .ok (.aload_n 0, 1) := by decide +kernel
theorem d_M_area_119 : decode b_M_area 119 = .ok (.getfield 108, 3) := by decide +kernel
theorem d_M_area_122 : decode b_M_area 122 = .ok (.iload_n 3, 1) := by decide +kernel
theorem d_M_area_123 : decode b_M_area 123 = .ok (.iastore, 1) := by decide +kernel
theorem d_M_area_124 : decode b_M_area 124 = .ok (.aload_n 0, 1) := by decide +kernel
theorem d_M_area_125 : decode b_M_area 125 = .ok (.getfield 52, 3) := by decide +kernel
theorem d_M_area_128 : decode b_M_area 128 = .ok (.aload_n 0, 1) := by decide +kernel
theorem d_M_area_129 : decode b_M_area 129 = .ok (.getfield 108, 3) := by decide +kernel
theorem d_M_area_132 : decode b_M_area 132 = .ok (.iload 4, 2) := by decide +kernel
theorem d_M_area_134 : decode b_M_area 134 = .ok (.iastore, 1) := by decide +kernel
theorem d_M_area_135 : decode b_M_area 135 = .ok (.aload_n 0, 1) := by decide +kernel
theorem d_M_area_136 : decode b_M_area 136 = .ok (.getfield 55, 3) := by decide +kernel
theorem d_M_area_139 : decode b_M_area 139 = .ok (.aload_n 0, 1) := by decide +kernel
theorem d_M_area_140 : decode b_M_area 140 = .ok (.getfield 108, 3) := by decide +kernel
theorem d_M_area_143 : decode b_M_area 143 = .ok (.iload 5, 2) := by decide +kernel
theorem d_M_area_145 : decode b_M_area 145 = .ok (.iastore, 1) := by decide +kernel
theorem d_M_area_146 : decode b_M_area 146 = .ok (.aload_n 0, 1) := by decide +kernel
theorem d_M_area_147 : decode b_M_area 147 = .ok (.dup, 1) := by decide +kernel
theorem d_M_area_148 : decode b_M_area 148 = .ok (.getfield 108, 3) := by decide +kernel
theorem d_M_area_151 : decode b_M_area 151 = .ok (.iconst 1, 1) := by decide +kernel
theorem d_M_area_152 : decode b_M_area 152 = .ok (.iadd, 1) := by decide +kernel
theorem d_M_area_153 : decode b_M_area 153 = .ok (.putfield 108, 3) := by decide +kernel
theorem d_M_area_156 : decode b_M_area 156 = .ok (.aload_n 0, 1) := by decide +kernel
theorem d_M_area_157 : decode b_M_area 157 = .ok (.getfield 108, 3) := by decide +kernel
theorem d_M_area_160 : decode b_M_area 160 = .ok (.ireturn, 1) := by decide +kernel
abbrev b_M_store : ByteArray := prog_11_method_13_code
def y_M_store : MethodName := ⟨"RedactCheckModel", "store", "(I)I"⟩
theorem d_M_store_0 : decode b_M_store 0 = .ok (.aload_n 0, 1) := by decide +kernel
theorem d_M_store_1 : decode b_M_store 1 = .ok (.iload_n 1, 1) := by decide +kernel
theorem d_M_store_2 : decode b_M_store 2 = .ok (.iconst 0, 1) := by decide +kernel
theorem d_M_store_3 : decode b_M_store 3 = .ok (.iconst 3, 1) := by decide +kernel
theorem d_M_store_4 : decode b_M_store 4 = .ok (.invokestatic 90, 3) := by decide +kernel
theorem d_M_store_7 : decode b_M_store 7 = .ok (.ifCond .ne 7, 3) := by decide +kernel
theorem d_M_store_10 : decode b_M_store 10 = .ok (.iconst 1, 1) := by decide +kernel
theorem d_M_store_11 : decode b_M_store 11 = .ok (.goto 17, 3) := by decide +kernel
theorem d_M_store_14 : decode b_M_store 14 = .ok (.aload_n 0, 1) := by decide +kernel
theorem d_M_store_15 : decode b_M_store 15 = .ok (.getfield 111, 3) := by decide +kernel
theorem d_M_store_18 : decode b_M_store 18 = .ok (.bipush 8, 2) := by decide +kernel
theorem d_M_store_20 : decode b_M_store 20 = .ok (.if_icmp .ne 7, 3) := by decide +kernel
theorem d_M_store_23 : decode b_M_store 23 = .ok (.iconst 2, 1) := by decide +kernel
theorem d_M_store_24 : decode b_M_store 24 = .ok (.goto 4, 3) := by decide +kernel
theorem d_M_store_27 : decode b_M_store 27 = .ok (.iconst 0, 1) := by decide +kernel
theorem d_M_store_28 : decode b_M_store 28 = .ok (.putfield 87, 3) := by decide +kernel
theorem d_M_store_31 : decode b_M_store 31 = .ok (.aload_n 0, 1) := by decide +kernel
theorem d_M_store_32 : decode b_M_store 32 = .ok (.getfield 87, 3) := by decide +kernel
theorem d_M_store_35 : decode b_M_store 35 = .ok (.ifCond .le 5, 3) := by decide +kernel
theorem d_M_store_38 : decode b_M_store 38 = .ok (.iconst 0, 1) := by decide +kernel
theorem d_M_store_39 : decode b_M_store 39 = .ok (.ireturn, 1) := by decide +kernel
theorem d_M_store_40 : decode b_M_store 40 = .ok (.aload_n 0, 1) := by decide +kernel
theorem d_M_store_41 : decode b_M_store 41 = .ok (.getfield 58, 3) := by decide +kernel
theorem d_M_store_44 : decode b_M_store 44 = .ok (.aload_n 0, 1) := by decide +kernel
theorem d_M_store_45 : decode b_M_store 45 = .ok (.getfield 111, 3) := by decide +kernel
theorem d_M_store_48 : decode b_M_store 48 = .ok (.iload_n 1, 1) := by decide +kernel
theorem d_M_store_49 : decode b_M_store 49 = .ok (.iastore, 1) := by decide +kernel
theorem d_M_store_50 : decode b_M_store 50 = .ok (.aload_n 0, 1) := by decide +kernel
theorem d_M_store_51 : decode b_M_store 51 = .ok (.dup, 1) := by decide +kernel
theorem d_M_store_52 : decode b_M_store 52 = .ok (.getfield 111, 3) := by decide +kernel
theorem d_M_store_55 : decode b_M_store 55 = .ok (.iconst 1, 1) := by decide +kernel
theorem d_M_store_56 : decode b_M_store 56 = .ok (.iadd, 1) := by decide +kernel
theorem d_M_store_57 : decode b_M_store 57 = .ok (.putfield 111, 3) := by decide +kernel
theorem d_M_store_60 : decode b_M_store 60 = .ok (.aload_n 0, 1) := by decide +kernel
theorem d_M_store_61 : decode b_M_store 61 = .ok (.getfield 111, 3) := by decide +kernel
theorem d_M_store_64 : decode b_M_store 64 = .ok (.iconst 1, 1) := by decide +kernel
theorem d_M_store_65 : decode b_M_store 65 = .ok (.isub, 1) := by decide +kernel
theorem d_M_store_66 : decode b_M_store 66 = .ok (.ireturn, 1) := by decide +kernel
abbrev b_M_octet : ByteArray := prog_11_method_14_code
def y_M_octet : MethodName := ⟨"RedactCheckModel", "octet", "(IB)I"⟩
theorem d_M_octet_0 : decode b_M_octet 0 = .ok (.aload_n 0, 1) := by decide +kernel
theorem d_M_octet_1 : decode b_M_octet 1 = .ok (.iload_n 1, 1) := by decide +kernel
theorem d_M_octet_2 : decode b_M_octet 2 = .ok (.iconst 0, 1) := by decide +kernel
theorem d_M_octet_3 : decode b_M_octet 3 = .ok (.aload_n 0, 1) := by decide +kernel
theorem d_M_octet_4 : decode b_M_octet 4 = .ok (.getfield 111, 3) := by decide +kernel
theorem d_M_octet_7 : decode b_M_octet 7 = .ok (.iconst 1, 1) := by decide +kernel
theorem d_M_octet_8 : decode b_M_octet 8 = .ok (.isub, 1) := by decide +kernel
theorem d_M_octet_9 : decode b_M_octet 9 = .ok (.invokestatic 90, 3) := by decide +kernel
theorem d_M_octet_12 : decode b_M_octet 12 = .ok (.ifCond .ne 7, 3) := by decide +kernel
theorem d_M_octet_15 : decode b_M_octet 15 = .ok (.iconst 1, 1) := by decide +kernel
theorem d_M_octet_16 : decode b_M_octet 16 = .ok (.goto 19, 3) := by decide +kernel
theorem d_M_octet_19 : decode b_M_octet 19 = .ok (.aload_n 0, 1) := by decide +kernel
theorem d_M_octet_20 : decode b_M_octet 20 = .ok (.getfield 61, 3) := by decide +kernel
theorem d_M_octet_23 : decode b_M_octet 23 = .ok (.iload_n 1, 1) := by decide +kernel
theorem d_M_octet_24 : decode b_M_octet 24 = .ok (.iaload, 1) := by decide +kernel
theorem d_M_octet_25 : decode b_M_octet 25 = .ok (.bipush 60, 2) := by decide +kernel
theorem d_M_octet_27 : decode b_M_octet 27 = .ok (.if_icmp .ne 7, 3) := by decide +kernel
theorem d_M_octet_30 : decode b_M_octet 30 = .ok (.iconst 2, 1) := by decide +kernel
theorem d_M_octet_31 : decode b_M_octet 31 = .ok (.goto 4, 3) := by decide +kernel
theorem d_M_octet_34 : decode b_M_octet 34 = .ok (.iconst 0, 1) := by decide +kernel
theorem d_M_octet_35 : decode b_M_octet 35 = .ok (.putfield 87, 3) := by decide +kernel
theorem d_M_octet_38 : decode b_M_octet 38 = .ok (.aload_n 0, 1) := by decide +kernel
theorem d_M_octet_39 : decode b_M_octet 39 = .ok (.getfield 87, 3) := by decide +kernel
theorem d_M_octet_42 : decode b_M_octet 42 = .ok (.ifCond .le 5, 3) := by decide +kernel
theorem d_M_octet_45 : decode b_M_octet 45 = .ok (.iconst 0, 1) := by decide +kernel
theorem d_M_octet_46 : decode b_M_octet 46 = .ok (.ireturn, 1) := by decide +kernel
theorem d_M_octet_47 : decode b_M_octet 47 = .ok (.aload_n 0, 1) := by decide +kernel
theorem d_M_octet_48 : decode b_M_octet 48 = .ok (.getfield 64, 3) := by decide +kernel
theorem d_M_octet_51 : decode b_M_octet 51 = .ok (.bipush 60, 2) := by decide +kernel
theorem d_M_octet_53 : decode b_M_octet 53 = .ok (.iload_n 1, 1) := by decide +kernel
theorem d_M_octet_54 : decode b_M_octet 54 = .ok (.imul, 1) := by decide +kernel
theorem d_M_octet_55 : decode b_M_octet 55 = .ok (.aload_n 0, 1) := by decide +kernel
theorem d_M_octet_56 : decode b_M_octet 56 = .ok (.getfield 61, 3) := by decide +kernel
theorem d_M_octet_59 : decode b_M_octet 59 = .ok (.iload_n 1, 1) := by decide +kernel
theorem d_M_octet_60 : decode b_M_octet 60 = .ok (.iaload, 1) := by decide +kernel
theorem d_M_octet_61 : decode b_M_octet 61 = .ok (.iadd, 1) := by decide +kernel
theorem d_M_octet_62 : decode b_M_octet 62 = .ok (.iload_n 2, 1) := by decide +kernel
theorem d_M_octet_63 : decode b_M_octet 63 = .ok (.sipush 255, 3) := by decide +kernel
theorem d_M_octet_66 : decode b_M_octet 66 = .ok (.iand, 1) := by decide +kernel
theorem d_M_octet_67 : decode b_M_octet 67 = .ok (.iastore, 1) := by decide +kernel
theorem d_M_octet_68 : decode b_M_octet 68 = .ok (.aload_n 0, 1) := by decide +kernel
theorem d_M_octet_69 : decode b_M_octet 69 = .ok (.getfield 61, 3) := by decide +kernel
theorem d_M_octet_72 : decode b_M_octet 72 = .ok (.iload_n 1, 1) := by decide +kernel
theorem d_M_octet_73 : decode b_M_octet 73 = .ok (.dup2, 1) := by decide +kernel
theorem d_M_octet_74 : decode b_M_octet 74 = .ok (.iaload, 1) := by decide +kernel
theorem d_M_octet_75 : decode b_M_octet 75 = .ok (.iconst 1, 1) := by decide +kernel
theorem d_M_octet_76 : decode b_M_octet 76 = .ok (.iadd, 1) := by decide +kernel
theorem d_M_octet_77 : decode b_M_octet 77 = .ok (.iastore, 1) := by decide +kernel
theorem d_M_octet_78 : decode b_M_octet 78 = .ok (.aload_n 0, 1) := by decide +kernel
theorem d_M_octet_79 : decode b_M_octet 79 = .ok (.getfield 61, 3) := by decide +kernel
theorem d_M_octet_82 : decode b_M_octet 82 = .ok (.iload_n 1, 1) := by decide +kernel
theorem d_M_octet_83 : decode b_M_octet 83 = .ok (.iaload, 1) := by decide +kernel
theorem d_M_octet_84 : decode b_M_octet 84 = .ok (.ireturn, 1) := by decide +kernel
abbrev b_M_black : ByteArray := prog_11_method_29_code
def y_M_black : MethodName := ⟨"RedactCheckModel", "black", "()I"⟩
theorem d_M_black_0 : decode b_M_black 0 = .ok (.iconst 0, 1) := by decide +kernel
theorem d_M_black_1 : decode b_M_black 1 = .ok (.istore_n 1, 1) := by decide +kernel
theorem d_M_black_2 : decode b_M_black 2 = .ok (.iconst 0, 1) := by decide +kernel
theorem d_M_black_3 : decode b_M_black 3 = .ok (.istore_n 2, 1) := by decide +kernel
theorem d_M_black_4 : decode b_M_black 4 = .ok (.iload_n 2, 1) := by decide +kernel
theorem d_M_black_5 : decode b_M_black 5 = .ok (.iconst 4, 1) := by decide +kernel
theorem d_M_black_6 : decode b_M_black 6 = .ok (.if_icmp .ge 24, 3) := by decide +kernel
theorem d_M_black_9 : decode b_M_black 9 = .ok (.iload_n 1, 1) := by decide +kernel
theorem d_M_black_10 : decode b_M_black 10 = .ok (.aload_n 0, 1) := by decide +kernel
theorem d_M_black_11 : decode b_M_black 11 = .ok (.iload_n 2, 1) := by decide +kernel
theorem d_M_black_12 : decode b_M_black 12 = .ok (.iload_n 2, 1) := by decide +kernel
theorem d_M_black_13 : decode b_M_black 13 = .ok (.iconst 0, 1) := by decide +kernel
theorem d_M_black_14 : decode b_M_black 14 = .ok (.iconst 0, 1) := by decide +kernel
theorem d_M_black_15 : decode b_M_black 15 = .ok (.bipush 40, 2) := by decide +kernel
theorem d_M_black_17 : decode b_M_black 17 = .ok (.iload_n 2, 1) := by decide +kernel
theorem d_M_black_18 : decode b_M_black 18 = .ok (.imul, 1) := by decide +kernel
theorem d_M_black_19 : decode b_M_black 19 = .ok (.invokevirtual 149, 3) := by decide +kernel
theorem d_M_black_22 : decode b_M_black 22 = .ok (.iadd, 1) := by decide +kernel
theorem d_M_black_23 : decode b_M_black 23 = .ok (.istore_n 1, 1) := by decide +kernel
theorem d_M_black_24 : decode b_M_black 24 = .ok (.iinc 2 1, 3) := by decide +kernel
theorem d_M_black_27 : decode b_M_black 27 = .ok (.goto (-23), 3) := by decide +kernel
theorem d_M_black_30 : decode b_M_black 30 = .ok (.iconst 0, 1) := by decide +kernel
theorem d_M_black_31 : decode b_M_black 31 = .ok (.istore_n 2, 1) := by decide +kernel
theorem d_M_black_32 : decode b_M_black 32 = .ok (.iload_n 2, 1) := by decide +kernel
theorem d_M_black_33 : decode b_M_black 33 = .ok (.aload_n 0, 1) := by decide +kernel
theorem d_M_black_34 : decode b_M_black 34 = .ok (.getfield 102, 3) := by decide +kernel
theorem d_M_black_37 : decode b_M_black 37 = .ok (.if_icmp .ge 46, 3) := by decide +kernel
theorem d_M_black_40 : decode b_M_black 40 = .ok (.iload_n 1, 1) := by decide +kernel
theorem d_M_black_41 : decode b_M_black 41 = .ok (.aload_n 0, 1) := by decide +kernel
theorem d_M_black_42 : decode b_M_black 42 = .ok (.iconst 4, 1) := by decide +kernel
theorem d_M_black_43 : decode b_M_black 43 = .ok (.aload_n 0, 1) := by decide +kernel
theorem d_M_black_44 : decode b_M_black 44 = .ok (.getfield 28, 3) := by decide +kernel
theorem d_M_black_47 : decode b_M_black 47 = .ok (.iload_n 2, 1) := by decide +kernel
theorem d_M_black_48 : decode b_M_black 48 = .ok (.iaload, 1) := by decide +kernel
theorem d_M_black_49 : decode b_M_black 49 = .ok (.iadd, 1) := by decide +kernel
theorem d_M_black_50 : decode b_M_black 50 = .ok (.aload_n 0, 1) := by decide +kernel
theorem d_M_black_51 : decode b_M_black 51 = .ok (.getfield 25, 3) := by decide +kernel
theorem d_M_black_54 : decode b_M_black 54 = .ok (.iload_n 2, 1) := by decide +kernel
theorem d_M_black_55 : decode b_M_black 55 = .ok (.iaload, 1) := by decide +kernel
theorem d_M_black_56 : decode b_M_black 56 = .ok (.aload_n 0, 1) := by decide +kernel
theorem d_M_black_57 : decode b_M_black 57 = .ok (.getfield 31, 3) := by decide +kernel
theorem d_M_black_60 : decode b_M_black 60 = .ok (.iload_n 2, 1) := by decide +kernel
theorem d_M_black_61 : decode b_M_black 61 = .ok (.iaload, 1) := by decide +kernel
theorem d_M_black_62 : decode b_M_black 62 = .ok (.aload_n 0, 1) := by decide +kernel
theorem d_M_black_63 : decode b_M_black 63 = .ok (.getfield 34, 3) := by decide +kernel
theorem d_M_black_66 : decode b_M_black 66 = .ok (.iload_n 2, 1) := by decide +kernel
theorem d_M_black_67 : decode b_M_black 67 = .ok (.iaload, 1) := by decide +kernel
theorem d_M_black_68 : decode b_M_black 68 = .ok (.iload_n 2, 1) := by decide +kernel
theorem d_M_black_69 : decode b_M_black 69 = .ok (.invokestatic 136, 3) := by decide +kernel
theorem d_M_black_72 : decode b_M_black 72 = .ok (.invokevirtual 149, 3) := by decide +kernel
theorem d_M_black_75 : decode b_M_black 75 = .ok (.iadd, 1) := by decide +kernel
theorem d_M_black_76 : decode b_M_black 76 = .ok (.istore_n 1, 1) := by decide +kernel
theorem d_M_black_77 : decode b_M_black 77 = .ok (.iinc 2 1, 3) := by decide +kernel
theorem d_M_black_80 : decode b_M_black 80 = .ok (.goto (-48), 3) := by decide +kernel
theorem d_M_black_83 : decode b_M_black 83 = .ok (.iconst 0, 1) := by decide +kernel
theorem d_M_black_84 : decode b_M_black 84 = .ok (.istore_n 2, 1) := by decide +kernel
end
section
theorem d_M_black_85 : decode b_M_black 85 = .ok (.iconst 0, 1) := by decide +kernel
theorem d_M_black_86 : decode b_M_black 86 = .ok (.istore_n 3, 1) := by decide +kernel
theorem d_M_black_87 : decode b_M_black 87 = .ok (.iload_n 3, 1) := by decide +kernel
theorem d_M_black_88 : decode b_M_black 88 = .ok (.aload_n 0, 1) := by decide +kernel
theorem d_M_black_89 : decode b_M_black 89 = .ok (.getfield 102, 3) := by decide +kernel
theorem d_M_black_92 : decode b_M_black 92 = .ok (.if_icmp .ge 97, 3) := by decide +kernel
theorem d_M_black_95 : decode b_M_black 95 = .ok (.aload_n 0, 1) := by decide +kernel
theorem d_M_black_96 : decode b_M_black 96 = .ok (.getfield 74, 3) := by decide +kernel
theorem d_M_black_99 : decode b_M_black 99 = .ok (.iload_n 3, 1) := by decide +kernel
theorem d_M_black_100 : decode b_M_black 100 = .ok (.iconst (-1), 1) := by decide +kernel
theorem d_M_black_101 : decode b_M_black 101 = .ok (.iastore, 1) := by decide +kernel
theorem d_M_black_102 : decode b_M_black 102 = .ok (.aload_n 0, 1) := by decide +kernel
theorem d_M_black_103 : decode b_M_black 103 = .ok (.iload_n 3, 1) := by decide +kernel
theorem d_M_black_104 : decode b_M_black 104 = .ok (.invokevirtual 152, 3) := by decide +kernel
theorem d_M_black_107 : decode b_M_black 107 = .ok (.ifCond .eq 76, 3) := by decide +kernel
theorem d_M_black_110 : decode b_M_black 110 = .ok (.iload_n 3, 1) := by decide +kernel
theorem d_M_black_111 : decode b_M_black 111 = .ok (.iconst 1, 1) := by decide +kernel
theorem d_M_black_112 : decode b_M_black 112 = .ok (.isub, 1) := by decide +kernel
theorem d_M_black_113 : decode b_M_black 113 = .ok (.istore 4, 2) := by decide +kernel
theorem d_M_black_115 : decode b_M_black 115 = .ok (.iload 4, 2) := by decide +kernel
theorem d_M_black_117 : decode b_M_black 117 = .ok (.ifCond .lt 41, 3) := by decide +kernel
theorem d_M_black_120 : decode b_M_black 120 = .ok (.aload_n 0, 1) := by decide +kernel
theorem d_M_black_121 : decode b_M_black 121 = .ok (.getfield 74, 3) := by decide +kernel
theorem d_M_black_124 : decode b_M_black 124 = .ok (.iload_n 3, 1) := by decide +kernel
theorem d_M_black_125 : decode b_M_black 125 = .ok (.aload_n 0, 1) := by decide +kernel
theorem d_M_black_126 : decode b_M_black 126 = .ok (.iload_n 3, 1) := by decide +kernel
theorem d_M_black_127 : decode b_M_black 127 = .ok (.iload 4, 2) := by decide +kernel
theorem d_M_black_129 : decode b_M_black 129 = .ok (.invokevirtual 156, 3) := by decide +kernel
theorem d_M_black_132 : decode b_M_black 132 = .ok (.ifCond .eq 13, 3) := by decide +kernel
theorem d_M_black_135 : decode b_M_black 135 = .ok (.aload_n 0, 1) := by decide +kernel
theorem d_M_black_136 : decode b_M_black 136 = .ok (.getfield 74, 3) := by decide +kernel
theorem d_M_black_139 : decode b_M_black 139 = .ok (.iload 4, 2) := by decide +kernel
theorem d_M_black_141 : decode b_M_black 141 = .ok (.iaload, 1) := by decide +kernel
theorem d_M_black_142 : decode b_M_black 142 = .ok (.goto 9, 3) := by decide +kernel
theorem d_M_black_145 : decode b_M_black 145 = .ok (.aload_n 0, 1) := by decide +kernel
theorem d_M_black_146 : decode b_M_black 146 = .ok (.getfield 74, 3) := by decide +kernel
theorem d_M_black_149 : decode b_M_black 149 = .ok (.iload_n 3, 1) := by decide +kernel
theorem d_M_black_150 : decode b_M_black 150 = .ok (.iaload, 1) := by decide +kernel
theorem d_M_black_151 : decode b_M_black 151 = .ok (.iastore, 1) := by decide +kernel
theorem d_M_black_152 : decode b_M_black 152 = .ok (.iinc 4 (-1), 3) := by decide +kernel
theorem d_M_black_155 : decode b_M_black 155 = .ok (.goto (-40), 3) := by decide +kernel
theorem d_M_black_158 : decode b_M_black 158 = .ok (.aload_n 0, 1) := by decide +kernel
theorem d_M_black_159 : decode b_M_black 159 = .ok (.getfield 74, 3) := by decide +kernel
theorem d_M_black_162 : decode b_M_black 162 = .ok (.iload_n 3, 1) := by decide +kernel
theorem d_M_black_163 : decode b_M_black 163 = .ok (.iaload, 1) := by decide +kernel
theorem d_M_black_164 : decode b_M_black 164 = .ok (.iconst (-1), 1) := by decide +kernel
theorem d_M_black_165 : decode b_M_black 165 = .ok (.if_icmp .ne 18, 3) := by decide +kernel
theorem d_M_black_168 : decode b_M_black 168 = .ok (.aload_n 0, 1) := by decide +kernel
theorem d_M_black_169 : decode b_M_black 169 = .ok (.getfield 74, 3) := by decide +kernel
theorem d_M_black_172 : decode b_M_black 172 = .ok (.iload_n 3, 1) := by decide +kernel
theorem d_M_black_173 : decode b_M_black 173 = .ok (.aload_n 0, 1) := by decide +kernel
theorem d_M_black_174 : decode b_M_black 174 = .ok (.getfield 83, 3) := by decide +kernel
theorem d_M_black_177 : decode b_M_black 177 = .ok (.iload_n 2, 1) := by decide +kernel
theorem d_M_black_178 : decode b_M_black 178 = .ok (.iadd, 1) := by decide +kernel
theorem d_M_black_179 : decode b_M_black 179 = .ok (.iastore, 1) := by decide +kernel
theorem d_M_black_180 : decode b_M_black 180 = .ok (.iinc 2 1, 3) := by decide +kernel
theorem d_M_black_183 : decode b_M_black 183 = .ok (.iinc 3 1, 3) := by decide +kernel
theorem d_M_black_186 : decode b_M_black 186 = .ok (.goto (-99), 3) := by decide +kernel
theorem d_M_black_189 : decode b_M_black 189 = .ok (.aload_n 0, 1) := by decide +kernel
theorem d_M_black_190 : decode b_M_black 190 = .ok (.aload_n 0, 1) := by decide +kernel
theorem d_M_black_191 : decode b_M_black 191 = .ok (.getfield 83, 3) := by decide +kernel
theorem d_M_black_194 : decode b_M_black 194 = .ok (.iload_n 2, 1) := by decide +kernel
theorem d_M_black_195 : decode b_M_black 195 = .ok (.iadd, 1) := by decide +kernel
theorem d_M_black_196 : decode b_M_black 196 = .ok (.bipush 20, 2) := by decide +kernel
theorem d_M_black_198 : decode b_M_black 198 = .ok (.if_icmp .le 7, 3) := by decide +kernel
theorem d_M_black_201 : decode b_M_black 201 = .ok (.iconst 1, 1) := by decide +kernel
theorem d_M_black_202 : decode b_M_black 202 = .ok (.goto 4, 3) := by decide +kernel
theorem d_M_black_205 : decode b_M_black 205 = .ok (.iconst 0, 1) := by decide +kernel
theorem d_M_black_206 : decode b_M_black 206 = .ok (.putfield 87, 3) := by decide +kernel
theorem d_M_black_209 : decode b_M_black 209 = .ok (.aload_n 0, 1) := by decide +kernel
theorem d_M_black_210 : decode b_M_black 210 = .ok (.getfield 87, 3) := by decide +kernel
theorem d_M_black_213 : decode b_M_black 213 = .ok (.ifCond .le 5, 3) := by decide +kernel
theorem d_M_black_216 : decode b_M_black 216 = .ok (.iconst 0, 1) := by decide +kernel
theorem d_M_black_217 : decode b_M_black 217 = .ok (.ireturn, 1) := by decide +kernel
theorem d_M_black_218 : decode b_M_black 218 = .ok (.iconst 0, 1) := by decide +kernel
theorem d_M_black_219 : decode b_M_black 219 = .ok (.istore_n 3, 1) := by decide +kernel
theorem d_M_black_220 : decode b_M_black 220 = .ok (.iload_n 3, 1) := by decide +kernel
theorem d_M_black_221 : decode b_M_black 221 = .ok (.iconst 4, 1) := by decide +kernel
theorem d_M_black_222 : decode b_M_black 222 = .ok (.if_icmp .ge 19, 3) := by decide +kernel
theorem d_M_black_225 : decode b_M_black 225 = .ok (.aload_n 0, 1) := by decide +kernel
theorem d_M_black_226 : decode b_M_black 226 = .ok (.iload_n 3, 1) := by decide +kernel
theorem d_M_black_227 : decode b_M_black 227 = .ok (.iload_n 3, 1) := by decide +kernel
theorem d_M_black_228 : decode b_M_black 228 = .ok (.bipush 40, 2) := by decide +kernel
theorem d_M_black_230 : decode b_M_black 230 = .ok (.iload_n 3, 1) := by decide +kernel
theorem d_M_black_231 : decode b_M_black 231 = .ok (.imul, 1) := by decide +kernel
theorem d_M_black_232 : decode b_M_black 232 = .ok (.invokevirtual 159, 3) := by decide +kernel
theorem d_M_black_235 : decode b_M_black 235 = .ok (.iinc 3 1, 3) := by decide +kernel
theorem d_M_black_238 : decode b_M_black 238 = .ok (.goto (-18), 3) := by decide +kernel
theorem d_M_black_241 : decode b_M_black 241 = .ok (.iconst 0, 1) := by decide +kernel
theorem d_M_black_242 : decode b_M_black 242 = .ok (.istore_n 3, 1) := by decide +kernel
theorem d_M_black_243 : decode b_M_black 243 = .ok (.iload_n 3, 1) := by decide +kernel
theorem d_M_black_244 : decode b_M_black 244 = .ok (.aload_n 0, 1) := by decide +kernel
theorem d_M_black_245 : decode b_M_black 245 = .ok (.getfield 102, 3) := by decide +kernel
theorem d_M_black_248 : decode b_M_black 248 = .ok (.if_icmp .ge 43, 3) := by decide +kernel
theorem d_M_black_251 : decode b_M_black 251 = .ok (.aload_n 0, 1) := by decide +kernel
theorem d_M_black_252 : decode b_M_black 252 = .ok (.getfield 74, 3) := by decide +kernel
theorem d_M_black_255 : decode b_M_black 255 = .ok (.iload_n 3, 1) := by decide +kernel
theorem d_M_black_256 : decode b_M_black 256 = .ok (.iaload, 1) := by decide +kernel
theorem d_M_black_257 : decode b_M_black 257 = .ok (.iconst (-1), 1) := by decide +kernel
theorem d_M_black_258 : decode b_M_black 258 = .ok (.if_icmp .eq 27, 3) := by decide +kernel
theorem d_M_black_261 : decode b_M_black 261 = .ok (.aload_n 0, 1) := by decide +kernel
theorem d_M_black_262 : decode b_M_black 262 = .ok (.iconst 4, 1) := by decide +kernel
theorem d_M_black_263 : decode b_M_black 263 = .ok (.aload_n 0, 1) := by decide +kernel
theorem d_M_black_264 : decode b_M_black 264 = .ok (.getfield 28, 3) := by decide +kernel
theorem d_M_black_267 : decode b_M_black 267 = .ok (.iload_n 3, 1) := by decide +kernel
theorem d_M_black_268 : decode b_M_black 268 = .ok (.iaload, 1) := by decide +kernel
theorem d_M_black_269 : decode b_M_black 269 = .ok (.iadd, 1) := by decide +kernel
theorem d_M_black_270 : decode b_M_black 270 = .ok (.iconst 4, 1) := by decide +kernel
theorem d_M_black_271 : decode b_M_black 271 = .ok (.aload_n 0, 1) := by decide +kernel
theorem d_M_black_272 : decode b_M_black 272 = .ok (.getfield 74, 3) := by decide +kernel
theorem d_M_black_275 : decode b_M_black 275 = .ok (.iload_n 3, 1) := by decide +kernel
theorem d_M_black_276 : decode b_M_black 276 = .ok (.iaload, 1) := by decide +kernel
theorem d_M_black_277 : decode b_M_black 277 = .ok (.iadd, 1) := by decide +kernel
theorem d_M_black_278 : decode b_M_black 278 = .ok (.iload_n 3, 1) := by decide +kernel
theorem d_M_black_279 : decode b_M_black 279 = .ok (.invokestatic 136, 3) := by decide +kernel
theorem d_M_black_282 : decode b_M_black 282 = .ok (.invokevirtual 159, 3) := by decide +kernel
theorem d_M_black_285 : decode b_M_black 285 = .ok (.iinc 3 1, 3) := by decide +kernel
theorem d_M_black_288 : decode b_M_black 288 = .ok (.goto (-45), 3) := by decide +kernel
theorem d_M_black_291 : decode b_M_black 291 = .ok (.iconst 0, 1) := by decide +kernel
theorem d_M_black_292 : decode b_M_black 292 = .ok (.istore_n 3, 1) := by decide +kernel
theorem d_M_black_293 : decode b_M_black 293 = .ok (.iload_n 3, 1) := by decide +kernel
theorem d_M_black_294 : decode b_M_black 294 = .ok (.aload_n 0, 1) := by decide +kernel
theorem d_M_black_295 : decode b_M_black 295 = .ok (.getfield 102, 3) := by decide +kernel
theorem d_M_black_298 : decode b_M_black 298 = .ok (.if_icmp .ge 40, 3) := by decide +kernel
theorem d_M_black_301 : decode b_M_black 301 = .ok (.aload_n 0, 1) := by decide +kernel
theorem d_M_black_302 : decode b_M_black 302 = .ok (.getfield 28, 3) := by decide +kernel
theorem d_M_black_305 : decode b_M_black 305 = .ok (.iload_n 3, 1) := by decide +kernel
theorem d_M_black_306 : decode b_M_black 306 = .ok (.aload_n 0, 1) := by decide +kernel
theorem d_M_black_307 : decode b_M_black 307 = .ok (.getfield 74, 3) := by decide +kernel
theorem d_M_black_310 : decode b_M_black 310 = .ok (.iload_n 3, 1) := by decide +kernel
theorem d_M_black_311 : decode b_M_black 311 = .ok (.iaload, 1) := by decide +kernel
theorem d_M_black_312 : decode b_M_black 312 = .ok (.iconst (-1), 1) := by decide +kernel
theorem d_M_black_313 : decode b_M_black 313 = .ok (.if_icmp .eq 12, 3) := by decide +kernel
theorem d_M_black_316 : decode b_M_black 316 = .ok (.aload_n 0, 1) := by decide +kernel
theorem d_M_black_317 : decode b_M_black 317 = .ok (.getfield 74, 3) := by decide +kernel
theorem d_M_black_320 : decode b_M_black 320 = .ok (.iload_n 3, 1) := by decide +kernel
theorem d_M_black_321 : decode b_M_black 321 = .ok (.iaload, 1) := by decide +kernel
theorem d_M_black_322 : decode b_M_black 322 = .ok (.goto 9, 3) := by decide +kernel
theorem d_M_black_325 : decode b_M_black 325 = .ok (.aload_n 0, 1) := by decide +kernel
theorem d_M_black_326 : decode b_M_black 326 = .ok (.getfield 28, 3) := by decide +kernel
theorem d_M_black_329 : decode b_M_black 329 = .ok (.iload_n 3, 1) := by decide +kernel
theorem d_M_black_330 : decode b_M_black 330 = .ok (.iaload, 1) := by decide +kernel
theorem d_M_black_331 : decode b_M_black 331 = .ok (.iastore, 1) := by decide +kernel
theorem d_M_black_332 : decode b_M_black 332 = .ok (.iinc 3 1, 3) := by decide +kernel
theorem d_M_black_335 : decode b_M_black 335 = .ok (.goto (-42), 3) := by decide +kernel
theorem d_M_black_338 : decode b_M_black 338 = .ok (.aload_n 0, 1) := by decide +kernel
theorem d_M_black_339 : decode b_M_black 339 = .ok (.aload_n 0, 1) := by decide +kernel
theorem d_M_black_340 : decode b_M_black 340 = .ok (.getfield 83, 3) := by decide +kernel
theorem d_M_black_343 : decode b_M_black 343 = .ok (.iload_n 2, 1) := by decide +kernel
theorem d_M_black_344 : decode b_M_black 344 = .ok (.iadd, 1) := by decide +kernel
theorem d_M_black_345 : decode b_M_black 345 = .ok (.putfield 83, 3) := by decide +kernel
theorem d_M_black_348 : decode b_M_black 348 = .ok (.iconst 0, 1) := by decide +kernel
theorem d_M_black_349 : decode b_M_black 349 = .ok (.istore_n 3, 1) := by decide +kernel
theorem d_M_black_350 : decode b_M_black 350 = .ok (.iload_n 3, 1) := by decide +kernel
theorem d_M_black_351 : decode b_M_black 351 = .ok (.aload_n 0, 1) := by decide +kernel
theorem d_M_black_352 : decode b_M_black 352 = .ok (.getfield 111, 3) := by decide +kernel
theorem d_M_black_355 : decode b_M_black 355 = .ok (.if_icmp .ge 17, 3) := by decide +kernel
theorem d_M_black_358 : decode b_M_black 358 = .ok (.iload_n 1, 1) := by decide +kernel
theorem d_M_black_359 : decode b_M_black 359 = .ok (.aload_n 0, 1) := by decide +kernel
theorem d_M_black_360 : decode b_M_black 360 = .ok (.iload_n 3, 1) := by decide +kernel
theorem d_M_black_361 : decode b_M_black 361 = .ok (.invokevirtual 163, 3) := by decide +kernel
theorem d_M_black_364 : decode b_M_black 364 = .ok (.iadd, 1) := by decide +kernel
theorem d_M_black_365 : decode b_M_black 365 = .ok (.istore_n 1, 1) := by decide +kernel
theorem d_M_black_366 : decode b_M_black 366 = .ok (.iinc 3 1, 3) := by decide +kernel
theorem d_M_black_369 : decode b_M_black 369 = .ok (.goto (-19), 3) := by decide +kernel
theorem d_M_black_372 : decode b_M_black 372 = .ok (.iload_n 1, 1) := by decide +kernel
theorem d_M_black_373 : decode b_M_black 373 = .ok (.ireturn, 1) := by decide +kernel
abbrev b_M_mark : ByteArray := prog_11_method_21_code
def y_M_mark : MethodName := ⟨"RedactCheckModel", "mark", "(IIIII)I"⟩
theorem d_M_mark_0 : decode b_M_mark 0 = .ok (.aload_n 0, 1) := by decide +kernel
theorem d_M_mark_1 : decode b_M_mark 1 = .ok (.iload_n 1, 1) := by decide +kernel
theorem d_M_mark_2 : decode b_M_mark 2 = .ok (.invokevirtual 125, 3) := by decide +kernel
theorem d_M_mark_5 : decode b_M_mark 5 = .ok (.aload_n 0, 1) := by decide +kernel
theorem d_M_mark_6 : decode b_M_mark 6 = .ok (.invokevirtual 129, 3) := by decide +kernel
theorem d_M_mark_9 : decode b_M_mark 9 = .ok (.iconst 0, 1) := by decide +kernel
theorem d_M_mark_10 : decode b_M_mark 10 = .ok (.istore 6, 2) := by decide +kernel
theorem d_M_mark_12 : decode b_M_mark 12 = .ok (.iconst 0, 1) := by decide +kernel
theorem d_M_mark_13 : decode b_M_mark 13 = .ok (.istore 7, 2) := by decide +kernel
theorem d_M_mark_15 : decode b_M_mark 15 = .ok (.iload 7, 2) := by decide +kernel
theorem d_M_mark_17 : decode b_M_mark 17 = .ok (.bipush 40, 2) := by decide +kernel
theorem d_M_mark_19 : decode b_M_mark 19 = .ok (.if_icmp .ge 95, 3) := by decide +kernel
theorem d_M_mark_22 : decode b_M_mark 22 = .ok (.aload_n 0, 1) := by decide +kernel
theorem d_M_mark_23 : decode b_M_mark 23 = .ok (.getfield 70, 3) := by decide +kernel
theorem d_M_mark_26 : decode b_M_mark 26 = .ok (.iload 5, 2) := by decide +kernel
theorem d_M_mark_28 : decode b_M_mark 28 = .ok (.iload 7, 2) := by decide +kernel
theorem d_M_mark_30 : decode b_M_mark 30 = .ok (.iadd, 1) := by decide +kernel
theorem d_M_mark_31 : decode b_M_mark 31 = .ok (.iload 7, 2) := by decide +kernel
theorem d_M_mark_33 : decode b_M_mark 33 = .ok (.aload_n 0, 1) := by decide +kernel
theorem d_M_mark_34 : decode b_M_mark 34 = .ok (.getfield 114, 3) := by decide +kernel
theorem d_M_mark_37 : decode b_M_mark 37 = .ok (.if_icmp .ge 45, 3) := by decide +kernel
theorem d_M_mark_40 : decode b_M_mark 40 = .ok (.aload_n 0, 1) := by decide +kernel
theorem d_M_mark_41 : decode b_M_mark 41 = .ok (.getfield 77, 3) := by decide +kernel
theorem d_M_mark_44 : decode b_M_mark 44 = .ok (.iload 7, 2) := by decide +kernel
theorem d_M_mark_46 : decode b_M_mark 46 = .ok (.iaload, 1) := by decide +kernel
theorem d_M_mark_47 : decode b_M_mark 47 = .ok (.ifCond .eq 35, 3) := by decide +kernel
theorem d_M_mark_50 : decode b_M_mark 50 = .ok (.aload_n 0, 1) := by decide +kernel
theorem d_M_mark_51 : decode b_M_mark 51 = .ok (.getfield 80, 3) := by decide +kernel
theorem d_M_mark_54 : decode b_M_mark 54 = .ok (.iload 7, 2) := by decide +kernel
theorem d_M_mark_56 : decode b_M_mark 56 = .ok (.baload, 1) := by decide +kernel
theorem d_M_mark_57 : decode b_M_mark 57 = .ok (.ifCond .ne 21, 3) := by decide +kernel
theorem d_M_mark_60 : decode b_M_mark 60 = .ok (.aload_n 0, 1) := by decide +kernel
theorem d_M_mark_61 : decode b_M_mark 61 = .ok (.bipush 40, 2) := by decide +kernel
theorem d_M_mark_63 : decode b_M_mark 63 = .ok (.iload_n 1, 1) := by decide +kernel
theorem d_M_mark_64 : decode b_M_mark 64 = .ok (.imul, 1) := by decide +kernel
theorem d_M_mark_65 : decode b_M_mark 65 = .ok (.iload 7, 2) := by decide +kernel
theorem d_M_mark_67 : decode b_M_mark 67 = .ok (.iadd, 1) := by decide +kernel
theorem d_M_mark_68 : decode b_M_mark 68 = .ok (.iload_n 2, 1) := by decide +kernel
theorem d_M_mark_69 : decode b_M_mark 69 = .ok (.iload_n 3, 1) := by decide +kernel
theorem d_M_mark_70 : decode b_M_mark 70 = .ok (.iload 4, 2) := by decide +kernel
theorem d_M_mark_72 : decode b_M_mark 72 = .ok (.invokevirtual 132, 3) := by decide +kernel
theorem d_M_mark_75 : decode b_M_mark 75 = .ok (.ifCond .eq 7, 3) := by decide +kernel
theorem d_M_mark_78 : decode b_M_mark 78 = .ok (.iconst 1, 1) := by decide +kernel
theorem d_M_mark_79 : decode b_M_mark 79 = .ok (.goto 4, 3) := by decide +kernel
theorem d_M_mark_82 : decode b_M_mark 82 = .ok (.iconst 0, 1) := by decide +kernel
theorem d_M_mark_83 : decode b_M_mark 83 = .ok (.bastore, 1) := by decide +kernel
theorem d_M_mark_84 : decode b_M_mark 84 = .ok (.aload_n 0, 1) := by decide +kernel
theorem d_M_mark_85 : decode b_M_mark 85 = .ok (.getfield 70, 3) := by decide +kernel
theorem d_M_mark_88 : decode b_M_mark 88 = .ok (.iload 5, 2) := by decide +kernel
theorem d_M_mark_90 : decode b_M_mark 90 = .ok (.iload 7, 2) := by decide +kernel
theorem d_M_mark_92 : decode b_M_mark 92 = .ok (.iadd, 1) := by decide +kernel
theorem d_M_mark_93 : decode b_M_mark 93 = .ok (.baload, 1) := by decide +kernel
theorem d_M_mark_94 : decode b_M_mark 94 = .ok (.ifCond .eq 10, 3) := by decide +kernel
theorem d_M_mark_97 : decode b_M_mark 97 = .ok (.iload 6, 2) := by decide +kernel
theorem d_M_mark_99 : decode b_M_mark 99 = .ok (.iconst 1, 1) := by decide +kernel
theorem d_M_mark_100 : decode b_M_mark 100 = .ok (.iadd, 1) := by decide +kernel
theorem d_M_mark_101 : decode b_M_mark 101 = .ok (.goto 5, 3) := by decide +kernel
theorem d_M_mark_104 : decode b_M_mark 104 = .ok (.iload 6, 2) := by decide +kernel
theorem d_M_mark_106 : decode b_M_mark 106 = .ok (.istore 6, 2) := by decide +kernel
theorem d_M_mark_108 : decode b_M_mark 108 = .ok (.iinc 7 1, 3) := by decide +kernel
theorem d_M_mark_111 : decode b_M_mark 111 = .ok (.goto (-96), 3) := by decide +kernel
theorem d_M_mark_114 : decode b_M_mark 114 = .ok (.iload 6, 2) := by decide +kernel
theorem d_M_mark_116 : decode b_M_mark 116 = .ok (.ireturn, 1) := by decide +kernel
abbrev b_M_takeRow : ByteArray := prog_11_method_17_code
def y_M_takeRow : MethodName := ⟨"RedactCheckModel", "takeRow", "(I)V"⟩
theorem d_M_takeRow_0 : decode b_M_takeRow 0 = .ok (.aload_n 0, 1) := by decide +kernel
theorem d_M_takeRow_1 : decode b_M_takeRow 1 = .ok (.aload_n 0, 1) := by decide +kernel
theorem d_M_takeRow_2 : decode b_M_takeRow 2 = .ok (.getfield 7, 3) := by decide +kernel
theorem d_M_takeRow_5 : decode b_M_takeRow 5 = .ok (.iload_n 1, 1) := by decide +kernel
theorem d_M_takeRow_6 : decode b_M_takeRow 6 = .ok (.iaload, 1) := by decide +kernel
theorem d_M_takeRow_7 : decode b_M_takeRow 7 = .ok (.putfield 114, 3) := by decide +kernel
theorem d_M_takeRow_10 : decode b_M_takeRow 10 = .ok (.iconst 0, 1) := by decide +kernel
theorem d_M_takeRow_11 : decode b_M_takeRow 11 = .ok (.istore_n 2, 1) := by decide +kernel
theorem d_M_takeRow_12 : decode b_M_takeRow 12 = .ok (.iload_n 2, 1) := by decide +kernel
theorem d_M_takeRow_13 : decode b_M_takeRow 13 = .ok (.aload_n 0, 1) := by decide +kernel
theorem d_M_takeRow_14 : decode b_M_takeRow 14 = .ok (.getfield 114, 3) := by decide +kernel
theorem d_M_takeRow_17 : decode b_M_takeRow 17 = .ok (.if_icmp .ge 26, 3) := by decide +kernel
theorem d_M_takeRow_20 : decode b_M_takeRow 20 = .ok (.aload_n 0, 1) := by decide +kernel
theorem d_M_takeRow_21 : decode b_M_takeRow 21 = .ok (.getfield 77, 3) := by decide +kernel
theorem d_M_takeRow_24 : decode b_M_takeRow 24 = .ok (.iload_n 2, 1) := by decide +kernel
theorem d_M_takeRow_25 : decode b_M_takeRow 25 = .ok (.aload_n 0, 1) := by decide +kernel
theorem d_M_takeRow_26 : decode b_M_takeRow 26 = .ok (.getfield 13, 3) := by decide +kernel
theorem d_M_takeRow_29 : decode b_M_takeRow 29 = .ok (.bipush 40, 2) := by decide +kernel
theorem d_M_takeRow_31 : decode b_M_takeRow 31 = .ok (.iload_n 1, 1) := by decide +kernel
theorem d_M_takeRow_32 : decode b_M_takeRow 32 = .ok (.imul, 1) := by decide +kernel
theorem d_M_takeRow_33 : decode b_M_takeRow 33 = .ok (.iload_n 2, 1) := by decide +kernel
theorem d_M_takeRow_34 : decode b_M_takeRow 34 = .ok (.iadd, 1) := by decide +kernel
theorem d_M_takeRow_35 : decode b_M_takeRow 35 = .ok (.iaload, 1) := by decide +kernel
theorem d_M_takeRow_36 : decode b_M_takeRow 36 = .ok (.iastore, 1) := by decide +kernel
theorem d_M_takeRow_37 : decode b_M_takeRow 37 = .ok (.iinc 2 1, 3) := by decide +kernel
theorem d_M_takeRow_40 : decode b_M_takeRow 40 = .ok (.goto (-28), 3) := by decide +kernel
theorem d_M_takeRow_43 : decode b_M_takeRow 43 = .ok (.return_, 1) := by decide +kernel
abbrev b_M_findWords : ByteArray := prog_11_method_16_code
def y_M_findWords : MethodName := ⟨"RedactCheckModel", "findWords", "()V"⟩
theorem d_M_findWords_0 : decode b_M_findWords 0 = .ok (.iconst 0, 1) := by decide +kernel
theorem d_M_findWords_1 : decode b_M_findWords 1 = .ok (.istore_n 1, 1) := by decide +kernel
theorem d_M_findWords_2 : decode b_M_findWords 2 = .ok (.iload_n 1, 1) := by decide +kernel
theorem d_M_findWords_3 : decode b_M_findWords 3 = .ok (.aload_n 0, 1) := by decide +kernel
theorem d_M_findWords_4 : decode b_M_findWords 4 = .ok (.getfield 114, 3) := by decide +kernel
theorem d_M_findWords_7 : decode b_M_findWords 7 = .ok (.if_icmp .ge 16, 3) := by decide +kernel
theorem d_M_findWords_10 : decode b_M_findWords 10 = .ok (.aload_n 0, 1) := by decide +kernel
theorem d_M_findWords_11 : decode b_M_findWords 11 = .ok (.getfield 80, 3) := by decide +kernel
theorem d_M_findWords_14 : decode b_M_findWords 14 = .ok (.iload_n 1, 1) := by decide +kernel
theorem d_M_findWords_15 : decode b_M_findWords 15 = .ok (.iconst 0, 1) := by decide +kernel
theorem d_M_findWords_16 : decode b_M_findWords 16 = .ok (.bastore, 1) := by decide +kernel
theorem d_M_findWords_17 : decode b_M_findWords 17 = .ok (.iinc 1 1, 3) := by decide +kernel
theorem d_M_findWords_20 : decode b_M_findWords 20 = .ok (.goto (-18), 3) := by decide +kernel
theorem d_M_findWords_23 : decode b_M_findWords 23 = .ok (.iconst 0, 1) := by decide +kernel
theorem d_M_findWords_24 : decode b_M_findWords 24 = .ok (.istore_n 1, 1) := by decide +kernel
theorem d_M_findWords_25 : decode b_M_findWords 25 = .ok (.iload_n 1, 1) := by decide +kernel
theorem d_M_findWords_26 : decode b_M_findWords 26 = .ok (.aload_n 0, 1) := by decide +kernel
theorem d_M_findWords_27 : decode b_M_findWords 27 = .ok (.getfield 105, 3) := by decide +kernel
theorem d_M_findWords_30 : decode b_M_findWords 30 = .ok (.if_icmp .ge 61, 3) := by decide +kernel
theorem d_M_findWords_33 : decode b_M_findWords 33 = .ok (.iconst 0, 1) := by decide +kernel
theorem d_M_findWords_34 : decode b_M_findWords 34 = .ok (.istore_n 2, 1) := by decide +kernel
theorem d_M_findWords_35 : decode b_M_findWords 35 = .ok (.iload_n 2, 1) := by decide +kernel
theorem d_M_findWords_36 : decode b_M_findWords 36 = .ok (.aload_n 0, 1) := by decide +kernel
theorem d_M_findWords_37 : decode b_M_findWords 37 = .ok (.getfield 114, 3) := by decide +kernel
theorem d_M_findWords_40 : decode b_M_findWords 40 = .ok (.if_icmp .ge 45, 3) := by decide +kernel
theorem d_M_findWords_43 : decode b_M_findWords 43 = .ok (.iconst 0, 1) := by decide +kernel
theorem d_M_findWords_44 : decode b_M_findWords 44 = .ok (.istore_n 3, 1) := by decide +kernel
theorem d_M_findWords_45 : decode b_M_findWords 45 = .ok (.iload_n 3, 1) := by decide +kernel
theorem d_M_findWords_46 : decode b_M_findWords 46 = .ok (.aload_n 0, 1) := by decide +kernel
theorem d_M_findWords_47 : decode b_M_findWords 47 = .ok (.getfield 37, 3) := by decide +kernel
theorem d_M_findWords_50 : decode b_M_findWords 50 = .ok (.iload_n 1, 1) := by decide +kernel
theorem d_M_findWords_51 : decode b_M_findWords 51 = .ok (.iaload, 1) := by decide +kernel
theorem d_M_findWords_52 : decode b_M_findWords 52 = .ok (.if_icmp .ge 27, 3) := by decide +kernel
theorem d_M_findWords_55 : decode b_M_findWords 55 = .ok (.aload_n 0, 1) := by decide +kernel
theorem d_M_findWords_56 : decode b_M_findWords 56 = .ok (.iload_n 1, 1) := by decide +kernel
theorem d_M_findWords_57 : decode b_M_findWords 57 = .ok (.iload_n 2, 1) := by decide +kernel
theorem d_M_findWords_58 : decode b_M_findWords 58 = .ok (.invokevirtual 117, 3) := by decide +kernel
theorem d_M_findWords_61 : decode b_M_findWords 61 = .ok (.ifCond .eq 18, 3) := by decide +kernel
theorem d_M_findWords_64 : decode b_M_findWords 64 = .ok (.aload_n 0, 1) := by decide +kernel
theorem d_M_findWords_65 : decode b_M_findWords 65 = .ok (.getfield 80, 3) := by decide +kernel
theorem d_M_findWords_68 : decode b_M_findWords 68 = .ok (.iload_n 2, 1) := by decide +kernel
theorem d_M_findWords_69 : decode b_M_findWords 69 = .ok (.iload_n 3, 1) := by decide +kernel
theorem d_M_findWords_70 : decode b_M_findWords 70 = .ok (.iadd, 1) := by decide +kernel
theorem d_M_findWords_71 : decode b_M_findWords 71 = .ok (.iconst 1, 1) := by decide +kernel
theorem d_M_findWords_72 : decode b_M_findWords 72 = .ok (.bastore, 1) := by decide +kernel
theorem d_M_findWords_73 : decode b_M_findWords 73 = .ok (.iinc 3 1, 3) := by decide +kernel
theorem d_M_findWords_76 : decode b_M_findWords 76 = .ok (.goto (-31), 3) := by decide +kernel
theorem d_M_findWords_79 : decode b_M_findWords 79 = .ok (.iinc 2 1, 3) := by decide +kernel
theorem d_M_findWords_82 : decode b_M_findWords 82 = .ok (.goto (-47), 3) := by decide +kernel
theorem d_M_findWords_85 : decode b_M_findWords 85 = .ok (.iinc 1 1, 3) := by decide +kernel
theorem d_M_findWords_88 : decode b_M_findWords 88 = .ok (.goto (-63), 3) := by decide +kernel
theorem d_M_findWords_91 : decode b_M_findWords 91 = .ok (.return_, 1) := by decide +kernel
abbrev b_M_stands : ByteArray := prog_11_method_15_code
def y_M_stands : MethodName := ⟨"RedactCheckModel", "stands", "(II)Z"⟩
theorem d_M_stands_0 : decode b_M_stands 0 = .ok (.aload_n 0, 1) := by decide +kernel
theorem d_M_stands_1 : decode b_M_stands 1 = .ok (.getfield 37, 3) := by decide +kernel
theorem d_M_stands_4 : decode b_M_stands 4 = .ok (.iload_n 1, 1) := by decide +kernel
theorem d_M_stands_5 : decode b_M_stands 5 = .ok (.iaload, 1) := by decide +kernel
theorem d_M_stands_6 : decode b_M_stands 6 = .ok (.istore_n 3, 1) := by decide +kernel
theorem d_M_stands_7 : decode b_M_stands 7 = .ok (.iload_n 3, 1) := by decide +kernel
theorem d_M_stands_8 : decode b_M_stands 8 = .ok (.ifCond .le 17, 3) := by decide +kernel
theorem d_M_stands_11 : decode b_M_stands 11 = .ok (.iload_n 2, 1) := by decide +kernel
theorem d_M_stands_12 : decode b_M_stands 12 = .ok (.iload_n 3, 1) := by decide +kernel
theorem d_M_stands_13 : decode b_M_stands 13 = .ok (.iadd, 1) := by decide +kernel
theorem d_M_stands_14 : decode b_M_stands 14 = .ok (.aload_n 0, 1) := by decide +kernel
theorem d_M_stands_15 : decode b_M_stands 15 = .ok (.getfield 114, 3) := by decide +kernel
theorem d_M_stands_18 : decode b_M_stands 18 = .ok (.if_icmp .gt 7, 3) := by decide +kernel
theorem d_M_stands_21 : decode b_M_stands 21 = .ok (.iconst 1, 1) := by decide +kernel
theorem d_M_stands_22 : decode b_M_stands 22 = .ok (.goto 4, 3) := by decide +kernel
theorem d_M_stands_25 : decode b_M_stands 25 = .ok (.iconst 0, 1) := by decide +kernel
theorem d_M_stands_26 : decode b_M_stands 26 = .ok (.istore 4, 2) := by decide +kernel
theorem d_M_stands_28 : decode b_M_stands 28 = .ok (.iconst 0, 1) := by decide +kernel
theorem d_M_stands_29 : decode b_M_stands 29 = .ok (.istore 5, 2) := by decide +kernel
theorem d_M_stands_31 : decode b_M_stands 31 = .ok (.iload 4, 2) := by decide +kernel
theorem d_M_stands_33 : decode b_M_stands 33 = .ok (.ifCond .eq 46, 3) := by decide +kernel
theorem d_M_stands_36 : decode b_M_stands 36 = .ok (.iload 5, 2) := by decide +kernel
theorem d_M_stands_38 : decode b_M_stands 38 = .ok (.iload_n 3, 1) := by decide +kernel
theorem d_M_stands_39 : decode b_M_stands 39 = .ok (.if_icmp .ge 40, 3) := by decide +kernel
theorem d_M_stands_42 : decode b_M_stands 42 = .ok (.aload_n 0, 1) := by decide +kernel
theorem d_M_stands_43 : decode b_M_stands 43 = .ok (.getfield 77, 3) := by decide +kernel
theorem d_M_stands_46 : decode b_M_stands 46 = .ok (.iload_n 2, 1) := by decide +kernel
theorem d_M_stands_47 : decode b_M_stands 47 = .ok (.iload 5, 2) := by decide +kernel
theorem d_M_stands_49 : decode b_M_stands 49 = .ok (.iadd, 1) := by decide +kernel
theorem d_M_stands_50 : decode b_M_stands 50 = .ok (.iaload, 1) := by decide +kernel
theorem d_M_stands_51 : decode b_M_stands 51 = .ok (.aload_n 0, 1) := by decide +kernel
theorem d_M_stands_52 : decode b_M_stands 52 = .ok (.getfield 40, 3) := by decide +kernel
theorem d_M_stands_55 : decode b_M_stands 55 = .ok (.bipush 8, 2) := by decide +kernel
theorem d_M_stands_57 : decode b_M_stands 57 = .ok (.iload_n 1, 1) := by decide +kernel
theorem d_M_stands_58 : decode b_M_stands 58 = .ok (.imul, 1) := by decide +kernel
theorem d_M_stands_59 : decode b_M_stands 59 = .ok (.iload 5, 2) := by decide +kernel
theorem d_M_stands_61 : decode b_M_stands 61 = .ok (.iadd, 1) := by decide +kernel
theorem d_M_stands_62 : decode b_M_stands 62 = .ok (.iaload, 1) := by decide +kernel
theorem d_M_stands_63 : decode b_M_stands 63 = .ok (.if_icmp .ne 7, 3) := by decide +kernel
theorem d_M_stands_66 : decode b_M_stands 66 = .ok (.iconst 1, 1) := by decide +kernel
theorem d_M_stands_67 : decode b_M_stands 67 = .ok (.goto 4, 3) := by decide +kernel
theorem d_M_stands_70 : decode b_M_stands 70 = .ok (.iconst 0, 1) := by decide +kernel
theorem d_M_stands_71 : decode b_M_stands 71 = .ok (.istore 4, 2) := by decide +kernel
theorem d_M_stands_73 : decode b_M_stands 73 = .ok (.iinc 5 1, 3) := by decide +kernel
theorem d_M_stands_76 : decode b_M_stands 76 = .ok (.goto (-45), 3) := by decide +kernel
theorem d_M_stands_79 : decode b_M_stands 79 = .ok (.iload 4, 2) := by decide +kernel
theorem d_M_stands_81 : decode b_M_stands 81 = .ok (.ireturn, 1) := by decide +kernel
abbrev b_M_meets : ByteArray := prog_11_method_20_code
def y_M_meets : MethodName := ⟨"RedactCheckModel", "meets", "(IIII)Z"⟩
theorem d_M_meets_0 : decode b_M_meets 0 = .ok (.aload_n 0, 1) := by decide +kernel
theorem d_M_meets_1 : decode b_M_meets 1 = .ok (.getfield 16, 3) := by decide +kernel
theorem d_M_meets_4 : decode b_M_meets 4 = .ok (.iload_n 1, 1) := by decide +kernel
theorem d_M_meets_5 : decode b_M_meets 5 = .ok (.iaload, 1) := by decide +kernel
theorem d_M_meets_6 : decode b_M_meets 6 = .ok (.iload_n 3, 1) := by decide +kernel
theorem d_M_meets_7 : decode b_M_meets 7 = .ok (.iadd, 1) := by decide +kernel
theorem d_M_meets_8 : decode b_M_meets 8 = .ok (.istore 5, 2) := by decide +kernel
theorem d_M_meets_10 : decode b_M_meets 10 = .ok (.aload_n 0, 1) := by decide +kernel
theorem d_M_meets_11 : decode b_M_meets 11 = .ok (.getfield 19, 3) := by decide +kernel
theorem d_M_meets_14 : decode b_M_meets 14 = .ok (.iload_n 1, 1) := by decide +kernel
theorem d_M_meets_15 : decode b_M_meets 15 = .ok (.iaload, 1) := by decide +kernel
theorem d_M_meets_16 : decode b_M_meets 16 = .ok (.iload 4, 2) := by decide +kernel
theorem d_M_meets_18 : decode b_M_meets 18 = .ok (.iadd, 1) := by decide +kernel
theorem d_M_meets_19 : decode b_M_meets 19 = .ok (.istore 6, 2) := by decide +kernel
theorem d_M_meets_21 : decode b_M_meets 21 = .ok (.iconst 0, 1) := by decide +kernel
theorem d_M_meets_22 : decode b_M_meets 22 = .ok (.istore 7, 2) := by decide +kernel
theorem d_M_meets_24 : decode b_M_meets 24 = .ok (.iconst 0, 1) := by decide +kernel
theorem d_M_meets_25 : decode b_M_meets 25 = .ok (.istore 8, 2) := by decide +kernel
theorem d_M_meets_27 : decode b_M_meets 27 = .ok (.iload 8, 2) := by decide +kernel
theorem d_M_meets_29 : decode b_M_meets 29 = .ok (.aload_n 0, 1) := by decide +kernel
theorem d_M_meets_30 : decode b_M_meets 30 = .ok (.getfield 108, 3) := by decide +kernel
theorem d_M_meets_33 : decode b_M_meets 33 = .ok (.if_icmp .ge 162, 3) := by decide +kernel
theorem d_M_meets_36 : decode b_M_meets 36 = .ok (.aload_n 0, 1) := by decide +kernel
theorem d_M_meets_37 : decode b_M_meets 37 = .ok (.getfield 52, 3) := by decide +kernel
theorem d_M_meets_40 : decode b_M_meets 40 = .ok (.iload 8, 2) := by decide +kernel
theorem d_M_meets_42 : decode b_M_meets 42 = .ok (.iaload, 1) := by decide +kernel
theorem d_M_meets_43 : decode b_M_meets 43 = .ok (.ifCond .le 17, 3) := by decide +kernel
theorem d_M_meets_46 : decode b_M_meets 46 = .ok (.aload_n 0, 1) := by decide +kernel
theorem d_M_meets_47 : decode b_M_meets 47 = .ok (.getfield 55, 3) := by decide +kernel
theorem d_M_meets_50 : decode b_M_meets 50 = .ok (.iload 8, 2) := by decide +kernel
theorem d_M_meets_52 : decode b_M_meets 52 = .ok (.iaload, 1) := by decide +kernel
theorem d_M_meets_53 : decode b_M_meets 53 = .ok (.ifCond .le 7, 3) := by decide +kernel
theorem d_M_meets_56 : decode b_M_meets 56 = .ok (.iconst 1, 1) := by decide +kernel
theorem d_M_meets_57 : decode b_M_meets 57 = .ok (.goto 4, 3) := by decide +kernel
theorem d_M_meets_60 : decode b_M_meets 60 = .ok (.iconst 0, 1) := by decide +kernel
theorem d_M_meets_61 : decode b_M_meets 61 = .ok (.istore 9, 2) := by decide +kernel
theorem d_M_meets_63 : decode b_M_meets 63 = .ok (.iload 5, 2) := by decide +kernel
theorem d_M_meets_65 : decode b_M_meets 65 = .ok (.aload_n 0, 1) := by decide +kernel
theorem d_M_meets_66 : decode b_M_meets 66 = .ok (.getfield 46, 3) := by decide +kernel
theorem d_M_meets_69 : decode b_M_meets 69 = .ok (.iload 8, 2) := by decide +kernel
theorem d_M_meets_71 : decode b_M_meets 71 = .ok (.iaload, 1) := by decide +kernel
theorem d_M_meets_72 : decode b_M_meets 72 = .ok (.aload_n 0, 1) := by decide +kernel
theorem d_M_meets_73 : decode b_M_meets 73 = .ok (.getfield 52, 3) := by decide +kernel
theorem d_M_meets_76 : decode b_M_meets 76 = .ok (.iload 8, 2) := by decide +kernel
theorem d_M_meets_78 : decode b_M_meets 78 = .ok (.iaload, 1) := by decide +kernel
theorem d_M_meets_79 : decode b_M_meets 79 = .ok (.iadd, 1) := by decide +kernel
theorem d_M_meets_80 : decode b_M_meets 80 = .ok (.if_icmp .ge 26, 3) := by decide +kernel
theorem d_M_meets_83 : decode b_M_meets 83 = .ok (.aload_n 0, 1) := by decide +kernel
theorem d_M_meets_84 : decode b_M_meets 84 = .ok (.getfield 46, 3) := by decide +kernel
theorem d_M_meets_87 : decode b_M_meets 87 = .ok (.iload 8, 2) := by decide +kernel
theorem d_M_meets_89 : decode b_M_meets 89 = .ok (.iaload, 1) := by decide +kernel
theorem d_M_meets_90 : decode b_M_meets 90 = .ok (.iload 5, 2) := by decide +kernel
theorem d_M_meets_92 : decode b_M_meets 92 = .ok (.aload_n 0, 1) := by decide +kernel
theorem d_M_meets_93 : decode b_M_meets 93 = .ok (.getfield 22, 3) := by decide +kernel
theorem d_M_meets_96 : decode b_M_meets 96 = .ok (.iload_n 1, 1) := by decide +kernel
theorem d_M_meets_97 : decode b_M_meets 97 = .ok (.iaload, 1) := by decide +kernel
theorem d_M_meets_98 : decode b_M_meets 98 = .ok (.iadd, 1) := by decide +kernel
theorem d_M_meets_99 : decode b_M_meets 99 = .ok (.if_icmp .ge 7, 3) := by decide +kernel
theorem d_M_meets_102 : decode b_M_meets 102 = .ok (.iconst 1, 1) := by decide +kernel
theorem d_M_meets_103 : decode b_M_meets 103 = .ok (.goto 4, 3) := by decide +kernel
theorem d_M_meets_106 : decode b_M_meets 106 = .ok (.iconst 0, 1) := by decide +kernel
theorem d_M_meets_107 : decode b_M_meets 107 = .ok (.istore 10, 2) := by decide +kernel
theorem d_M_meets_109 : decode b_M_meets 109 = .ok (.iload 6, 2) := by decide +kernel
theorem d_M_meets_111 : decode b_M_meets 111 = .ok (.aload_n 0, 1) := by decide +kernel
theorem d_M_meets_112 : decode b_M_meets 112 = .ok (.getfield 49, 3) := by decide +kernel
theorem d_M_meets_115 : decode b_M_meets 115 = .ok (.iload 8, 2) := by decide +kernel
theorem d_M_meets_117 : decode b_M_meets 117 = .ok (.iaload, 1) := by decide +kernel
theorem d_M_meets_118 : decode b_M_meets 118 = .ok (.aload_n 0, 1) := by decide +kernel
theorem d_M_meets_119 : decode b_M_meets 119 = .ok (.getfield 55, 3) := by decide +kernel
theorem d_M_meets_122 : decode b_M_meets 122 = .ok (.iload 8, 2) := by decide +kernel
theorem d_M_meets_124 : decode b_M_meets 124 = .ok (.iaload, 1) := by decide +kernel
theorem d_M_meets_125 : decode b_M_meets 125 = .ok (.iadd, 1) := by decide +kernel
theorem d_M_meets_126 : decode b_M_meets 126 = .ok (.if_icmp .ge 22, 3) := by decide +kernel
theorem d_M_meets_129 : decode b_M_meets 129 = .ok (.aload_n 0, 1) := by decide +kernel
theorem d_M_meets_130 : decode b_M_meets 130 = .ok (.getfield 49, 3) := by decide +kernel
theorem d_M_meets_133 : decode b_M_meets 133 = .ok (.iload 8, 2) := by decide +kernel
theorem d_M_meets_135 : decode b_M_meets 135 = .ok (.iaload, 1) := by decide +kernel
theorem d_M_meets_136 : decode b_M_meets 136 = .ok (.iload 6, 2) := by decide +kernel
theorem d_M_meets_138 : decode b_M_meets 138 = .ok (.bipush 10, 2) := by decide +kernel
theorem d_M_meets_140 : decode b_M_meets 140 = .ok (.iadd, 1) := by decide +kernel
theorem d_M_meets_141 : decode b_M_meets 141 = .ok (.if_icmp .ge 7, 3) := by decide +kernel
theorem d_M_meets_144 : decode b_M_meets 144 = .ok (.iconst 1, 1) := by decide +kernel
theorem d_M_meets_145 : decode b_M_meets 145 = .ok (.goto 4, 3) := by decide +kernel
theorem d_M_meets_148 : decode b_M_meets 148 = .ok (.iconst 0, 1) := by decide +kernel
theorem d_M_meets_149 : decode b_M_meets 149 = .ok (.istore 11, 2) := by decide +kernel
theorem d_M_meets_151 : decode b_M_meets 151 = .ok (.iload 7, 2) := by decide +kernel
theorem d_M_meets_153 : decode b_M_meets 153 = .ok (.ifCond .ne 29, 3) := by decide +kernel
theorem d_M_meets_156 : decode b_M_meets 156 = .ok (.aload_n 0, 1) := by decide +kernel
theorem d_M_meets_157 : decode b_M_meets 157 = .ok (.getfield 43, 3) := by decide +kernel
theorem d_M_meets_160 : decode b_M_meets 160 = .ok (.iload 8, 2) := by decide +kernel
theorem d_M_meets_162 : decode b_M_meets 162 = .ok (.iaload, 1) := by decide +kernel
theorem d_M_meets_163 : decode b_M_meets 163 = .ok (.iload_n 2, 1) := by decide +kernel
theorem d_M_meets_164 : decode b_M_meets 164 = .ok (.if_icmp .ne 22, 3) := by decide +kernel
theorem d_M_meets_167 : decode b_M_meets 167 = .ok (.iload 9, 2) := by decide +kernel
theorem d_M_meets_169 : decode b_M_meets 169 = .ok (.ifCond .eq 17, 3) := by decide +kernel
theorem d_M_meets_172 : decode b_M_meets 172 = .ok (.iload 10, 2) := by decide +kernel
theorem d_M_meets_174 : decode b_M_meets 174 = .ok (.ifCond .eq 12, 3) := by decide +kernel
theorem d_M_meets_177 : decode b_M_meets 177 = .ok (.iload 11, 2) := by decide +kernel
theorem d_M_meets_179 : decode b_M_meets 179 = .ok (.ifCond .eq 7, 3) := by decide +kernel
theorem d_M_meets_182 : decode b_M_meets 182 = .ok (.iconst 1, 1) := by decide +kernel
theorem d_M_meets_183 : decode b_M_meets 183 = .ok (.goto 4, 3) := by decide +kernel
theorem d_M_meets_186 : decode b_M_meets 186 = .ok (.iconst 0, 1) := by decide +kernel
theorem d_M_meets_187 : decode b_M_meets 187 = .ok (.istore 7, 2) := by decide +kernel
theorem d_M_meets_189 : decode b_M_meets 189 = .ok (.iinc 8 1, 3) := by decide +kernel
theorem d_M_meets_192 : decode b_M_meets 192 = .ok (.goto (-165), 3) := by decide +kernel
theorem d_M_meets_195 : decode b_M_meets 195 = .ok (.iload 7, 2) := by decide +kernel
theorem d_M_meets_197 : decode b_M_meets 197 = .ok (.ireturn, 1) := by decide +kernel
abbrev b_M_markPlace : ByteArray := prog_11_method_23_code
def y_M_markPlace : MethodName := ⟨"RedactCheckModel", "markPlace", "(I)I"⟩
theorem d_M_markPlace_0 : decode b_M_markPlace 0 = .ok (.sipush 160, 3) := by decide +kernel
theorem d_M_markPlace_3 : decode b_M_markPlace 3 = .ok (.bipush 40, 2) := by decide +kernel
theorem d_M_markPlace_5 : decode b_M_markPlace 5 = .ok (.iload_n 0, 1) := by decide +kernel
theorem d_M_markPlace_6 : decode b_M_markPlace 6 = .ok (.imul, 1) := by decide +kernel
theorem d_M_markPlace_7 : decode b_M_markPlace 7 = .ok (.iadd, 1) := by decide +kernel
theorem d_M_markPlace_8 : decode b_M_markPlace 8 = .ok (.ireturn, 1) := by decide +kernel
abbrev b_M_hasMark : ByteArray := prog_11_method_25_code
def y_M_hasMark : MethodName := ⟨"RedactCheckModel", "hasMark", "(I)Z"⟩
theorem d_M_hasMark_0 : decode b_M_hasMark 0 = .ok (.iconst 0, 1) := by decide +kernel
theorem d_M_hasMark_1 : decode b_M_hasMark 1 = .ok (.istore_n 2, 1) := by decide +kernel
theorem d_M_hasMark_2 : decode b_M_hasMark 2 = .ok (.iconst 0, 1) := by decide +kernel
theorem d_M_hasMark_3 : decode b_M_hasMark 3 = .ok (.istore_n 3, 1) := by decide +kernel
theorem d_M_hasMark_4 : decode b_M_hasMark 4 = .ok (.iload_n 3, 1) := by decide +kernel
theorem d_M_hasMark_5 : decode b_M_hasMark 5 = .ok (.bipush 40, 2) := by decide +kernel
theorem d_M_hasMark_7 : decode b_M_hasMark 7 = .ok (.if_icmp .ge 33, 3) := by decide +kernel
theorem d_M_hasMark_10 : decode b_M_hasMark 10 = .ok (.iload_n 2, 1) := by decide +kernel
theorem d_M_hasMark_11 : decode b_M_hasMark 11 = .ok (.ifCond .ne 17, 3) := by decide +kernel
theorem d_M_hasMark_14 : decode b_M_hasMark 14 = .ok (.aload_n 0, 1) := by decide +kernel
theorem d_M_hasMark_15 : decode b_M_hasMark 15 = .ok (.getfield 70, 3) := by decide +kernel
theorem d_M_hasMark_18 : decode b_M_hasMark 18 = .ok (.iload_n 1, 1) := by decide +kernel
theorem d_M_hasMark_19 : decode b_M_hasMark 19 = .ok (.invokestatic 136, 3) := by decide +kernel
theorem d_M_hasMark_22 : decode b_M_hasMark 22 = .ok (.iload_n 3, 1) := by decide +kernel
theorem d_M_hasMark_23 : decode b_M_hasMark 23 = .ok (.iadd, 1) := by decide +kernel
theorem d_M_hasMark_24 : decode b_M_hasMark 24 = .ok (.baload, 1) := by decide +kernel
theorem d_M_hasMark_25 : decode b_M_hasMark 25 = .ok (.ifCond .eq 7, 3) := by decide +kernel
theorem d_M_hasMark_28 : decode b_M_hasMark 28 = .ok (.iconst 1, 1) := by decide +kernel
theorem d_M_hasMark_29 : decode b_M_hasMark 29 = .ok (.goto 4, 3) := by decide +kernel
theorem d_M_hasMark_32 : decode b_M_hasMark 32 = .ok (.iconst 0, 1) := by decide +kernel
theorem d_M_hasMark_33 : decode b_M_hasMark 33 = .ok (.istore_n 2, 1) := by decide +kernel
theorem d_M_hasMark_34 : decode b_M_hasMark 34 = .ok (.iinc 3 1, 3) := by decide +kernel
theorem d_M_hasMark_37 : decode b_M_hasMark 37 = .ok (.goto (-33), 3) := by decide +kernel
theorem d_M_hasMark_40 : decode b_M_hasMark 40 = .ok (.iload_n 2, 1) := by decide +kernel
theorem d_M_hasMark_41 : decode b_M_hasMark 41 = .ok (.ireturn, 1) := by decide +kernel
abbrev b_M_areAlike : ByteArray := prog_11_method_24_code
def y_M_areAlike : MethodName := ⟨"RedactCheckModel", "areAlike", "(II)Z"⟩
theorem d_M_areAlike_0 : decode b_M_areAlike 0 = .ok (.aload_n 0, 1) := by decide +kernel
theorem d_M_areAlike_1 : decode b_M_areAlike 1 = .ok (.getfield 28, 3) := by decide +kernel
theorem d_M_areAlike_4 : decode b_M_areAlike 4 = .ok (.iload_n 1, 1) := by decide +kernel
theorem d_M_areAlike_5 : decode b_M_areAlike 5 = .ok (.iaload, 1) := by decide +kernel
theorem d_M_areAlike_6 : decode b_M_areAlike 6 = .ok (.aload_n 0, 1) := by decide +kernel
theorem d_M_areAlike_7 : decode b_M_areAlike 7 = .ok (.getfield 28, 3) := by decide +kernel
theorem d_M_areAlike_10 : decode b_M_areAlike 10 = .ok (.iload_n 2, 1) := by decide +kernel
theorem d_M_areAlike_11 : decode b_M_areAlike 11 = .ok (.iaload, 1) := by decide +kernel
theorem d_M_areAlike_12 : decode b_M_areAlike 12 = .ok (.if_icmp .ne 7, 3) := by decide +kernel
theorem d_M_areAlike_15 : decode b_M_areAlike 15 = .ok (.iconst 1, 1) := by decide +kernel
theorem d_M_areAlike_16 : decode b_M_areAlike 16 = .ok (.goto 4, 3) := by decide +kernel
theorem d_M_areAlike_19 : decode b_M_areAlike 19 = .ok (.iconst 0, 1) := by decide +kernel
theorem d_M_areAlike_20 : decode b_M_areAlike 20 = .ok (.istore_n 3, 1) := by decide +kernel
theorem d_M_areAlike_21 : decode b_M_areAlike 21 = .ok (.iconst 0, 1) := by decide +kernel
theorem d_M_areAlike_22 : decode b_M_areAlike 22 = .ok (.istore 4, 2) := by decide +kernel
theorem d_M_areAlike_24 : decode b_M_areAlike 24 = .ok (.iload 4, 2) := by decide +kernel
theorem d_M_areAlike_26 : decode b_M_areAlike 26 = .ok (.bipush 40, 2) := by decide +kernel
theorem d_M_areAlike_28 : decode b_M_areAlike 28 = .ok (.if_icmp .ge 46, 3) := by decide +kernel
theorem d_M_areAlike_31 : decode b_M_areAlike 31 = .ok (.iload_n 3, 1) := by decide +kernel
theorem d_M_areAlike_32 : decode b_M_areAlike 32 = .ok (.ifCond .eq 34, 3) := by decide +kernel
theorem d_M_areAlike_35 : decode b_M_areAlike 35 = .ok (.aload_n 0, 1) := by decide +kernel
theorem d_M_areAlike_36 : decode b_M_areAlike 36 = .ok (.getfield 70, 3) := by decide +kernel
theorem d_M_areAlike_39 : decode b_M_areAlike 39 = .ok (.iload_n 1, 1) := by decide +kernel
theorem d_M_areAlike_40 : decode b_M_areAlike 40 = .ok (.invokestatic 136, 3) := by decide +kernel
theorem d_M_areAlike_43 : decode b_M_areAlike 43 = .ok (.iload 4, 2) := by decide +kernel
theorem d_M_areAlike_45 : decode b_M_areAlike 45 = .ok (.iadd, 1) := by decide +kernel
theorem d_M_areAlike_46 : decode b_M_areAlike 46 = .ok (.baload, 1) := by decide +kernel
theorem d_M_areAlike_47 : decode b_M_areAlike 47 = .ok (.aload_n 0, 1) := by decide +kernel
theorem d_M_areAlike_48 : decode b_M_areAlike 48 = .ok (.getfield 70, 3) := by decide +kernel
theorem d_M_areAlike_51 : decode b_M_areAlike 51 = .ok (.iload_n 2, 1) := by decide +kernel
theorem d_M_areAlike_52 : decode b_M_areAlike 52 = .ok (.invokestatic 136, 3) := by decide +kernel
theorem d_M_areAlike_55 : decode b_M_areAlike 55 = .ok (.iload 4, 2) := by decide +kernel
theorem d_M_areAlike_57 : decode b_M_areAlike 57 = .ok (.iadd, 1) := by decide +kernel
theorem d_M_areAlike_58 : decode b_M_areAlike 58 = .ok (.baload, 1) := by decide +kernel
theorem d_M_areAlike_59 : decode b_M_areAlike 59 = .ok (.if_icmp .ne 7, 3) := by decide +kernel
theorem d_M_areAlike_62 : decode b_M_areAlike 62 = .ok (.iconst 1, 1) := by decide +kernel
theorem d_M_areAlike_63 : decode b_M_areAlike 63 = .ok (.goto 4, 3) := by decide +kernel
theorem d_M_areAlike_66 : decode b_M_areAlike 66 = .ok (.iconst 0, 1) := by decide +kernel
theorem d_M_areAlike_67 : decode b_M_areAlike 67 = .ok (.istore_n 3, 1) := by decide +kernel
theorem d_M_areAlike_68 : decode b_M_areAlike 68 = .ok (.iinc 4 1, 3) := by decide +kernel
theorem d_M_areAlike_71 : decode b_M_areAlike 71 = .ok (.goto (-47), 3) := by decide +kernel
theorem d_M_areAlike_74 : decode b_M_areAlike 74 = .ok (.iload_n 3, 1) := by decide +kernel
theorem d_M_areAlike_75 : decode b_M_areAlike 75 = .ok (.ireturn, 1) := by decide +kernel
abbrev b_M_cut : ByteArray := prog_11_method_22_code
def y_M_cut : MethodName := ⟨"RedactCheckModel", "cut", "(III)V"⟩
theorem d_M_cut_0 : decode b_M_cut 0 = .ok (.aload_n 0, 1) := by decide +kernel
theorem d_M_cut_1 : decode b_M_cut 1 = .ok (.getfield 7, 3) := by decide +kernel
theorem d_M_cut_4 : decode b_M_cut 4 = .ok (.iload_n 1, 1) := by decide +kernel
theorem d_M_cut_5 : decode b_M_cut 5 = .ok (.iaload, 1) := by decide +kernel
theorem d_M_cut_6 : decode b_M_cut 6 = .ok (.istore 4, 2) := by decide +kernel
theorem d_M_cut_8 : decode b_M_cut 8 = .ok (.aload_n 0, 1) := by decide +kernel
theorem d_M_cut_9 : decode b_M_cut 9 = .ok (.getfield 7, 3) := by decide +kernel
theorem d_M_cut_12 : decode b_M_cut 12 = .ok (.iload_n 2, 1) := by decide +kernel
theorem d_M_cut_13 : decode b_M_cut 13 = .ok (.iconst 0, 1) := by decide +kernel
theorem d_M_cut_14 : decode b_M_cut 14 = .ok (.iastore, 1) := by decide +kernel
theorem d_M_cut_15 : decode b_M_cut 15 = .ok (.iconst 0, 1) := by decide +kernel
theorem d_M_cut_16 : decode b_M_cut 16 = .ok (.istore 5, 2) := by decide +kernel
theorem d_M_cut_18 : decode b_M_cut 18 = .ok (.iload 5, 2) := by decide +kernel
theorem d_M_cut_20 : decode b_M_cut 20 = .ok (.iload 4, 2) := by decide +kernel
theorem d_M_cut_22 : decode b_M_cut 22 = .ok (.if_icmp .ge 111, 3) := by decide +kernel
theorem d_M_cut_25 : decode b_M_cut 25 = .ok (.bipush 40, 2) := by decide +kernel
theorem d_M_cut_27 : decode b_M_cut 27 = .ok (.iload_n 1, 1) := by decide +kernel
theorem d_M_cut_28 : decode b_M_cut 28 = .ok (.imul, 1) := by decide +kernel
theorem d_M_cut_29 : decode b_M_cut 29 = .ok (.iload 5, 2) := by decide +kernel
theorem d_M_cut_31 : decode b_M_cut 31 = .ok (.iadd, 1) := by decide +kernel
theorem d_M_cut_32 : decode b_M_cut 32 = .ok (.istore 6, 2) := by decide +kernel
theorem d_M_cut_34 : decode b_M_cut 34 = .ok (.aload_n 0, 1) := by decide +kernel
theorem d_M_cut_35 : decode b_M_cut 35 = .ok (.getfield 70, 3) := by decide +kernel
theorem d_M_cut_38 : decode b_M_cut 38 = .ok (.iload_n 3, 1) := by decide +kernel
theorem d_M_cut_39 : decode b_M_cut 39 = .ok (.iload 5, 2) := by decide +kernel
theorem d_M_cut_41 : decode b_M_cut 41 = .ok (.iadd, 1) := by decide +kernel
theorem d_M_cut_42 : decode b_M_cut 42 = .ok (.baload, 1) := by decide +kernel
theorem d_M_cut_43 : decode b_M_cut 43 = .ok (.istore 7, 2) := by decide +kernel
theorem d_M_cut_45 : decode b_M_cut 45 = .ok (.iload 7, 2) := by decide +kernel
theorem d_M_cut_47 : decode b_M_cut 47 = .ok (.ifCond .ne 39, 3) := by decide +kernel
theorem d_M_cut_50 : decode b_M_cut 50 = .ok (.aload_n 0, 1) := by decide +kernel
theorem d_M_cut_51 : decode b_M_cut 51 = .ok (.iload_n 2, 1) := by decide +kernel
theorem d_M_cut_52 : decode b_M_cut 52 = .ok (.aload_n 0, 1) := by decide +kernel
theorem d_M_cut_53 : decode b_M_cut 53 = .ok (.getfield 13, 3) := by decide +kernel
theorem d_M_cut_56 : decode b_M_cut 56 = .ok (.iload 6, 2) := by decide +kernel
theorem d_M_cut_58 : decode b_M_cut 58 = .ok (.iaload, 1) := by decide +kernel
theorem d_M_cut_59 : decode b_M_cut 59 = .ok (.aload_n 0, 1) := by decide +kernel
theorem d_M_cut_60 : decode b_M_cut 60 = .ok (.getfield 16, 3) := by decide +kernel
theorem d_M_cut_63 : decode b_M_cut 63 = .ok (.iload 6, 2) := by decide +kernel
theorem d_M_cut_65 : decode b_M_cut 65 = .ok (.iaload, 1) := by decide +kernel
theorem d_M_cut_66 : decode b_M_cut 66 = .ok (.aload_n 0, 1) := by decide +kernel
theorem d_M_cut_67 : decode b_M_cut 67 = .ok (.getfield 19, 3) := by decide +kernel
theorem d_M_cut_70 : decode b_M_cut 70 = .ok (.iload 6, 2) := by decide +kernel
theorem d_M_cut_72 : decode b_M_cut 72 = .ok (.iaload, 1) := by decide +kernel
theorem d_M_cut_73 : decode b_M_cut 73 = .ok (.aload_n 0, 1) := by decide +kernel
theorem d_M_cut_74 : decode b_M_cut 74 = .ok (.getfield 22, 3) := by decide +kernel
theorem d_M_cut_77 : decode b_M_cut 77 = .ok (.iload 6, 2) := by decide +kernel
theorem d_M_cut_79 : decode b_M_cut 79 = .ok (.iaload, 1) := by decide +kernel
theorem d_M_cut_80 : decode b_M_cut 80 = .ok (.invokevirtual 94, 3) := by decide +kernel
theorem d_M_cut_83 : decode b_M_cut 83 = .ok (.goto 44, 3) := by decide +kernel
theorem d_M_cut_86 : decode b_M_cut 86 = .ok (.iload 5, 2) := by decide +kernel
theorem d_M_cut_88 : decode b_M_cut 88 = .ok (.ifCond .eq 17, 3) := by decide +kernel
theorem d_M_cut_91 : decode b_M_cut 91 = .ok (.aload_n 0, 1) := by decide +kernel
theorem d_M_cut_92 : decode b_M_cut 92 = .ok (.getfield 70, 3) := by decide +kernel
theorem d_M_cut_95 : decode b_M_cut 95 = .ok (.iload_n 3, 1) := by decide +kernel
theorem d_M_cut_96 : decode b_M_cut 96 = .ok (.iload 5, 2) := by decide +kernel
theorem d_M_cut_98 : decode b_M_cut 98 = .ok (.iadd, 1) := by decide +kernel
theorem d_M_cut_99 : decode b_M_cut 99 = .ok (.iconst 1, 1) := by decide +kernel
theorem d_M_cut_100 : decode b_M_cut 100 = .ok (.isub, 1) := by decide +kernel
theorem d_M_cut_101 : decode b_M_cut 101 = .ok (.baload, 1) := by decide +kernel
theorem d_M_cut_102 : decode b_M_cut 102 = .ok (.ifCond .ne 25, 3) := by decide +kernel
theorem d_M_cut_105 : decode b_M_cut 105 = .ok (.aload_n 0, 1) := by decide +kernel
theorem d_M_cut_106 : decode b_M_cut 106 = .ok (.iload_n 2, 1) := by decide +kernel
theorem d_M_cut_107 : decode b_M_cut 107 = .ok (.iconst 0, 1) := by decide +kernel
theorem d_M_cut_108 : decode b_M_cut 108 = .ok (.aload_n 0, 1) := by decide +kernel
theorem d_M_cut_109 : decode b_M_cut 109 = .ok (.getfield 16, 3) := by decide +kernel
theorem d_M_cut_112 : decode b_M_cut 112 = .ok (.iload 6, 2) := by decide +kernel
theorem d_M_cut_114 : decode b_M_cut 114 = .ok (.iaload, 1) := by decide +kernel
theorem d_M_cut_115 : decode b_M_cut 115 = .ok (.aload_n 0, 1) := by decide +kernel
theorem d_M_cut_116 : decode b_M_cut 116 = .ok (.getfield 19, 3) := by decide +kernel
theorem d_M_cut_119 : decode b_M_cut 119 = .ok (.iload 6, 2) := by decide +kernel
theorem d_M_cut_121 : decode b_M_cut 121 = .ok (.iaload, 1) := by decide +kernel
theorem d_M_cut_122 : decode b_M_cut 122 = .ok (.bipush 100, 2) := by decide +kernel
theorem d_M_cut_124 : decode b_M_cut 124 = .ok (.invokevirtual 94, 3) := by decide +kernel
theorem d_M_cut_127 : decode b_M_cut 127 = .ok (.iinc 5 1, 3) := by decide +kernel
theorem d_M_cut_130 : decode b_M_cut 130 = .ok (.goto (-112), 3) := by decide +kernel
theorem d_M_cut_133 : decode b_M_cut 133 = .ok (.return_, 1) := by decide +kernel
abbrev b_M_cutStore : ByteArray := prog_11_method_28_code
def y_M_cutStore : MethodName := ⟨"RedactCheckModel", "cutStore", "(I)I"⟩
theorem d_M_cutStore_0 : decode b_M_cutStore 0 = .ok (.aload_n 0, 1) := by decide +kernel
theorem d_M_cutStore_1 : decode b_M_cutStore 1 = .ok (.iload_n 1, 1) := by decide +kernel
theorem d_M_cutStore_2 : decode b_M_cutStore 2 = .ok (.aload_n 0, 1) := by decide +kernel
theorem d_M_cutStore_3 : decode b_M_cutStore 3 = .ok (.getfield 58, 3) := by decide +kernel
theorem d_M_cutStore_6 : decode b_M_cutStore 6 = .ok (.iload_n 1, 1) := by decide +kernel
theorem d_M_cutStore_7 : decode b_M_cutStore 7 = .ok (.iaload, 1) := by decide +kernel
theorem d_M_cutStore_8 : decode b_M_cutStore 8 = .ok (.invokevirtual 142, 3) := by decide +kernel
theorem d_M_cutStore_11 : decode b_M_cutStore 11 = .ok (.istore_n 2, 1) := by decide +kernel
theorem d_M_cutStore_12 : decode b_M_cutStore 12 = .ok (.aload_n 0, 1) := by decide +kernel
theorem d_M_cutStore_13 : decode b_M_cutStore 13 = .ok (.getfield 61, 3) := by decide +kernel
theorem d_M_cutStore_16 : decode b_M_cutStore 16 = .ok (.iload_n 1, 1) := by decide +kernel
theorem d_M_cutStore_17 : decode b_M_cutStore 17 = .ok (.iconst 0, 1) := by decide +kernel
theorem d_M_cutStore_18 : decode b_M_cutStore 18 = .ok (.iastore, 1) := by decide +kernel
theorem d_M_cutStore_19 : decode b_M_cutStore 19 = .ok (.iload_n 2, 1) := by decide +kernel
theorem d_M_cutStore_20 : decode b_M_cutStore 20 = .ok (.ifCond .ne 5, 3) := by decide +kernel
theorem d_M_cutStore_23 : decode b_M_cutStore 23 = .ok (.iconst 0, 1) := by decide +kernel
theorem d_M_cutStore_24 : decode b_M_cutStore 24 = .ok (.ireturn, 1) := by decide +kernel
theorem d_M_cutStore_25 : decode b_M_cutStore 25 = .ok (.aload_n 0, 1) := by decide +kernel
theorem d_M_cutStore_26 : decode b_M_cutStore 26 = .ok (.invokevirtual 129, 3) := by decide +kernel
theorem d_M_cutStore_29 : decode b_M_cutStore 29 = .ok (.iconst 0, 1) := by decide +kernel
theorem d_M_cutStore_30 : decode b_M_cutStore 30 = .ok (.istore_n 3, 1) := by decide +kernel
theorem d_M_cutStore_31 : decode b_M_cutStore 31 = .ok (.iconst 0, 1) := by decide +kernel
theorem d_M_cutStore_32 : decode b_M_cutStore 32 = .ok (.istore 4, 2) := by decide +kernel
theorem d_M_cutStore_34 : decode b_M_cutStore 34 = .ok (.iload 4, 2) := by decide +kernel
theorem d_M_cutStore_36 : decode b_M_cutStore 36 = .ok (.aload_n 0, 1) := by decide +kernel
theorem d_M_cutStore_37 : decode b_M_cutStore 37 = .ok (.getfield 114, 3) := by decide +kernel
theorem d_M_cutStore_40 : decode b_M_cutStore 40 = .ok (.if_icmp .ge 76, 3) := by decide +kernel
theorem d_M_cutStore_43 : decode b_M_cutStore 43 = .ok (.aload_n 0, 1) := by decide +kernel
theorem d_M_cutStore_44 : decode b_M_cutStore 44 = .ok (.getfield 80, 3) := by decide +kernel
theorem d_M_cutStore_47 : decode b_M_cutStore 47 = .ok (.iload 4, 2) := by decide +kernel
theorem d_M_cutStore_49 : decode b_M_cutStore 49 = .ok (.baload, 1) := by decide +kernel
theorem d_M_cutStore_50 : decode b_M_cutStore 50 = .ok (.ifCond .ne 18, 3) := by decide +kernel
theorem d_M_cutStore_53 : decode b_M_cutStore 53 = .ok (.aload_n 0, 1) := by decide +kernel
theorem d_M_cutStore_54 : decode b_M_cutStore 54 = .ok (.iload_n 1, 1) := by decide +kernel
theorem d_M_cutStore_55 : decode b_M_cutStore 55 = .ok (.aload_n 0, 1) := by decide +kernel
theorem d_M_cutStore_56 : decode b_M_cutStore 56 = .ok (.getfield 77, 3) := by decide +kernel
theorem d_M_cutStore_59 : decode b_M_cutStore 59 = .ok (.iload 4, 2) := by decide +kernel
theorem d_M_cutStore_61 : decode b_M_cutStore 61 = .ok (.iaload, 1) := by decide +kernel
theorem d_M_cutStore_62 : decode b_M_cutStore 62 = .ok (.invokevirtual 145, 3) := by decide +kernel
theorem d_M_cutStore_65 : decode b_M_cutStore 65 = .ok (.goto 27, 3) := by decide +kernel
theorem d_M_cutStore_68 : decode b_M_cutStore 68 = .ok (.iload 4, 2) := by decide +kernel
theorem d_M_cutStore_70 : decode b_M_cutStore 70 = .ok (.ifCond .eq 15, 3) := by decide +kernel
theorem d_M_cutStore_73 : decode b_M_cutStore 73 = .ok (.aload_n 0, 1) := by decide +kernel
theorem d_M_cutStore_74 : decode b_M_cutStore 74 = .ok (.getfield 80, 3) := by decide +kernel
theorem d_M_cutStore_77 : decode b_M_cutStore 77 = .ok (.iload 4, 2) := by decide +kernel
theorem d_M_cutStore_79 : decode b_M_cutStore 79 = .ok (.iconst 1, 1) := by decide +kernel
theorem d_M_cutStore_80 : decode b_M_cutStore 80 = .ok (.isub, 1) := by decide +kernel
theorem d_M_cutStore_81 : decode b_M_cutStore 81 = .ok (.baload, 1) := by decide +kernel
theorem d_M_cutStore_82 : decode b_M_cutStore 82 = .ok (.ifCond .ne 10, 3) := by decide +kernel
theorem d_M_cutStore_85 : decode b_M_cutStore 85 = .ok (.aload_n 0, 1) := by decide +kernel
theorem d_M_cutStore_86 : decode b_M_cutStore 86 = .ok (.iload_n 1, 1) := by decide +kernel
theorem d_M_cutStore_87 : decode b_M_cutStore 87 = .ok (.bipush 42, 2) := by decide +kernel
theorem d_M_cutStore_89 : decode b_M_cutStore 89 = .ok (.invokevirtual 145, 3) := by decide +kernel
theorem d_M_cutStore_92 : decode b_M_cutStore 92 = .ok (.aload_n 0, 1) := by decide +kernel
theorem d_M_cutStore_93 : decode b_M_cutStore 93 = .ok (.getfield 80, 3) := by decide +kernel
theorem d_M_cutStore_96 : decode b_M_cutStore 96 = .ok (.iload 4, 2) := by decide +kernel
theorem d_M_cutStore_98 : decode b_M_cutStore 98 = .ok (.baload, 1) := by decide +kernel
theorem d_M_cutStore_99 : decode b_M_cutStore 99 = .ok (.ifCond .eq 9, 3) := by decide +kernel
theorem d_M_cutStore_102 : decode b_M_cutStore 102 = .ok (.iload_n 3, 1) := by decide +kernel
theorem d_M_cutStore_103 : decode b_M_cutStore 103 = .ok (.iconst 1, 1) := by decide +kernel
theorem d_M_cutStore_104 : decode b_M_cutStore 104 = .ok (.iadd, 1) := by decide +kernel
theorem d_M_cutStore_105 : decode b_M_cutStore 105 = .ok (.goto 4, 3) := by decide +kernel
theorem d_M_cutStore_108 : decode b_M_cutStore 108 = .ok (.iload_n 3, 1) := by decide +kernel
theorem d_M_cutStore_109 : decode b_M_cutStore 109 = .ok (.istore_n 3, 1) := by decide +kernel
theorem d_M_cutStore_110 : decode b_M_cutStore 110 = .ok (.iinc 4 1, 3) := by decide +kernel
theorem d_M_cutStore_113 : decode b_M_cutStore 113 = .ok (.goto (-79), 3) := by decide +kernel
end
section
theorem d_M_cutStore_116 : decode b_M_cutStore 116 = .ok (.iload_n 3, 1) := by decide +kernel
theorem d_M_cutStore_117 : decode b_M_cutStore 117 = .ok (.ireturn, 1) := by decide +kernel
abbrev b_M_takeStore : ByteArray := prog_11_method_19_code
def y_M_takeStore : MethodName := ⟨"RedactCheckModel", "takeStore", "(II)Z"⟩
theorem d_M_takeStore_0 : decode b_M_takeStore 0 = .ok (.aload_n 0, 1) := by decide +kernel
theorem d_M_takeStore_1 : decode b_M_takeStore 1 = .ok (.getfield 61, 3) := by decide +kernel
theorem d_M_takeStore_4 : decode b_M_takeStore 4 = .ok (.iload_n 1, 1) := by decide +kernel
theorem d_M_takeStore_5 : decode b_M_takeStore 5 = .ok (.iaload, 1) := by decide +kernel
theorem d_M_takeStore_6 : decode b_M_takeStore 6 = .ok (.istore_n 3, 1) := by decide +kernel
theorem d_M_takeStore_7 : decode b_M_takeStore 7 = .ok (.aload_n 0, 1) := by decide +kernel
theorem d_M_takeStore_8 : decode b_M_takeStore 8 = .ok (.iconst 0, 1) := by decide +kernel
theorem d_M_takeStore_9 : decode b_M_takeStore 9 = .ok (.putfield 114, 3) := by decide +kernel
theorem d_M_takeStore_12 : decode b_M_takeStore 12 = .ok (.iload_n 2, 1) := by decide +kernel
theorem d_M_takeStore_13 : decode b_M_takeStore 13 = .ok (.ifCond .le 11, 3) := by decide +kernel
theorem d_M_takeStore_16 : decode b_M_takeStore 16 = .ok (.iload_n 3, 1) := by decide +kernel
theorem d_M_takeStore_17 : decode b_M_takeStore 17 = .ok (.iconst 2, 1) := by decide +kernel
theorem d_M_takeStore_18 : decode b_M_takeStore 18 = .ok (.irem, 1) := by decide +kernel
theorem d_M_takeStore_19 : decode b_M_takeStore 19 = .ok (.ifCond .eq 5, 3) := by decide +kernel
theorem d_M_takeStore_22 : decode b_M_takeStore 22 = .ok (.iconst 0, 1) := by decide +kernel
theorem d_M_takeStore_23 : decode b_M_takeStore 23 = .ok (.ireturn, 1) := by decide +kernel
theorem d_M_takeStore_24 : decode b_M_takeStore 24 = .ok (.iload_n 2, 1) := by decide +kernel
theorem d_M_takeStore_25 : decode b_M_takeStore 25 = .ok (.ifCond .ne 7, 3) := by decide +kernel
theorem d_M_takeStore_28 : decode b_M_takeStore 28 = .ok (.iconst 1, 1) := by decide +kernel
theorem d_M_takeStore_29 : decode b_M_takeStore 29 = .ok (.goto 4, 3) := by decide +kernel
theorem d_M_takeStore_32 : decode b_M_takeStore 32 = .ok (.iconst 2, 1) := by decide +kernel
theorem d_M_takeStore_33 : decode b_M_takeStore 33 = .ok (.istore 4, 2) := by decide +kernel
theorem d_M_takeStore_35 : decode b_M_takeStore 35 = .ok (.iconst 0, 1) := by decide +kernel
theorem d_M_takeStore_36 : decode b_M_takeStore 36 = .ok (.istore 5, 2) := by decide +kernel
theorem d_M_takeStore_38 : decode b_M_takeStore 38 = .ok (.iload 5, 2) := by decide +kernel
theorem d_M_takeStore_40 : decode b_M_takeStore 40 = .ok (.iload_n 3, 1) := by decide +kernel
theorem d_M_takeStore_41 : decode b_M_takeStore 41 = .ok (.if_icmp .ge 169, 3) := by decide +kernel
theorem d_M_takeStore_44 : decode b_M_takeStore 44 = .ok (.aload_n 0, 1) := by decide +kernel
theorem d_M_takeStore_45 : decode b_M_takeStore 45 = .ok (.getfield 64, 3) := by decide +kernel
theorem d_M_takeStore_48 : decode b_M_takeStore 48 = .ok (.bipush 60, 2) := by decide +kernel
theorem d_M_takeStore_50 : decode b_M_takeStore 50 = .ok (.iload_n 1, 1) := by decide +kernel
theorem d_M_takeStore_51 : decode b_M_takeStore 51 = .ok (.imul, 1) := by decide +kernel
theorem d_M_takeStore_52 : decode b_M_takeStore 52 = .ok (.iload 5, 2) := by decide +kernel
theorem d_M_takeStore_54 : decode b_M_takeStore 54 = .ok (.iadd, 1) := by decide +kernel
theorem d_M_takeStore_55 : decode b_M_takeStore 55 = .ok (.iaload, 1) := by decide +kernel
theorem d_M_takeStore_56 : decode b_M_takeStore 56 = .ok (.istore 6, 2) := by decide +kernel
theorem d_M_takeStore_58 : decode b_M_takeStore 58 = .ok (.iload 4, 2) := by decide +kernel
theorem d_M_takeStore_60 : decode b_M_takeStore 60 = .ok (.iconst 1, 1) := by decide +kernel
theorem d_M_takeStore_61 : decode b_M_takeStore 61 = .ok (.if_icmp .ne 7, 3) := by decide +kernel
theorem d_M_takeStore_64 : decode b_M_takeStore 64 = .ok (.iconst 0, 1) := by decide +kernel
theorem d_M_takeStore_65 : decode b_M_takeStore 65 = .ok (.goto 17, 3) := by decide +kernel
theorem d_M_takeStore_68 : decode b_M_takeStore 68 = .ok (.aload_n 0, 1) := by decide +kernel
theorem d_M_takeStore_69 : decode b_M_takeStore 69 = .ok (.getfield 64, 3) := by decide +kernel
theorem d_M_takeStore_72 : decode b_M_takeStore 72 = .ok (.bipush 60, 2) := by decide +kernel
theorem d_M_takeStore_74 : decode b_M_takeStore 74 = .ok (.iload_n 1, 1) := by decide +kernel
theorem d_M_takeStore_75 : decode b_M_takeStore 75 = .ok (.imul, 1) := by decide +kernel
theorem d_M_takeStore_76 : decode b_M_takeStore 76 = .ok (.iload 5, 2) := by decide +kernel
theorem d_M_takeStore_78 : decode b_M_takeStore 78 = .ok (.iadd, 1) := by decide +kernel
theorem d_M_takeStore_79 : decode b_M_takeStore 79 = .ok (.iconst 1, 1) := by decide +kernel
theorem d_M_takeStore_80 : decode b_M_takeStore 80 = .ok (.iadd, 1) := by decide +kernel
theorem d_M_takeStore_81 : decode b_M_takeStore 81 = .ok (.iaload, 1) := by decide +kernel
theorem d_M_takeStore_82 : decode b_M_takeStore 82 = .ok (.istore 7, 2) := by decide +kernel
theorem d_M_takeStore_84 : decode b_M_takeStore 84 = .ok (.iload_n 2, 1) := by decide +kernel
theorem d_M_takeStore_85 : decode b_M_takeStore 85 = .ok (.ifCond .eq 44, 3) := by decide +kernel
theorem d_M_takeStore_88 : decode b_M_takeStore 88 = .ok (.iload_n 2, 1) := by decide +kernel
theorem d_M_takeStore_89 : decode b_M_takeStore 89 = .ok (.iconst 1, 1) := by decide +kernel
theorem d_M_takeStore_90 : decode b_M_takeStore 90 = .ok (.if_icmp .ne 8, 3) := by decide +kernel
theorem d_M_takeStore_93 : decode b_M_takeStore 93 = .ok (.iload 6, 2) := by decide +kernel
theorem d_M_takeStore_95 : decode b_M_takeStore 95 = .ok (.ifCond .eq 34, 3) := by decide +kernel
theorem d_M_takeStore_98 : decode b_M_takeStore 98 = .ok (.iload_n 2, 1) := by decide +kernel
theorem d_M_takeStore_99 : decode b_M_takeStore 99 = .ok (.iconst 2, 1) := by decide +kernel
theorem d_M_takeStore_100 : decode b_M_takeStore 100 = .ok (.if_icmp .ne 8, 3) := by decide +kernel
theorem d_M_takeStore_103 : decode b_M_takeStore 103 = .ok (.iload 7, 2) := by decide +kernel
theorem d_M_takeStore_105 : decode b_M_takeStore 105 = .ok (.ifCond .eq 24, 3) := by decide +kernel
theorem d_M_takeStore_108 : decode b_M_takeStore 108 = .ok (.iload_n 2, 1) := by decide +kernel
theorem d_M_takeStore_109 : decode b_M_takeStore 109 = .ok (.iconst 3, 1) := by decide +kernel
theorem d_M_takeStore_110 : decode b_M_takeStore 110 = .ok (.if_icmp .ne 23, 3) := by decide +kernel
theorem d_M_takeStore_113 : decode b_M_takeStore 113 = .ok (.iload 6, 2) := by decide +kernel
theorem d_M_takeStore_115 : decode b_M_takeStore 115 = .ok (.invokestatic 121, 3) := by decide +kernel
theorem d_M_takeStore_118 : decode b_M_takeStore 118 = .ok (.ifCond .lt 15, 3) := by decide +kernel
theorem d_M_takeStore_121 : decode b_M_takeStore 121 = .ok (.iload 7, 2) := by decide +kernel
theorem d_M_takeStore_123 : decode b_M_takeStore 123 = .ok (.invokestatic 121, 3) := by decide +kernel
theorem d_M_takeStore_126 : decode b_M_takeStore 126 = .ok (.ifCond .lt 7, 3) := by decide +kernel
theorem d_M_takeStore_129 : decode b_M_takeStore 129 = .ok (.iconst 1, 1) := by decide +kernel
theorem d_M_takeStore_130 : decode b_M_takeStore 130 = .ok (.goto 4, 3) := by decide +kernel
theorem d_M_takeStore_133 : decode b_M_takeStore 133 = .ok (.iconst 0, 1) := by decide +kernel
theorem d_M_takeStore_134 : decode b_M_takeStore 134 = .ok (.istore 8, 2) := by decide +kernel
theorem d_M_takeStore_136 : decode b_M_takeStore 136 = .ok (.iload 8, 2) := by decide +kernel
theorem d_M_takeStore_138 : decode b_M_takeStore 138 = .ok (.ifCond .ne 5, 3) := by decide +kernel
theorem d_M_takeStore_141 : decode b_M_takeStore 141 = .ok (.iconst 0, 1) := by decide +kernel
theorem d_M_takeStore_142 : decode b_M_takeStore 142 = .ok (.ireturn, 1) := by decide +kernel
theorem d_M_takeStore_143 : decode b_M_takeStore 143 = .ok (.aload_n 0, 1) := by decide +kernel
theorem d_M_takeStore_144 : decode b_M_takeStore 144 = .ok (.getfield 77, 3) := by decide +kernel
theorem d_M_takeStore_147 : decode b_M_takeStore 147 = .ok (.aload_n 0, 1) := by decide +kernel
theorem d_M_takeStore_148 : decode b_M_takeStore 148 = .ok (.getfield 114, 3) := by decide +kernel
theorem d_M_takeStore_151 : decode b_M_takeStore 151 = .ok (.iload_n 2, 1) := by decide +kernel
theorem d_M_takeStore_152 : decode b_M_takeStore 152 = .ok (.ifCond .eq 8, 3) := by decide +kernel
theorem d_M_takeStore_155 : decode b_M_takeStore 155 = .ok (.iload_n 2, 1) := by decide +kernel
theorem d_M_takeStore_156 : decode b_M_takeStore 156 = .ok (.iconst 2, 1) := by decide +kernel
theorem d_M_takeStore_157 : decode b_M_takeStore 157 = .ok (.if_icmp .ne 8, 3) := by decide +kernel
theorem d_M_takeStore_160 : decode b_M_takeStore 160 = .ok (.iload 6, 2) := by decide +kernel
theorem d_M_takeStore_162 : decode b_M_takeStore 162 = .ok (.goto 27, 3) := by decide +kernel
theorem d_M_takeStore_165 : decode b_M_takeStore 165 = .ok (.iload_n 2, 1) := by decide +kernel
theorem d_M_takeStore_166 : decode b_M_takeStore 166 = .ok (.iconst 1, 1) := by decide +kernel
theorem d_M_takeStore_167 : decode b_M_takeStore 167 = .ok (.if_icmp .ne 8, 3) := by decide +kernel
theorem d_M_takeStore_170 : decode b_M_takeStore 170 = .ok (.iload 7, 2) := by decide +kernel
theorem d_M_takeStore_172 : decode b_M_takeStore 172 = .ok (.goto 17, 3) := by decide +kernel
theorem d_M_takeStore_175 : decode b_M_takeStore 175 = .ok (.bipush 16, 2) := by decide +kernel
theorem d_M_takeStore_177 : decode b_M_takeStore 177 = .ok (.iload 6, 2) := by decide +kernel
theorem d_M_takeStore_179 : decode b_M_takeStore 179 = .ok (.invokestatic 121, 3) := by decide +kernel
theorem d_M_takeStore_182 : decode b_M_takeStore 182 = .ok (.imul, 1) := by decide +kernel
theorem d_M_takeStore_183 : decode b_M_takeStore 183 = .ok (.iload 7, 2) := by decide +kernel
theorem d_M_takeStore_185 : decode b_M_takeStore 185 = .ok (.invokestatic 121, 3) := by decide +kernel
theorem d_M_takeStore_188 : decode b_M_takeStore 188 = .ok (.iadd, 1) := by decide +kernel
theorem d_M_takeStore_189 : decode b_M_takeStore 189 = .ok (.iastore, 1) := by decide +kernel
theorem d_M_takeStore_190 : decode b_M_takeStore 190 = .ok (.aload_n 0, 1) := by decide +kernel
theorem d_M_takeStore_191 : decode b_M_takeStore 191 = .ok (.dup, 1) := by decide +kernel
theorem d_M_takeStore_192 : decode b_M_takeStore 192 = .ok (.getfield 114, 3) := by decide +kernel
theorem d_M_takeStore_195 : decode b_M_takeStore 195 = .ok (.iconst 1, 1) := by decide +kernel
theorem d_M_takeStore_196 : decode b_M_takeStore 196 = .ok (.iadd, 1) := by decide +kernel
theorem d_M_takeStore_197 : decode b_M_takeStore 197 = .ok (.putfield 114, 3) := by decide +kernel
theorem d_M_takeStore_200 : decode b_M_takeStore 200 = .ok (.iload 5, 2) := by decide +kernel
theorem d_M_takeStore_202 : decode b_M_takeStore 202 = .ok (.iload 4, 2) := by decide +kernel
theorem d_M_takeStore_204 : decode b_M_takeStore 204 = .ok (.iadd, 1) := by decide +kernel
theorem d_M_takeStore_205 : decode b_M_takeStore 205 = .ok (.istore 5, 2) := by decide +kernel
theorem d_M_takeStore_207 : decode b_M_takeStore 207 = .ok (.goto (-169), 3) := by decide +kernel
theorem d_M_takeStore_210 : decode b_M_takeStore 210 = .ok (.iconst 1, 1) := by decide +kernel
theorem d_M_takeStore_211 : decode b_M_takeStore 211 = .ok (.ireturn, 1) := by decide +kernel
abbrev b_M_digit : ByteArray := prog_11_method_18_code
def y_M_digit : MethodName := ⟨"RedactCheckModel", "digit", "(I)I"⟩
theorem d_M_digit_0 : decode b_M_digit 0 = .ok (.iload_n 0, 1) := by decide +kernel
theorem d_M_digit_1 : decode b_M_digit 1 = .ok (.bipush 48, 2) := by decide +kernel
theorem d_M_digit_3 : decode b_M_digit 3 = .ok (.bipush 57, 2) := by decide +kernel
theorem d_M_digit_5 : decode b_M_digit 5 = .ok (.invokestatic 90, 3) := by decide +kernel
theorem d_M_digit_8 : decode b_M_digit 8 = .ok (.ifCond .eq 8, 3) := by decide +kernel
theorem d_M_digit_11 : decode b_M_digit 11 = .ok (.iload_n 0, 1) := by decide +kernel
theorem d_M_digit_12 : decode b_M_digit 12 = .ok (.bipush 48, 2) := by decide +kernel
theorem d_M_digit_14 : decode b_M_digit 14 = .ok (.isub, 1) := by decide +kernel
theorem d_M_digit_15 : decode b_M_digit 15 = .ok (.ireturn, 1) := by decide +kernel
theorem d_M_digit_16 : decode b_M_digit 16 = .ok (.iload_n 0, 1) := by decide +kernel
theorem d_M_digit_17 : decode b_M_digit 17 = .ok (.bipush 65, 2) := by decide +kernel
theorem d_M_digit_19 : decode b_M_digit 19 = .ok (.bipush 70, 2) := by decide +kernel
theorem d_M_digit_21 : decode b_M_digit 21 = .ok (.invokestatic 90, 3) := by decide +kernel
theorem d_M_digit_24 : decode b_M_digit 24 = .ok (.ifCond .eq 11, 3) := by decide +kernel
theorem d_M_digit_27 : decode b_M_digit 27 = .ok (.iload_n 0, 1) := by decide +kernel
theorem d_M_digit_28 : decode b_M_digit 28 = .ok (.bipush 65, 2) := by decide +kernel
theorem d_M_digit_30 : decode b_M_digit 30 = .ok (.isub, 1) := by decide +kernel
theorem d_M_digit_31 : decode b_M_digit 31 = .ok (.bipush 10, 2) := by decide +kernel
theorem d_M_digit_33 : decode b_M_digit 33 = .ok (.iadd, 1) := by decide +kernel
theorem d_M_digit_34 : decode b_M_digit 34 = .ok (.ireturn, 1) := by decide +kernel
theorem d_M_digit_35 : decode b_M_digit 35 = .ok (.iload_n 0, 1) := by decide +kernel
theorem d_M_digit_36 : decode b_M_digit 36 = .ok (.bipush 97, 2) := by decide +kernel
theorem d_M_digit_38 : decode b_M_digit 38 = .ok (.bipush 102, 2) := by decide +kernel
theorem d_M_digit_40 : decode b_M_digit 40 = .ok (.invokestatic 90, 3) := by decide +kernel
theorem d_M_digit_43 : decode b_M_digit 43 = .ok (.ifCond .eq 13, 3) := by decide +kernel
theorem d_M_digit_46 : decode b_M_digit 46 = .ok (.iload_n 0, 1) := by decide +kernel
theorem d_M_digit_47 : decode b_M_digit 47 = .ok (.bipush 97, 2) := by decide +kernel
theorem d_M_digit_49 : decode b_M_digit 49 = .ok (.isub, 1) := by decide +kernel
theorem d_M_digit_50 : decode b_M_digit 50 = .ok (.bipush 10, 2) := by decide +kernel
theorem d_M_digit_52 : decode b_M_digit 52 = .ok (.iadd, 1) := by decide +kernel
theorem d_M_digit_53 : decode b_M_digit 53 = .ok (.goto 4, 3) := by decide +kernel
theorem d_M_digit_56 : decode b_M_digit 56 = .ok (.iconst (-1), 1) := by decide +kernel
theorem d_M_digit_57 : decode b_M_digit 57 = .ok (.ireturn, 1) := by decide +kernel
abbrev b_M_write : ByteArray := prog_11_method_27_code
def y_M_write : MethodName := ⟨"RedactCheckModel", "write", "(II)V"⟩
theorem d_M_write_0 : decode b_M_write 0 = .ok (.aload_n 0, 1) := by decide +kernel
theorem d_M_write_1 : decode b_M_write 1 = .ok (.getfield 58, 3) := by decide +kernel
theorem d_M_write_4 : decode b_M_write 4 = .ok (.iload_n 1, 1) := by decide +kernel
theorem d_M_write_5 : decode b_M_write 5 = .ok (.iaload, 1) := by decide +kernel
theorem d_M_write_6 : decode b_M_write 6 = .ok (.istore_n 3, 1) := by decide +kernel
theorem d_M_write_7 : decode b_M_write 7 = .ok (.bipush 60, 2) := by decide +kernel
theorem d_M_write_9 : decode b_M_write 9 = .ok (.iload_n 1, 1) := by decide +kernel
theorem d_M_write_10 : decode b_M_write 10 = .ok (.imul, 1) := by decide +kernel
theorem d_M_write_11 : decode b_M_write 11 = .ok (.aload_n 0, 1) := by decide +kernel
theorem d_M_write_12 : decode b_M_write 12 = .ok (.getfield 61, 3) := by decide +kernel
theorem d_M_write_15 : decode b_M_write 15 = .ok (.iload_n 1, 1) := by decide +kernel
theorem d_M_write_16 : decode b_M_write 16 = .ok (.iaload, 1) := by decide +kernel
theorem d_M_write_17 : decode b_M_write 17 = .ok (.iadd, 1) := by decide +kernel
theorem d_M_write_18 : decode b_M_write 18 = .ok (.istore 4, 2) := by decide +kernel
theorem d_M_write_20 : decode b_M_write 20 = .ok (.iload_n 3, 1) := by decide +kernel
theorem d_M_write_21 : decode b_M_write 21 = .ok (.ifCond .ne 14, 3) := by decide +kernel
theorem d_M_write_24 : decode b_M_write 24 = .ok (.aload_n 0, 1) := by decide +kernel
theorem d_M_write_25 : decode b_M_write 25 = .ok (.getfield 64, 3) := by decide +kernel
theorem d_M_write_28 : decode b_M_write 28 = .ok (.iload 4, 2) := by decide +kernel
theorem d_M_write_30 : decode b_M_write 30 = .ok (.iload_n 2, 1) := by decide +kernel
theorem d_M_write_31 : decode b_M_write 31 = .ok (.iastore, 1) := by decide +kernel
theorem d_M_write_32 : decode b_M_write 32 = .ok (.goto 69, 3) := by decide +kernel
theorem d_M_write_35 : decode b_M_write 35 = .ok (.aload_n 0, 1) := by decide +kernel
theorem d_M_write_36 : decode b_M_write 36 = .ok (.getfield 64, 3) := by decide +kernel
theorem d_M_write_39 : decode b_M_write 39 = .ok (.iload 4, 2) := by decide +kernel
theorem d_M_write_41 : decode b_M_write 41 = .ok (.iload_n 3, 1) := by decide +kernel
theorem d_M_write_42 : decode b_M_write 42 = .ok (.iconst 1, 1) := by decide +kernel
theorem d_M_write_43 : decode b_M_write 43 = .ok (.if_icmp .ne 7, 3) := by decide +kernel
theorem d_M_write_46 : decode b_M_write 46 = .ok (.iconst 0, 1) := by decide +kernel
theorem d_M_write_47 : decode b_M_write 47 = .ok (.goto 19, 3) := by decide +kernel
theorem d_M_write_50 : decode b_M_write 50 = .ok (.iload_n 3, 1) := by decide +kernel
theorem d_M_write_51 : decode b_M_write 51 = .ok (.iconst 2, 1) := by decide +kernel
theorem d_M_write_52 : decode b_M_write 52 = .ok (.if_icmp .ne 7, 3) := by decide +kernel
theorem d_M_write_55 : decode b_M_write 55 = .ok (.iload_n 2, 1) := by decide +kernel
theorem d_M_write_56 : decode b_M_write 56 = .ok (.goto 10, 3) := by decide +kernel
theorem d_M_write_59 : decode b_M_write 59 = .ok (.iload_n 2, 1) := by decide +kernel
theorem d_M_write_60 : decode b_M_write 60 = .ok (.bipush 16, 2) := by decide +kernel
theorem d_M_write_62 : decode b_M_write 62 = .ok (.idiv, 1) := by decide +kernel
theorem d_M_write_63 : decode b_M_write 63 = .ok (.invokestatic 139, 3) := by decide +kernel
theorem d_M_write_66 : decode b_M_write 66 = .ok (.iastore, 1) := by decide +kernel
theorem d_M_write_67 : decode b_M_write 67 = .ok (.aload_n 0, 1) := by decide +kernel
theorem d_M_write_68 : decode b_M_write 68 = .ok (.getfield 64, 3) := by decide +kernel
theorem d_M_write_71 : decode b_M_write 71 = .ok (.iload 4, 2) := by decide +kernel
theorem d_M_write_73 : decode b_M_write 73 = .ok (.iconst 1, 1) := by decide +kernel
theorem d_M_write_74 : decode b_M_write 74 = .ok (.iadd, 1) := by decide +kernel
theorem d_M_write_75 : decode b_M_write 75 = .ok (.iload_n 3, 1) := by decide +kernel
theorem d_M_write_76 : decode b_M_write 76 = .ok (.iconst 1, 1) := by decide +kernel
theorem d_M_write_77 : decode b_M_write 77 = .ok (.if_icmp .ne 7, 3) := by decide +kernel
theorem d_M_write_80 : decode b_M_write 80 = .ok (.iload_n 2, 1) := by decide +kernel
theorem d_M_write_81 : decode b_M_write 81 = .ok (.goto 19, 3) := by decide +kernel
theorem d_M_write_84 : decode b_M_write 84 = .ok (.iload_n 3, 1) := by decide +kernel
theorem d_M_write_85 : decode b_M_write 85 = .ok (.iconst 2, 1) := by decide +kernel
theorem d_M_write_86 : decode b_M_write 86 = .ok (.if_icmp .ne 7, 3) := by decide +kernel
theorem d_M_write_89 : decode b_M_write 89 = .ok (.iconst 0, 1) := by decide +kernel
theorem d_M_write_90 : decode b_M_write 90 = .ok (.goto 10, 3) := by decide +kernel
theorem d_M_write_93 : decode b_M_write 93 = .ok (.iload_n 2, 1) := by decide +kernel
theorem d_M_write_94 : decode b_M_write 94 = .ok (.bipush 16, 2) := by decide +kernel
theorem d_M_write_96 : decode b_M_write 96 = .ok (.irem, 1) := by decide +kernel
theorem d_M_write_97 : decode b_M_write 97 = .ok (.invokestatic 139, 3) := by decide +kernel
theorem d_M_write_100 : decode b_M_write 100 = .ok (.iastore, 1) := by decide +kernel
theorem d_M_write_101 : decode b_M_write 101 = .ok (.aload_n 0, 1) := by decide +kernel
theorem d_M_write_102 : decode b_M_write 102 = .ok (.getfield 61, 3) := by decide +kernel
theorem d_M_write_105 : decode b_M_write 105 = .ok (.iload_n 1, 1) := by decide +kernel
theorem d_M_write_106 : decode b_M_write 106 = .ok (.aload_n 0, 1) := by decide +kernel
theorem d_M_write_107 : decode b_M_write 107 = .ok (.getfield 61, 3) := by decide +kernel
theorem d_M_write_110 : decode b_M_write 110 = .ok (.iload_n 1, 1) := by decide +kernel
theorem d_M_write_111 : decode b_M_write 111 = .ok (.iaload, 1) := by decide +kernel
theorem d_M_write_112 : decode b_M_write 112 = .ok (.iload_n 3, 1) := by decide +kernel
theorem d_M_write_113 : decode b_M_write 113 = .ok (.ifCond .ne 7, 3) := by decide +kernel
theorem d_M_write_116 : decode b_M_write 116 = .ok (.iconst 1, 1) := by decide +kernel
theorem d_M_write_117 : decode b_M_write 117 = .ok (.goto 4, 3) := by decide +kernel
theorem d_M_write_120 : decode b_M_write 120 = .ok (.iconst 2, 1) := by decide +kernel
theorem d_M_write_121 : decode b_M_write 121 = .ok (.iadd, 1) := by decide +kernel
theorem d_M_write_122 : decode b_M_write 122 = .ok (.iastore, 1) := by decide +kernel
theorem d_M_write_123 : decode b_M_write 123 = .ok (.return_, 1) := by decide +kernel
abbrev b_M_hex : ByteArray := prog_11_method_26_code
def y_M_hex : MethodName := ⟨"RedactCheckModel", "hex", "(I)I"⟩
theorem d_M_hex_0 : decode b_M_hex 0 = .ok (.iload_n 0, 1) := by decide +kernel
theorem d_M_hex_1 : decode b_M_hex 1 = .ok (.bipush 10, 2) := by decide +kernel
theorem d_M_hex_3 : decode b_M_hex 3 = .ok (.if_icmp .ge 10, 3) := by decide +kernel
theorem d_M_hex_6 : decode b_M_hex 6 = .ok (.bipush 48, 2) := by decide +kernel
theorem d_M_hex_8 : decode b_M_hex 8 = .ok (.iload_n 0, 1) := by decide +kernel
theorem d_M_hex_9 : decode b_M_hex 9 = .ok (.iadd, 1) := by decide +kernel
theorem d_M_hex_10 : decode b_M_hex 10 = .ok (.goto 10, 3) := by decide +kernel
theorem d_M_hex_13 : decode b_M_hex 13 = .ok (.bipush 65, 2) := by decide +kernel
theorem d_M_hex_15 : decode b_M_hex 15 = .ok (.iload_n 0, 1) := by decide +kernel
theorem d_M_hex_16 : decode b_M_hex 16 = .ok (.iadd, 1) := by decide +kernel
theorem d_M_hex_17 : decode b_M_hex 17 = .ok (.bipush 10, 2) := by decide +kernel
theorem d_M_hex_19 : decode b_M_hex 19 = .ok (.isub, 1) := by decide +kernel
theorem d_M_hex_20 : decode b_M_hex 20 = .ok (.ireturn, 1) := by decide +kernel
abbrev b_M_look : ByteArray := prog_11_method_31_code
def y_M_look : MethodName := ⟨"RedactCheckModel", "look", "()I"⟩
theorem d_M_look_0 : decode b_M_look 0 = .ok (.aload_n 0, 1) := by decide +kernel
theorem d_M_look_1 : decode b_M_look 1 = .ok (.iconst 0, 1) := by decide +kernel
theorem d_M_look_2 : decode b_M_look 2 = .ok (.putfield 87, 3) := by decide +kernel
theorem d_M_look_5 : decode b_M_look 5 = .ok (.aload_n 0, 1) := by decide +kernel
theorem d_M_look_6 : decode b_M_look 6 = .ok (.iconst 0, 1) := by decide +kernel
theorem d_M_look_7 : decode b_M_look 7 = .ok (.putfield 166, 3) := by decide +kernel
theorem d_M_look_10 : decode b_M_look 10 = .ok (.iconst 0, 1) := by decide +kernel
theorem d_M_look_11 : decode b_M_look 11 = .ok (.istore_n 1, 1) := by decide +kernel
theorem d_M_look_12 : decode b_M_look 12 = .ok (.iload_n 1, 1) := by decide +kernel
theorem d_M_look_13 : decode b_M_look 13 = .ok (.iconst 4, 1) := by decide +kernel
theorem d_M_look_14 : decode b_M_look 14 = .ok (.if_icmp .ge 21, 3) := by decide +kernel
theorem d_M_look_17 : decode b_M_look 17 = .ok (.aload_n 0, 1) := by decide +kernel
theorem d_M_look_18 : decode b_M_look 18 = .ok (.iload_n 1, 1) := by decide +kernel
theorem d_M_look_19 : decode b_M_look 19 = .ok (.invokevirtual 125, 3) := by decide +kernel
theorem d_M_look_22 : decode b_M_look 22 = .ok (.aload_n 0, 1) := by decide +kernel
theorem d_M_look_23 : decode b_M_look 23 = .ok (.iconst 0, 1) := by decide +kernel
theorem d_M_look_24 : decode b_M_look 24 = .ok (.iload_n 1, 1) := by decide +kernel
theorem d_M_look_25 : decode b_M_look 25 = .ok (.iconst (-1), 1) := by decide +kernel
theorem d_M_look_26 : decode b_M_look 26 = .ok (.invokevirtual 169, 3) := by decide +kernel
theorem d_M_look_29 : decode b_M_look 29 = .ok (.iinc 1 1, 3) := by decide +kernel
theorem d_M_look_32 : decode b_M_look 32 = .ok (.goto (-20), 3) := by decide +kernel
theorem d_M_look_35 : decode b_M_look 35 = .ok (.iconst 0, 1) := by decide +kernel
theorem d_M_look_36 : decode b_M_look 36 = .ok (.istore_n 1, 1) := by decide +kernel
theorem d_M_look_37 : decode b_M_look 37 = .ok (.iload_n 1, 1) := by decide +kernel
theorem d_M_look_38 : decode b_M_look 38 = .ok (.aload_n 0, 1) := by decide +kernel
theorem d_M_look_39 : decode b_M_look 39 = .ok (.getfield 102, 3) := by decide +kernel
theorem d_M_look_42 : decode b_M_look 42 = .ok (.if_icmp .ge 28, 3) := by decide +kernel
theorem d_M_look_45 : decode b_M_look 45 = .ok (.aload_n 0, 1) := by decide +kernel
theorem d_M_look_46 : decode b_M_look 46 = .ok (.iconst 4, 1) := by decide +kernel
theorem d_M_look_47 : decode b_M_look 47 = .ok (.aload_n 0, 1) := by decide +kernel
theorem d_M_look_48 : decode b_M_look 48 = .ok (.getfield 28, 3) := by decide +kernel
theorem d_M_look_51 : decode b_M_look 51 = .ok (.iload_n 1, 1) := by decide +kernel
theorem d_M_look_52 : decode b_M_look 52 = .ok (.iaload, 1) := by decide +kernel
theorem d_M_look_53 : decode b_M_look 53 = .ok (.iadd, 1) := by decide +kernel
theorem d_M_look_54 : decode b_M_look 54 = .ok (.invokevirtual 125, 3) := by decide +kernel
theorem d_M_look_57 : decode b_M_look 57 = .ok (.aload_n 0, 1) := by decide +kernel
theorem d_M_look_58 : decode b_M_look 58 = .ok (.iconst 1, 1) := by decide +kernel
theorem d_M_look_59 : decode b_M_look 59 = .ok (.iload_n 1, 1) := by decide +kernel
theorem d_M_look_60 : decode b_M_look 60 = .ok (.iconst (-1), 1) := by decide +kernel
theorem d_M_look_61 : decode b_M_look 61 = .ok (.invokevirtual 169, 3) := by decide +kernel
theorem d_M_look_64 : decode b_M_look 64 = .ok (.iinc 1 1, 3) := by decide +kernel
theorem d_M_look_67 : decode b_M_look 67 = .ok (.goto (-30), 3) := by decide +kernel
theorem d_M_look_70 : decode b_M_look 70 = .ok (.iconst 0, 1) := by decide +kernel
theorem d_M_look_71 : decode b_M_look 71 = .ok (.istore_n 1, 1) := by decide +kernel
theorem d_M_look_72 : decode b_M_look 72 = .ok (.iload_n 1, 1) := by decide +kernel
theorem d_M_look_73 : decode b_M_look 73 = .ok (.aload_n 0, 1) := by decide +kernel
theorem d_M_look_74 : decode b_M_look 74 = .ok (.getfield 111, 3) := by decide +kernel
theorem d_M_look_77 : decode b_M_look 77 = .ok (.if_icmp .ge 38, 3) := by decide +kernel
theorem d_M_look_80 : decode b_M_look 80 = .ok (.iconst 0, 1) := by decide +kernel
theorem d_M_look_81 : decode b_M_look 81 = .ok (.istore_n 2, 1) := by decide +kernel
theorem d_M_look_82 : decode b_M_look 82 = .ok (.iload_n 2, 1) := by decide +kernel
theorem d_M_look_83 : decode b_M_look 83 = .ok (.iconst 4, 1) := by decide +kernel
theorem d_M_look_84 : decode b_M_look 84 = .ok (.if_icmp .ge 25, 3) := by decide +kernel
theorem d_M_look_87 : decode b_M_look 87 = .ok (.aload_n 0, 1) := by decide +kernel
theorem d_M_look_88 : decode b_M_look 88 = .ok (.iload_n 1, 1) := by decide +kernel
theorem d_M_look_89 : decode b_M_look 89 = .ok (.iload_n 2, 1) := by decide +kernel
theorem d_M_look_90 : decode b_M_look 90 = .ok (.invokevirtual 142, 3) := by decide +kernel
theorem d_M_look_93 : decode b_M_look 93 = .ok (.ifCond .eq 10, 3) := by decide +kernel
theorem d_M_look_96 : decode b_M_look 96 = .ok (.aload_n 0, 1) := by decide +kernel
theorem d_M_look_97 : decode b_M_look 97 = .ok (.iconst 2, 1) := by decide +kernel
theorem d_M_look_98 : decode b_M_look 98 = .ok (.iload_n 1, 1) := by decide +kernel
theorem d_M_look_99 : decode b_M_look 99 = .ok (.iload_n 2, 1) := by decide +kernel
theorem d_M_look_100 : decode b_M_look 100 = .ok (.invokevirtual 169, 3) := by decide +kernel
theorem d_M_look_103 : decode b_M_look 103 = .ok (.iinc 2 1, 3) := by decide +kernel
theorem d_M_look_106 : decode b_M_look 106 = .ok (.goto (-24), 3) := by decide +kernel
theorem d_M_look_109 : decode b_M_look 109 = .ok (.iinc 1 1, 3) := by decide +kernel
theorem d_M_look_112 : decode b_M_look 112 = .ok (.goto (-40), 3) := by decide +kernel
theorem d_M_look_115 : decode b_M_look 115 = .ok (.aload_n 0, 1) := by decide +kernel
theorem d_M_look_116 : decode b_M_look 116 = .ok (.getfield 166, 3) := by decide +kernel
theorem d_M_look_119 : decode b_M_look 119 = .ok (.ireturn, 1) := by decide +kernel
abbrev b_M_note : ByteArray := prog_11_method_30_code
def y_M_note : MethodName := ⟨"RedactCheckModel", "note", "(III)V"⟩
theorem d_M_note_0 : decode b_M_note 0 = .ok (.iconst 0, 1) := by decide +kernel
theorem d_M_note_1 : decode b_M_note 1 = .ok (.istore 4, 2) := by decide +kernel
theorem d_M_note_3 : decode b_M_note 3 = .ok (.iload 4, 2) := by decide +kernel
theorem d_M_note_5 : decode b_M_note 5 = .ok (.aload_n 0, 1) := by decide +kernel
theorem d_M_note_6 : decode b_M_note 6 = .ok (.getfield 114, 3) := by decide +kernel
theorem d_M_note_9 : decode b_M_note 9 = .ok (.if_icmp .ge 127, 3) := by decide +kernel
theorem d_M_note_12 : decode b_M_note 12 = .ok (.iconst 0, 1) := by decide +kernel
theorem d_M_note_13 : decode b_M_note 13 = .ok (.istore 5, 2) := by decide +kernel
theorem d_M_note_15 : decode b_M_note 15 = .ok (.iload 5, 2) := by decide +kernel
theorem d_M_note_17 : decode b_M_note 17 = .ok (.aload_n 0, 1) := by decide +kernel
theorem d_M_note_18 : decode b_M_note 18 = .ok (.getfield 105, 3) := by decide +kernel
theorem d_M_note_21 : decode b_M_note 21 = .ok (.if_icmp .ge 109, 3) := by decide +kernel
theorem d_M_note_24 : decode b_M_note 24 = .ok (.aload_n 0, 1) := by decide +kernel
theorem d_M_note_25 : decode b_M_note 25 = .ok (.getfield 166, 3) := by decide +kernel
theorem d_M_note_28 : decode b_M_note 28 = .ok (.bipush 100, 2) := by decide +kernel
theorem d_M_note_30 : decode b_M_note 30 = .ok (.if_icmp .ge 94, 3) := by decide +kernel
theorem d_M_note_33 : decode b_M_note 33 = .ok (.aload_n 0, 1) := by decide +kernel
theorem d_M_note_34 : decode b_M_note 34 = .ok (.iload 5, 2) := by decide +kernel
theorem d_M_note_36 : decode b_M_note 36 = .ok (.iload 4, 2) := by decide +kernel
theorem d_M_note_38 : decode b_M_note 38 = .ok (.invokevirtual 117, 3) := by decide +kernel
theorem d_M_note_41 : decode b_M_note 41 = .ok (.ifCond .eq 83, 3) := by decide +kernel
theorem d_M_note_44 : decode b_M_note 44 = .ok (.aload_n 0, 1) := by decide +kernel
theorem d_M_note_45 : decode b_M_note 45 = .ok (.getfield 67, 3) := by decide +kernel
theorem d_M_note_48 : decode b_M_note 48 = .ok (.iconst 5, 1) := by decide +kernel
theorem d_M_note_49 : decode b_M_note 49 = .ok (.aload_n 0, 1) := by decide +kernel
theorem d_M_note_50 : decode b_M_note 50 = .ok (.getfield 166, 3) := by decide +kernel
theorem d_M_note_53 : decode b_M_note 53 = .ok (.imul, 1) := by decide +kernel
theorem d_M_note_54 : decode b_M_note 54 = .ok (.iload_n 1, 1) := by decide +kernel
theorem d_M_note_55 : decode b_M_note 55 = .ok (.iastore, 1) := by decide +kernel
theorem d_M_note_56 : decode b_M_note 56 = .ok (.aload_n 0, 1) := by decide +kernel
theorem d_M_note_57 : decode b_M_note 57 = .ok (.getfield 67, 3) := by decide +kernel
theorem d_M_note_60 : decode b_M_note 60 = .ok (.iconst 5, 1) := by decide +kernel
theorem d_M_note_61 : decode b_M_note 61 = .ok (.aload_n 0, 1) := by decide +kernel
theorem d_M_note_62 : decode b_M_note 62 = .ok (.getfield 166, 3) := by decide +kernel
theorem d_M_note_65 : decode b_M_note 65 = .ok (.imul, 1) := by decide +kernel
theorem d_M_note_66 : decode b_M_note 66 = .ok (.iconst 1, 1) := by decide +kernel
theorem d_M_note_67 : decode b_M_note 67 = .ok (.iadd, 1) := by decide +kernel
theorem d_M_note_68 : decode b_M_note 68 = .ok (.iload_n 2, 1) := by decide +kernel
theorem d_M_note_69 : decode b_M_note 69 = .ok (.iastore, 1) := by decide +kernel
theorem d_M_note_70 : decode b_M_note 70 = .ok (.aload_n 0, 1) := by decide +kernel
theorem d_M_note_71 : decode b_M_note 71 = .ok (.getfield 67, 3) := by decide +kernel
theorem d_M_note_74 : decode b_M_note 74 = .ok (.iconst 5, 1) := by decide +kernel
theorem d_M_note_75 : decode b_M_note 75 = .ok (.aload_n 0, 1) := by decide +kernel
theorem d_M_note_76 : decode b_M_note 76 = .ok (.getfield 166, 3) := by decide +kernel
theorem d_M_note_79 : decode b_M_note 79 = .ok (.imul, 1) := by decide +kernel
theorem d_M_note_80 : decode b_M_note 80 = .ok (.iconst 2, 1) := by decide +kernel
theorem d_M_note_81 : decode b_M_note 81 = .ok (.iadd, 1) := by decide +kernel
theorem d_M_note_82 : decode b_M_note 82 = .ok (.iload 4, 2) := by decide +kernel
theorem d_M_note_84 : decode b_M_note 84 = .ok (.iastore, 1) := by decide +kernel
theorem d_M_note_85 : decode b_M_note 85 = .ok (.aload_n 0, 1) := by decide +kernel
theorem d_M_note_86 : decode b_M_note 86 = .ok (.getfield 67, 3) := by decide +kernel
theorem d_M_note_89 : decode b_M_note 89 = .ok (.iconst 5, 1) := by decide +kernel
theorem d_M_note_90 : decode b_M_note 90 = .ok (.aload_n 0, 1) := by decide +kernel
theorem d_M_note_91 : decode b_M_note 91 = .ok (.getfield 166, 3) := by decide +kernel
theorem d_M_note_94 : decode b_M_note 94 = .ok (.imul, 1) := by decide +kernel
theorem d_M_note_95 : decode b_M_note 95 = .ok (.iconst 3, 1) := by decide +kernel
theorem d_M_note_96 : decode b_M_note 96 = .ok (.iadd, 1) := by decide +kernel
theorem d_M_note_97 : decode b_M_note 97 = .ok (.iload 5, 2) := by decide +kernel
theorem d_M_note_99 : decode b_M_note 99 = .ok (.iastore, 1) := by decide +kernel
theorem d_M_note_100 : decode b_M_note 100 = .ok (.aload_n 0, 1) := by decide +kernel
theorem d_M_note_101 : decode b_M_note 101 = .ok (.getfield 67, 3) := by decide +kernel
theorem d_M_note_104 : decode b_M_note 104 = .ok (.iconst 5, 1) := by decide +kernel
theorem d_M_note_105 : decode b_M_note 105 = .ok (.aload_n 0, 1) := by decide +kernel
theorem d_M_note_106 : decode b_M_note 106 = .ok (.getfield 166, 3) := by decide +kernel
theorem d_M_note_109 : decode b_M_note 109 = .ok (.imul, 1) := by decide +kernel
theorem d_M_note_110 : decode b_M_note 110 = .ok (.iconst 4, 1) := by decide +kernel
theorem d_M_note_111 : decode b_M_note 111 = .ok (.iadd, 1) := by decide +kernel
theorem d_M_note_112 : decode b_M_note 112 = .ok (.iload_n 3, 1) := by decide +kernel
theorem d_M_note_113 : decode b_M_note 113 = .ok (.iastore, 1) := by decide +kernel
theorem d_M_note_114 : decode b_M_note 114 = .ok (.aload_n 0, 1) := by decide +kernel
theorem d_M_note_115 : decode b_M_note 115 = .ok (.dup, 1) := by decide +kernel
theorem d_M_note_116 : decode b_M_note 116 = .ok (.getfield 166, 3) := by decide +kernel
theorem d_M_note_119 : decode b_M_note 119 = .ok (.iconst 1, 1) := by decide +kernel
theorem d_M_note_120 : decode b_M_note 120 = .ok (.iadd, 1) := by decide +kernel
theorem d_M_note_121 : decode b_M_note 121 = .ok (.putfield 166, 3) := by decide +kernel
theorem d_M_note_124 : decode b_M_note 124 = .ok (.iinc 5 1, 3) := by decide +kernel
theorem d_M_note_127 : decode b_M_note 127 = .ok (.goto (-112), 3) := by decide +kernel
theorem d_M_note_130 : decode b_M_note 130 = .ok (.iinc 4 1, 3) := by decide +kernel
theorem d_M_note_133 : decode b_M_note 133 = .ok (.goto (-130), 3) := by decide +kernel
theorem d_M_note_136 : decode b_M_note 136 = .ok (.return_, 1) := by decide +kernel
abbrev b_M_left : ByteArray := prog_11_method_32_code
def y_M_left : MethodName := ⟨"RedactCheckModel", "left", "(II)I"⟩
theorem d_M_left_0 : decode b_M_left 0 = .ok (.aload_n 0, 1) := by decide +kernel
theorem d_M_left_1 : decode b_M_left 1 = .ok (.iload_n 1, 1) := by decide +kernel
theorem d_M_left_2 : decode b_M_left 2 = .ok (.iconst 0, 1) := by decide +kernel
theorem d_M_left_3 : decode b_M_left 3 = .ok (.aload_n 0, 1) := by decide +kernel
theorem d_M_left_4 : decode b_M_left 4 = .ok (.getfield 166, 3) := by decide +kernel
theorem d_M_left_7 : decode b_M_left 7 = .ok (.iconst 1, 1) := by decide +kernel
theorem d_M_left_8 : decode b_M_left 8 = .ok (.isub, 1) := by decide +kernel
theorem d_M_left_9 : decode b_M_left 9 = .ok (.invokestatic 90, 3) := by decide +kernel
theorem d_M_left_12 : decode b_M_left 12 = .ok (.ifCond .eq 16, 3) := by decide +kernel
theorem d_M_left_15 : decode b_M_left 15 = .ok (.iload_n 2, 1) := by decide +kernel
theorem d_M_left_16 : decode b_M_left 16 = .ok (.iconst 0, 1) := by decide +kernel
theorem d_M_left_17 : decode b_M_left 17 = .ok (.iconst 4, 1) := by decide +kernel
theorem d_M_left_18 : decode b_M_left 18 = .ok (.invokestatic 90, 3) := by decide +kernel
theorem d_M_left_21 : decode b_M_left 21 = .ok (.ifCond .eq 7, 3) := by decide +kernel
theorem d_M_left_24 : decode b_M_left 24 = .ok (.iconst 0, 1) := by decide +kernel
theorem d_M_left_25 : decode b_M_left 25 = .ok (.goto 4, 3) := by decide +kernel
theorem d_M_left_28 : decode b_M_left 28 = .ok (.iconst 1, 1) := by decide +kernel
theorem d_M_left_29 : decode b_M_left 29 = .ok (.putfield 87, 3) := by decide +kernel
theorem d_M_left_32 : decode b_M_left 32 = .ok (.aload_n 0, 1) := by decide +kernel
theorem d_M_left_33 : decode b_M_left 33 = .ok (.getfield 87, 3) := by decide +kernel
theorem d_M_left_36 : decode b_M_left 36 = .ok (.ifCond .le 7, 3) := by decide +kernel
theorem d_M_left_39 : decode b_M_left 39 = .ok (.iconst 0, 1) := by decide +kernel
theorem d_M_left_40 : decode b_M_left 40 = .ok (.goto 13, 3) := by decide +kernel
theorem d_M_left_43 : decode b_M_left 43 = .ok (.aload_n 0, 1) := by decide +kernel
theorem d_M_left_44 : decode b_M_left 44 = .ok (.getfield 67, 3) := by decide +kernel
theorem d_M_left_47 : decode b_M_left 47 = .ok (.iconst 5, 1) := by decide +kernel
theorem d_M_left_48 : decode b_M_left 48 = .ok (.iload_n 1, 1) := by decide +kernel
theorem d_M_left_49 : decode b_M_left 49 = .ok (.imul, 1) := by decide +kernel
theorem d_M_left_50 : decode b_M_left 50 = .ok (.iload_n 2, 1) := by decide +kernel
theorem d_M_left_51 : decode b_M_left 51 = .ok (.iadd, 1) := by decide +kernel
theorem d_M_left_52 : decode b_M_left 52 = .ok (.iaload, 1) := by decide +kernel
theorem d_M_left_53 : decode b_M_left 53 = .ok (.ireturn, 1) := by decide +kernel
abbrev b_M_at : ByteArray := prog_11_method_33_code
def y_M_at : MethodName := ⟨"RedactCheckModel", "at", "(IIII)I"⟩
theorem d_M_at_0 : decode b_M_at 0 = .ok (.iload_n 1, 1) := by decide +kernel
theorem d_M_at_1 : decode b_M_at 1 = .ok (.ifCond .ne 12, 3) := by decide +kernel
theorem d_M_at_4 : decode b_M_at 4 = .ok (.iload_n 2, 1) := by decide +kernel
theorem d_M_at_5 : decode b_M_at 5 = .ok (.iconst 0, 1) := by decide +kernel
theorem d_M_at_6 : decode b_M_at 6 = .ok (.iconst 3, 1) := by decide +kernel
theorem d_M_at_7 : decode b_M_at 7 = .ok (.invokestatic 90, 3) := by decide +kernel
theorem d_M_at_10 : decode b_M_at 10 = .ok (.ifCond .ne 22, 3) := by decide +kernel
theorem d_M_at_13 : decode b_M_at 13 = .ok (.iload_n 1, 1) := by decide +kernel
theorem d_M_at_14 : decode b_M_at 14 = .ok (.iconst 1, 1) := by decide +kernel
theorem d_M_at_15 : decode b_M_at 15 = .ok (.if_icmp .ne 21, 3) := by decide +kernel
theorem d_M_at_18 : decode b_M_at 18 = .ok (.iload_n 2, 1) := by decide +kernel
theorem d_M_at_19 : decode b_M_at 19 = .ok (.iconst 0, 1) := by decide +kernel
theorem d_M_at_20 : decode b_M_at 20 = .ok (.aload_n 0, 1) := by decide +kernel
theorem d_M_at_21 : decode b_M_at 21 = .ok (.getfield 83, 3) := by decide +kernel
theorem d_M_at_24 : decode b_M_at 24 = .ok (.iconst 1, 1) := by decide +kernel
theorem d_M_at_25 : decode b_M_at 25 = .ok (.isub, 1) := by decide +kernel
theorem d_M_at_26 : decode b_M_at 26 = .ok (.invokestatic 90, 3) := by decide +kernel
theorem d_M_at_29 : decode b_M_at 29 = .ok (.ifCond .eq 7, 3) := by decide +kernel
theorem d_M_at_32 : decode b_M_at 32 = .ok (.iconst 1, 1) := by decide +kernel
theorem d_M_at_33 : decode b_M_at 33 = .ok (.goto 4, 3) := by decide +kernel
theorem d_M_at_36 : decode b_M_at 36 = .ok (.iconst 0, 1) := by decide +kernel
theorem d_M_at_37 : decode b_M_at 37 = .ok (.istore 5, 2) := by decide +kernel
theorem d_M_at_39 : decode b_M_at 39 = .ok (.iload_n 1, 1) := by decide +kernel
theorem d_M_at_40 : decode b_M_at 40 = .ok (.ifCond .ne 7, 3) := by decide +kernel
theorem d_M_at_43 : decode b_M_at 43 = .ok (.iload_n 2, 1) := by decide +kernel
theorem d_M_at_44 : decode b_M_at 44 = .ok (.goto 6, 3) := by decide +kernel
theorem d_M_at_47 : decode b_M_at 47 = .ok (.iconst 4, 1) := by decide +kernel
theorem d_M_at_48 : decode b_M_at 48 = .ok (.iload_n 2, 1) := by decide +kernel
theorem d_M_at_49 : decode b_M_at 49 = .ok (.iadd, 1) := by decide +kernel
theorem d_M_at_50 : decode b_M_at 50 = .ok (.istore 6, 2) := by decide +kernel
theorem d_M_at_52 : decode b_M_at 52 = .ok (.aload_n 0, 1) := by decide +kernel
theorem d_M_at_53 : decode b_M_at 53 = .ok (.iload 5, 2) := by decide +kernel
theorem d_M_at_55 : decode b_M_at 55 = .ok (.ifCond .eq 43, 3) := by decide +kernel
theorem d_M_at_58 : decode b_M_at 58 = .ok (.iload_n 3, 1) := by decide +kernel
theorem d_M_at_59 : decode b_M_at 59 = .ok (.iconst 0, 1) := by decide +kernel
theorem d_M_at_60 : decode b_M_at 60 = .ok (.aload_n 0, 1) := by decide +kernel
theorem d_M_at_61 : decode b_M_at 61 = .ok (.getfield 7, 3) := by decide +kernel
theorem d_M_at_64 : decode b_M_at 64 = .ok (.iload 5, 2) := by decide +kernel
theorem d_M_at_66 : decode b_M_at 66 = .ok (.ifCond .eq 8, 3) := by decide +kernel
theorem d_M_at_69 : decode b_M_at 69 = .ok (.iload 6, 2) := by decide +kernel
theorem d_M_at_71 : decode b_M_at 71 = .ok (.goto 4, 3) := by decide +kernel
theorem d_M_at_74 : decode b_M_at 74 = .ok (.iconst 0, 1) := by decide +kernel
theorem d_M_at_75 : decode b_M_at 75 = .ok (.iaload, 1) := by decide +kernel
theorem d_M_at_76 : decode b_M_at 76 = .ok (.iconst 1, 1) := by decide +kernel
theorem d_M_at_77 : decode b_M_at 77 = .ok (.isub, 1) := by decide +kernel
theorem d_M_at_78 : decode b_M_at 78 = .ok (.invokestatic 90, 3) := by decide +kernel
theorem d_M_at_81 : decode b_M_at 81 = .ok (.ifCond .eq 17, 3) := by decide +kernel
theorem d_M_at_84 : decode b_M_at 84 = .ok (.iload 4, 2) := by decide +kernel
theorem d_M_at_86 : decode b_M_at 86 = .ok (.iconst 0, 1) := by decide +kernel
theorem d_M_at_87 : decode b_M_at 87 = .ok (.iconst 3, 1) := by decide +kernel
theorem d_M_at_88 : decode b_M_at 88 = .ok (.invokestatic 90, 3) := by decide +kernel
theorem d_M_at_91 : decode b_M_at 91 = .ok (.ifCond .eq 7, 3) := by decide +kernel
theorem d_M_at_94 : decode b_M_at 94 = .ok (.iconst 0, 1) := by decide +kernel
theorem d_M_at_95 : decode b_M_at 95 = .ok (.goto 4, 3) := by decide +kernel
theorem d_M_at_98 : decode b_M_at 98 = .ok (.iconst 1, 1) := by decide +kernel
theorem d_M_at_99 : decode b_M_at 99 = .ok (.putfield 87, 3) := by decide +kernel
theorem d_M_at_102 : decode b_M_at 102 = .ok (.aload_n 0, 1) := by decide +kernel
theorem d_M_at_103 : decode b_M_at 103 = .ok (.getfield 87, 3) := by decide +kernel
theorem d_M_at_106 : decode b_M_at 106 = .ok (.ifCond .le 5, 3) := by decide +kernel
theorem d_M_at_109 : decode b_M_at 109 = .ok (.iconst 0, 1) := by decide +kernel
theorem d_M_at_110 : decode b_M_at 110 = .ok (.ireturn, 1) := by decide +kernel
theorem d_M_at_111 : decode b_M_at 111 = .ok (.bipush 40, 2) := by decide +kernel
theorem d_M_at_113 : decode b_M_at 113 = .ok (.iload 6, 2) := by decide +kernel
theorem d_M_at_115 : decode b_M_at 115 = .ok (.imul, 1) := by decide +kernel
theorem d_M_at_116 : decode b_M_at 116 = .ok (.iload_n 3, 1) := by decide +kernel
theorem d_M_at_117 : decode b_M_at 117 = .ok (.iadd, 1) := by decide +kernel
theorem d_M_at_118 : decode b_M_at 118 = .ok (.istore 7, 2) := by decide +kernel
theorem d_M_at_120 : decode b_M_at 120 = .ok (.iload 4, 2) := by decide +kernel
theorem d_M_at_122 : decode b_M_at 122 = .ok (.ifCond .ne 13, 3) := by decide +kernel
theorem d_M_at_125 : decode b_M_at 125 = .ok (.aload_n 0, 1) := by decide +kernel
theorem d_M_at_126 : decode b_M_at 126 = .ok (.getfield 13, 3) := by decide +kernel
theorem d_M_at_129 : decode b_M_at 129 = .ok (.iload 7, 2) := by decide +kernel
theorem d_M_at_131 : decode b_M_at 131 = .ok (.iaload, 1) := by decide +kernel
theorem d_M_at_132 : decode b_M_at 132 = .ok (.goto 42, 3) := by decide +kernel
theorem d_M_at_135 : decode b_M_at 135 = .ok (.iload 4, 2) := by decide +kernel
theorem d_M_at_137 : decode b_M_at 137 = .ok (.iconst 1, 1) := by decide +kernel
theorem d_M_at_138 : decode b_M_at 138 = .ok (.if_icmp .ne 13, 3) := by decide +kernel
theorem d_M_at_141 : decode b_M_at 141 = .ok (.aload_n 0, 1) := by decide +kernel
theorem d_M_at_142 : decode b_M_at 142 = .ok (.getfield 16, 3) := by decide +kernel
theorem d_M_at_145 : decode b_M_at 145 = .ok (.iload 7, 2) := by decide +kernel
theorem d_M_at_147 : decode b_M_at 147 = .ok (.iaload, 1) := by decide +kernel
theorem d_M_at_148 : decode b_M_at 148 = .ok (.goto 26, 3) := by decide +kernel
theorem d_M_at_151 : decode b_M_at 151 = .ok (.iload 4, 2) := by decide +kernel
theorem d_M_at_153 : decode b_M_at 153 = .ok (.iconst 2, 1) := by decide +kernel
theorem d_M_at_154 : decode b_M_at 154 = .ok (.if_icmp .ne 13, 3) := by decide +kernel
theorem d_M_at_157 : decode b_M_at 157 = .ok (.aload_n 0, 1) := by decide +kernel
theorem d_M_at_158 : decode b_M_at 158 = .ok (.getfield 19, 3) := by decide +kernel
theorem d_M_at_161 : decode b_M_at 161 = .ok (.iload 7, 2) := by decide +kernel
theorem d_M_at_163 : decode b_M_at 163 = .ok (.iaload, 1) := by decide +kernel
theorem d_M_at_164 : decode b_M_at 164 = .ok (.goto 10, 3) := by decide +kernel
theorem d_M_at_167 : decode b_M_at 167 = .ok (.aload_n 0, 1) := by decide +kernel
theorem d_M_at_168 : decode b_M_at 168 = .ok (.getfield 22, 3) := by decide +kernel
theorem d_M_at_171 : decode b_M_at 171 = .ok (.iload 7, 2) := by decide +kernel
theorem d_M_at_173 : decode b_M_at 173 = .ok (.iaload, 1) := by decide +kernel
theorem d_M_at_174 : decode b_M_at 174 = .ok (.ireturn, 1) := by decide +kernel
abbrev b_M_byteOf : ByteArray := prog_11_method_34_code
def y_M_byteOf : MethodName := ⟨"RedactCheckModel", "byteOf", "(II)B"⟩
theorem d_M_byteOf_0 : decode b_M_byteOf 0 = .ok (.aload_n 0, 1) := by decide +kernel
theorem d_M_byteOf_1 : decode b_M_byteOf 1 = .ok (.iload_n 1, 1) := by decide +kernel
theorem d_M_byteOf_2 : decode b_M_byteOf 2 = .ok (.iconst 0, 1) := by decide +kernel
theorem d_M_byteOf_3 : decode b_M_byteOf 3 = .ok (.aload_n 0, 1) := by decide +kernel
theorem d_M_byteOf_4 : decode b_M_byteOf 4 = .ok (.getfield 111, 3) := by decide +kernel
theorem d_M_byteOf_7 : decode b_M_byteOf 7 = .ok (.iconst 1, 1) := by decide +kernel
theorem d_M_byteOf_8 : decode b_M_byteOf 8 = .ok (.isub, 1) := by decide +kernel
theorem d_M_byteOf_9 : decode b_M_byteOf 9 = .ok (.invokestatic 90, 3) := by decide +kernel
theorem d_M_byteOf_12 : decode b_M_byteOf 12 = .ok (.ifCond .eq 41, 3) := by decide +kernel
theorem d_M_byteOf_15 : decode b_M_byteOf 15 = .ok (.iload_n 2, 1) := by decide +kernel
theorem d_M_byteOf_16 : decode b_M_byteOf 16 = .ok (.iconst 0, 1) := by decide +kernel
theorem d_M_byteOf_17 : decode b_M_byteOf 17 = .ok (.aload_n 0, 1) := by decide +kernel
theorem d_M_byteOf_18 : decode b_M_byteOf 18 = .ok (.getfield 61, 3) := by decide +kernel
theorem d_M_byteOf_21 : decode b_M_byteOf 21 = .ok (.iload_n 1, 1) := by decide +kernel
theorem d_M_byteOf_22 : decode b_M_byteOf 22 = .ok (.iconst 0, 1) := by decide +kernel
theorem d_M_byteOf_23 : decode b_M_byteOf 23 = .ok (.aload_n 0, 1) := by decide +kernel
theorem d_M_byteOf_24 : decode b_M_byteOf 24 = .ok (.getfield 111, 3) := by decide +kernel
theorem d_M_byteOf_27 : decode b_M_byteOf 27 = .ok (.iconst 1, 1) := by decide +kernel
theorem d_M_byteOf_28 : decode b_M_byteOf 28 = .ok (.isub, 1) := by decide +kernel
theorem d_M_byteOf_29 : decode b_M_byteOf 29 = .ok (.invokestatic 90, 3) := by decide +kernel
theorem d_M_byteOf_32 : decode b_M_byteOf 32 = .ok (.ifCond .eq 7, 3) := by decide +kernel
theorem d_M_byteOf_35 : decode b_M_byteOf 35 = .ok (.iload_n 1, 1) := by decide +kernel
theorem d_M_byteOf_36 : decode b_M_byteOf 36 = .ok (.goto 4, 3) := by decide +kernel
theorem d_M_byteOf_39 : decode b_M_byteOf 39 = .ok (.iconst 0, 1) := by decide +kernel
theorem d_M_byteOf_40 : decode b_M_byteOf 40 = .ok (.iaload, 1) := by decide +kernel
theorem d_M_byteOf_41 : decode b_M_byteOf 41 = .ok (.iconst 1, 1) := by decide +kernel
theorem d_M_byteOf_42 : decode b_M_byteOf 42 = .ok (.isub, 1) := by decide +kernel
theorem d_M_byteOf_43 : decode b_M_byteOf 43 = .ok (.invokestatic 90, 3) := by decide +kernel
theorem d_M_byteOf_46 : decode b_M_byteOf 46 = .ok (.ifCond .eq 7, 3) := by decide +kernel
theorem d_M_byteOf_49 : decode b_M_byteOf 49 = .ok (.iconst 0, 1) := by decide +kernel
theorem d_M_byteOf_50 : decode b_M_byteOf 50 = .ok (.goto 4, 3) := by decide +kernel
theorem d_M_byteOf_53 : decode b_M_byteOf 53 = .ok (.iconst 1, 1) := by decide +kernel
theorem d_M_byteOf_54 : decode b_M_byteOf 54 = .ok (.putfield 87, 3) := by decide +kernel
theorem d_M_byteOf_57 : decode b_M_byteOf 57 = .ok (.aload_n 0, 1) := by decide +kernel
theorem d_M_byteOf_58 : decode b_M_byteOf 58 = .ok (.getfield 87, 3) := by decide +kernel
theorem d_M_byteOf_61 : decode b_M_byteOf 61 = .ok (.ifCond .le 7, 3) := by decide +kernel
theorem d_M_byteOf_64 : decode b_M_byteOf 64 = .ok (.iconst 0, 1) := by decide +kernel
theorem d_M_byteOf_65 : decode b_M_byteOf 65 = .ok (.goto 15, 3) := by decide +kernel
theorem d_M_byteOf_68 : decode b_M_byteOf 68 = .ok (.aload_n 0, 1) := by decide +kernel
theorem d_M_byteOf_69 : decode b_M_byteOf 69 = .ok (.getfield 64, 3) := by decide +kernel
theorem d_M_byteOf_72 : decode b_M_byteOf 72 = .ok (.bipush 60, 2) := by decide +kernel
theorem d_M_byteOf_74 : decode b_M_byteOf 74 = .ok (.iload_n 1, 1) := by decide +kernel
theorem d_M_byteOf_75 : decode b_M_byteOf 75 = .ok (.imul, 1) := by decide +kernel
theorem d_M_byteOf_76 : decode b_M_byteOf 76 = .ok (.iload_n 2, 1) := by decide +kernel
theorem d_M_byteOf_77 : decode b_M_byteOf 77 = .ok (.iadd, 1) := by decide +kernel
theorem d_M_byteOf_78 : decode b_M_byteOf 78 = .ok (.iaload, 1) := by decide +kernel
theorem d_M_byteOf_79 : decode b_M_byteOf 79 = .ok (.i2b, 1) := by decide +kernel
theorem d_M_byteOf_80 : decode b_M_byteOf 80 = .ok (.ireturn, 1) := by decide +kernel
abbrev b_M_formOf : ByteArray := prog_11_method_35_code
def y_M_formOf : MethodName := ⟨"RedactCheckModel", "formOf", "(I)I"⟩
theorem d_M_formOf_0 : decode b_M_formOf 0 = .ok (.aload_n 0, 1) := by decide +kernel
theorem d_M_formOf_1 : decode b_M_formOf 1 = .ok (.iload_n 1, 1) := by decide +kernel
theorem d_M_formOf_2 : decode b_M_formOf 2 = .ok (.iconst 0, 1) := by decide +kernel
theorem d_M_formOf_3 : decode b_M_formOf 3 = .ok (.aload_n 0, 1) := by decide +kernel
theorem d_M_formOf_4 : decode b_M_formOf 4 = .ok (.getfield 102, 3) := by decide +kernel
theorem d_M_formOf_7 : decode b_M_formOf 7 = .ok (.iconst 1, 1) := by decide +kernel
theorem d_M_formOf_8 : decode b_M_formOf 8 = .ok (.isub, 1) := by decide +kernel
theorem d_M_formOf_9 : decode b_M_formOf 9 = .ok (.invokestatic 90, 3) := by decide +kernel
theorem d_M_formOf_12 : decode b_M_formOf 12 = .ok (.ifCond .eq 7, 3) := by decide +kernel
theorem d_M_formOf_15 : decode b_M_formOf 15 = .ok (.iconst 0, 1) := by decide +kernel
theorem d_M_formOf_16 : decode b_M_formOf 16 = .ok (.goto 4, 3) := by decide +kernel
theorem d_M_formOf_19 : decode b_M_formOf 19 = .ok (.iconst 1, 1) := by decide +kernel
theorem d_M_formOf_20 : decode b_M_formOf 20 = .ok (.putfield 87, 3) := by decide +kernel
theorem d_M_formOf_23 : decode b_M_formOf 23 = .ok (.aload_n 0, 1) := by decide +kernel
theorem d_M_formOf_24 : decode b_M_formOf 24 = .ok (.getfield 87, 3) := by decide +kernel
theorem d_M_formOf_27 : decode b_M_formOf 27 = .ok (.ifCond .le 7, 3) := by decide +kernel
theorem d_M_formOf_30 : decode b_M_formOf 30 = .ok (.iconst 0, 1) := by decide +kernel
theorem d_M_formOf_31 : decode b_M_formOf 31 = .ok (.goto 9, 3) := by decide +kernel
theorem d_M_formOf_34 : decode b_M_formOf 34 = .ok (.aload_n 0, 1) := by decide +kernel
theorem d_M_formOf_35 : decode b_M_formOf 35 = .ok (.getfield 28, 3) := by decide +kernel
theorem d_M_formOf_38 : decode b_M_formOf 38 = .ok (.iload_n 1, 1) := by decide +kernel
theorem d_M_formOf_39 : decode b_M_formOf 39 = .ok (.iaload, 1) := by decide +kernel
theorem d_M_formOf_40 : decode b_M_formOf 40 = .ok (.ireturn, 1) := by decide +kernel
abbrev b_M_many : ByteArray := prog_11_method_36_code
def y_M_many : MethodName := ⟨"RedactCheckModel", "many", "(II)I"⟩
theorem d_M_many_0 : decode b_M_many 0 = .ok (.iload_n 1, 1) := by decide +kernel
theorem d_M_many_1 : decode b_M_many 1 = .ok (.ifCond .ne 7, 3) := by decide +kernel
theorem d_M_many_4 : decode b_M_many 4 = .ok (.iconst 4, 1) := by decide +kernel
theorem d_M_many_5 : decode b_M_many 5 = .ok (.goto 40, 3) := by decide +kernel
theorem d_M_many_8 : decode b_M_many 8 = .ok (.iload_n 1, 1) := by decide +kernel
theorem d_M_many_9 : decode b_M_many 9 = .ok (.iconst 1, 1) := by decide +kernel
theorem d_M_many_10 : decode b_M_many 10 = .ok (.if_icmp .ne 10, 3) := by decide +kernel
theorem d_M_many_13 : decode b_M_many 13 = .ok (.aload_n 0, 1) := by decide +kernel
theorem d_M_many_14 : decode b_M_many 14 = .ok (.getfield 83, 3) := by decide +kernel
theorem d_M_many_17 : decode b_M_many 17 = .ok (.goto 28, 3) := by decide +kernel
theorem d_M_many_20 : decode b_M_many 20 = .ok (.iload_n 1, 1) := by decide +kernel
theorem d_M_many_21 : decode b_M_many 21 = .ok (.iconst 2, 1) := by decide +kernel
theorem d_M_many_22 : decode b_M_many 22 = .ok (.if_icmp .ne 10, 3) := by decide +kernel
theorem d_M_many_25 : decode b_M_many 25 = .ok (.aload_n 0, 1) := by decide +kernel
theorem d_M_many_26 : decode b_M_many 26 = .ok (.getfield 111, 3) := by decide +kernel
theorem d_M_many_29 : decode b_M_many 29 = .ok (.goto 16, 3) := by decide +kernel
theorem d_M_many_32 : decode b_M_many 32 = .ok (.iload_n 1, 1) := by decide +kernel
theorem d_M_many_33 : decode b_M_many 33 = .ok (.iconst 3, 1) := by decide +kernel
theorem d_M_many_34 : decode b_M_many 34 = .ok (.if_icmp .ne 10, 3) := by decide +kernel
theorem d_M_many_37 : decode b_M_many 37 = .ok (.aload_n 0, 1) := by decide +kernel
theorem d_M_many_38 : decode b_M_many 38 = .ok (.getfield 105, 3) := by decide +kernel
theorem d_M_many_41 : decode b_M_many 41 = .ok (.goto 4, 3) := by decide +kernel
theorem d_M_many_44 : decode b_M_many 44 = .ok (.iconst 0, 1) := by decide +kernel
theorem d_M_many_45 : decode b_M_many 45 = .ok (.istore_n 3, 1) := by decide +kernel
theorem d_M_many_46 : decode b_M_many 46 = .ok (.aload_n 0, 1) := by decide +kernel
theorem d_M_many_47 : decode b_M_many 47 = .ok (.iload_n 2, 1) := by decide +kernel
theorem d_M_many_48 : decode b_M_many 48 = .ok (.iconst 0, 1) := by decide +kernel
theorem d_M_many_49 : decode b_M_many 49 = .ok (.iload_n 3, 1) := by decide +kernel
theorem d_M_many_50 : decode b_M_many 50 = .ok (.iconst 1, 1) := by decide +kernel
theorem d_M_many_51 : decode b_M_many 51 = .ok (.isub, 1) := by decide +kernel
theorem d_M_many_52 : decode b_M_many 52 = .ok (.invokestatic 90, 3) := by decide +kernel
theorem d_M_many_55 : decode b_M_many 55 = .ok (.ifCond .eq 7, 3) := by decide +kernel
theorem d_M_many_58 : decode b_M_many 58 = .ok (.iconst 0, 1) := by decide +kernel
theorem d_M_many_59 : decode b_M_many 59 = .ok (.goto 4, 3) := by decide +kernel
theorem d_M_many_62 : decode b_M_many 62 = .ok (.iconst 1, 1) := by decide +kernel
theorem d_M_many_63 : decode b_M_many 63 = .ok (.putfield 87, 3) := by decide +kernel
theorem d_M_many_66 : decode b_M_many 66 = .ok (.aload_n 0, 1) := by decide +kernel
theorem d_M_many_67 : decode b_M_many 67 = .ok (.getfield 87, 3) := by decide +kernel
theorem d_M_many_70 : decode b_M_many 70 = .ok (.ifCond .le 5, 3) := by decide +kernel
theorem d_M_many_73 : decode b_M_many 73 = .ok (.iconst 0, 1) := by decide +kernel
theorem d_M_many_74 : decode b_M_many 74 = .ok (.ireturn, 1) := by decide +kernel
theorem d_M_many_75 : decode b_M_many 75 = .ok (.iload_n 1, 1) := by decide +kernel
theorem d_M_many_76 : decode b_M_many 76 = .ok (.ifCond .ne 12, 3) := by decide +kernel
theorem d_M_many_79 : decode b_M_many 79 = .ok (.aload_n 0, 1) := by decide +kernel
theorem d_M_many_80 : decode b_M_many 80 = .ok (.getfield 7, 3) := by decide +kernel
theorem d_M_many_83 : decode b_M_many 83 = .ok (.iload_n 2, 1) := by decide +kernel
theorem d_M_many_84 : decode b_M_many 84 = .ok (.iaload, 1) := by decide +kernel
theorem d_M_many_85 : decode b_M_many 85 = .ok (.goto 39, 3) := by decide +kernel
theorem d_M_many_88 : decode b_M_many 88 = .ok (.iload_n 1, 1) := by decide +kernel
theorem d_M_many_89 : decode b_M_many 89 = .ok (.iconst 1, 1) := by decide +kernel
theorem d_M_many_90 : decode b_M_many 90 = .ok (.if_icmp .ne 14, 3) := by decide +kernel
theorem d_M_many_93 : decode b_M_many 93 = .ok (.aload_n 0, 1) := by decide +kernel
theorem d_M_many_94 : decode b_M_many 94 = .ok (.getfield 7, 3) := by decide +kernel
theorem d_M_many_97 : decode b_M_many 97 = .ok (.iconst 4, 1) := by decide +kernel
theorem d_M_many_98 : decode b_M_many 98 = .ok (.iload_n 2, 1) := by decide +kernel
theorem d_M_many_99 : decode b_M_many 99 = .ok (.iadd, 1) := by decide +kernel
theorem d_M_many_100 : decode b_M_many 100 = .ok (.iaload, 1) := by decide +kernel
theorem d_M_many_101 : decode b_M_many 101 = .ok (.goto 23, 3) := by decide +kernel
theorem d_M_many_104 : decode b_M_many 104 = .ok (.iload_n 1, 1) := by decide +kernel
theorem d_M_many_105 : decode b_M_many 105 = .ok (.iconst 2, 1) := by decide +kernel
theorem d_M_many_106 : decode b_M_many 106 = .ok (.if_icmp .ne 12, 3) := by decide +kernel
theorem d_M_many_109 : decode b_M_many 109 = .ok (.aload_n 0, 1) := by decide +kernel
theorem d_M_many_110 : decode b_M_many 110 = .ok (.getfield 61, 3) := by decide +kernel
theorem d_M_many_113 : decode b_M_many 113 = .ok (.iload_n 2, 1) := by decide +kernel
theorem d_M_many_114 : decode b_M_many 114 = .ok (.iaload, 1) := by decide +kernel
theorem d_M_many_115 : decode b_M_many 115 = .ok (.goto 9, 3) := by decide +kernel
theorem d_M_many_118 : decode b_M_many 118 = .ok (.aload_n 0, 1) := by decide +kernel
theorem d_M_many_119 : decode b_M_many 119 = .ok (.getfield 37, 3) := by decide +kernel
theorem d_M_many_122 : decode b_M_many 122 = .ok (.iload_n 2, 1) := by decide +kernel
theorem d_M_many_123 : decode b_M_many 123 = .ok (.iaload, 1) := by decide +kernel
theorem d_M_many_124 : decode b_M_many 124 = .ok (.ireturn, 1) := by decide +kernel
abbrev b_M_told : ByteArray := prog_11_method_37_code
def y_M_told : MethodName := ⟨"RedactCheckModel", "told", "(I)I"⟩
theorem d_M_told_0 : decode b_M_told 0 = .ok (.aload_n 0, 1) := by decide +kernel
theorem d_M_told_1 : decode b_M_told 1 = .ok (.iconst 0, 1) := by decide +kernel
theorem d_M_told_2 : decode b_M_told 2 = .ok (.putfield 87, 3) := by decide +kernel
theorem d_M_told_5 : decode b_M_told 5 = .ok (.iload_n 1, 1) := by decide +kernel
theorem d_M_told_6 : decode b_M_told 6 = .ok (.ifCond .ne 10, 3) := by decide +kernel
theorem d_M_told_9 : decode b_M_told 9 = .ok (.aload_n 0, 1) := by decide +kernel
theorem d_M_told_10 : decode b_M_told 10 = .ok (.getfield 83, 3) := by decide +kernel
theorem d_M_told_13 : decode b_M_told 13 = .ok (.goto 64, 3) := by decide +kernel
theorem d_M_told_16 : decode b_M_told 16 = .ok (.iload_n 1, 1) := by decide +kernel
theorem d_M_told_17 : decode b_M_told 17 = .ok (.iconst 1, 1) := by decide +kernel
theorem d_M_told_18 : decode b_M_told 18 = .ok (.if_icmp .ne 10, 3) := by decide +kernel
theorem d_M_told_21 : decode b_M_told 21 = .ok (.aload_n 0, 1) := by decide +kernel
theorem d_M_told_22 : decode b_M_told 22 = .ok (.getfield 102, 3) := by decide +kernel
theorem d_M_told_25 : decode b_M_told 25 = .ok (.goto 52, 3) := by decide +kernel
theorem d_M_told_28 : decode b_M_told 28 = .ok (.iload_n 1, 1) := by decide +kernel
theorem d_M_told_29 : decode b_M_told 29 = .ok (.iconst 2, 1) := by decide +kernel
end
section
theorem d_M_told_30 : decode b_M_told 30 = .ok (.if_icmp .ne 10, 3) := by decide +kernel
theorem d_M_told_33 : decode b_M_told 33 = .ok (.aload_n 0, 1) := by decide +kernel
theorem d_M_told_34 : decode b_M_told 34 = .ok (.getfield 105, 3) := by decide +kernel
theorem d_M_told_37 : decode b_M_told 37 = .ok (.goto 40, 3) := by decide +kernel
theorem d_M_told_40 : decode b_M_told 40 = .ok (.iload_n 1, 1) := by decide +kernel
theorem d_M_told_41 : decode b_M_told 41 = .ok (.iconst 3, 1) := by decide +kernel
theorem d_M_told_42 : decode b_M_told 42 = .ok (.if_icmp .ne 10, 3) := by decide +kernel
theorem d_M_told_45 : decode b_M_told 45 = .ok (.aload_n 0, 1) := by decide +kernel
theorem d_M_told_46 : decode b_M_told 46 = .ok (.getfield 108, 3) := by decide +kernel
theorem d_M_told_49 : decode b_M_told 49 = .ok (.goto 28, 3) := by decide +kernel
theorem d_M_told_52 : decode b_M_told 52 = .ok (.iload_n 1, 1) := by decide +kernel
theorem d_M_told_53 : decode b_M_told 53 = .ok (.iconst 4, 1) := by decide +kernel
theorem d_M_told_54 : decode b_M_told 54 = .ok (.if_icmp .ne 10, 3) := by decide +kernel
theorem d_M_told_57 : decode b_M_told 57 = .ok (.aload_n 0, 1) := by decide +kernel
theorem d_M_told_58 : decode b_M_told 58 = .ok (.getfield 111, 3) := by decide +kernel
theorem d_M_told_61 : decode b_M_told 61 = .ok (.goto 16, 3) := by decide +kernel
theorem d_M_told_64 : decode b_M_told 64 = .ok (.iload_n 1, 1) := by decide +kernel
theorem d_M_told_65 : decode b_M_told 65 = .ok (.iconst 5, 1) := by decide +kernel
theorem d_M_told_66 : decode b_M_told 66 = .ok (.if_icmp .ne 10, 3) := by decide +kernel
theorem d_M_told_69 : decode b_M_told 69 = .ok (.aload_n 0, 1) := by decide +kernel
theorem d_M_told_70 : decode b_M_told 70 = .ok (.getfield 166, 3) := by decide +kernel
theorem d_M_told_73 : decode b_M_told 73 = .ok (.goto 4, 3) := by decide +kernel
theorem d_M_told_76 : decode b_M_told 76 = .ok (.iconst (-1), 1) := by decide +kernel
theorem d_M_told_77 : decode b_M_told 77 = .ok (.ireturn, 1) := by decide +kernel
end
section
abbrev b_L_sign : ByteArray := method_3_code
def y_L_sign : MethodName := ⟨"RedactCheckLaw", "sign", "(LRedactCheck;IIIII[J)I"⟩
theorem d_L_sign_0 : decode b_L_sign 0 = .ok (.aload 6, 2) := by decide +kernel
theorem d_L_sign_2 : decode b_L_sign 2 = .ok (.iconst 0, 1) := by decide +kernel
theorem d_L_sign_3 : decode b_L_sign 3 = .ok (.aload_n 0, 1) := by decide +kernel
theorem d_L_sign_4 : decode b_L_sign 4 = .ok (.iload_n 1, 1) := by decide +kernel
theorem d_L_sign_5 : decode b_L_sign 5 = .ok (.iload_n 2, 1) := by decide +kernel
theorem d_L_sign_6 : decode b_L_sign 6 = .ok (.iload_n 3, 1) := by decide +kernel
theorem d_L_sign_7 : decode b_L_sign 7 = .ok (.iload 4, 2) := by decide +kernel
theorem d_L_sign_9 : decode b_L_sign 9 = .ok (.iload 5, 2) := by decide +kernel
theorem d_L_sign_11 : decode b_L_sign 11 = .ok (.invokevirtual 7, 3) := by decide +kernel
theorem d_L_sign_14 : decode b_L_sign 14 = .ok (.i2l, 1) := by decide +kernel
theorem d_L_sign_15 : decode b_L_sign 15 = .ok (.lastore, 1) := by decide +kernel
theorem d_L_sign_16 : decode b_L_sign 16 = .ok (.goto 15, 3) := by decide +kernel
theorem d_L_sign_19 : decode b_L_sign 19 = .ok (.astore 7, 2) := by decide +kernel
theorem d_L_sign_21 : decode b_L_sign 21 = .ok (.iconst 1, 1) := by decide +kernel
theorem d_L_sign_22 : decode b_L_sign 22 = .ok (.ireturn, 1) := by decide +kernel
theorem d_L_sign_23 : decode b_L_sign 23 = .ok (.astore 7, 2) := by decide +kernel
theorem d_L_sign_25 : decode b_L_sign 25 = .ok (.iconst 2, 1) := by decide +kernel
theorem d_L_sign_26 : decode b_L_sign 26 = .ok (.ireturn, 1) := by decide +kernel
theorem d_L_sign_27 : decode b_L_sign 27 = .ok (.astore 7, 2) := by decide +kernel
theorem d_L_sign_29 : decode b_L_sign 29 = .ok (.iconst 3, 1) := by decide +kernel
theorem d_L_sign_30 : decode b_L_sign 30 = .ok (.ireturn, 1) := by decide +kernel
theorem d_L_sign_31 : decode b_L_sign 31 = .ok (.iconst 0, 1) := by decide +kernel
theorem d_L_sign_32 : decode b_L_sign 32 = .ok (.ireturn, 1) := by decide +kernel
abbrev b_L_form : ByteArray := method_4_code
def y_L_form : MethodName := ⟨"RedactCheckLaw", "form", "(LRedactCheck;[J)I"⟩
theorem d_L_form_0 : decode b_L_form 0 = .ok (.aload_n 1, 1) := by decide +kernel
theorem d_L_form_1 : decode b_L_form 1 = .ok (.iconst 0, 1) := by decide +kernel
theorem d_L_form_2 : decode b_L_form 2 = .ok (.aload_n 0, 1) := by decide +kernel
theorem d_L_form_3 : decode b_L_form 3 = .ok (.invokevirtual 19, 3) := by decide +kernel
theorem d_L_form_6 : decode b_L_form 6 = .ok (.i2l, 1) := by decide +kernel
theorem d_L_form_7 : decode b_L_form 7 = .ok (.lastore, 1) := by decide +kernel
theorem d_L_form_8 : decode b_L_form 8 = .ok (.goto 6, 3) := by decide +kernel
theorem d_L_form_11 : decode b_L_form 11 = .ok (.astore_n 2, 1) := by decide +kernel
theorem d_L_form_12 : decode b_L_form 12 = .ok (.iconst 1, 1) := by decide +kernel
theorem d_L_form_13 : decode b_L_form 13 = .ok (.ireturn, 1) := by decide +kernel
theorem d_L_form_14 : decode b_L_form 14 = .ok (.iconst 0, 1) := by decide +kernel
theorem d_L_form_15 : decode b_L_form 15 = .ok (.ireturn, 1) := by decide +kernel
abbrev b_L_formSign : ByteArray := method_5_code
def y_L_formSign : MethodName := ⟨"RedactCheckLaw", "formSign", "(LRedactCheck;IIIII[J)I"⟩
theorem d_L_formSign_0 : decode b_L_formSign 0 = .ok (.aload 6, 2) := by decide +kernel
theorem d_L_formSign_2 : decode b_L_formSign 2 = .ok (.iconst 0, 1) := by decide +kernel
theorem d_L_formSign_3 : decode b_L_formSign 3 = .ok (.aload_n 0, 1) := by decide +kernel
theorem d_L_formSign_4 : decode b_L_formSign 4 = .ok (.iload_n 1, 1) := by decide +kernel
theorem d_L_formSign_5 : decode b_L_formSign 5 = .ok (.iload_n 2, 1) := by decide +kernel
theorem d_L_formSign_6 : decode b_L_formSign 6 = .ok (.iload_n 3, 1) := by decide +kernel
theorem d_L_formSign_7 : decode b_L_formSign 7 = .ok (.iload 4, 2) := by decide +kernel
theorem d_L_formSign_9 : decode b_L_formSign 9 = .ok (.iload 5, 2) := by decide +kernel
theorem d_L_formSign_11 : decode b_L_formSign 11 = .ok (.invokevirtual 23, 3) := by decide +kernel
theorem d_L_formSign_14 : decode b_L_formSign 14 = .ok (.i2l, 1) := by decide +kernel
theorem d_L_formSign_15 : decode b_L_formSign 15 = .ok (.lastore, 1) := by decide +kernel
theorem d_L_formSign_16 : decode b_L_formSign 16 = .ok (.goto 15, 3) := by decide +kernel
theorem d_L_formSign_19 : decode b_L_formSign 19 = .ok (.astore 7, 2) := by decide +kernel
theorem d_L_formSign_21 : decode b_L_formSign 21 = .ok (.iconst 1, 1) := by decide +kernel
theorem d_L_formSign_22 : decode b_L_formSign 22 = .ok (.ireturn, 1) := by decide +kernel
theorem d_L_formSign_23 : decode b_L_formSign 23 = .ok (.astore 7, 2) := by decide +kernel
theorem d_L_formSign_25 : decode b_L_formSign 25 = .ok (.iconst 2, 1) := by decide +kernel
theorem d_L_formSign_26 : decode b_L_formSign 26 = .ok (.ireturn, 1) := by decide +kernel
theorem d_L_formSign_27 : decode b_L_formSign 27 = .ok (.astore 7, 2) := by decide +kernel
theorem d_L_formSign_29 : decode b_L_formSign 29 = .ok (.iconst 3, 1) := by decide +kernel
theorem d_L_formSign_30 : decode b_L_formSign 30 = .ok (.ireturn, 1) := by decide +kernel
theorem d_L_formSign_31 : decode b_L_formSign 31 = .ok (.iconst 0, 1) := by decide +kernel
theorem d_L_formSign_32 : decode b_L_formSign 32 = .ok (.ireturn, 1) := by decide +kernel
abbrev b_L_use : ByteArray := method_6_code
def y_L_use : MethodName := ⟨"RedactCheckLaw", "use", "(LRedactCheck;IIII[J)I"⟩
theorem d_L_use_0 : decode b_L_use 0 = .ok (.aload 5, 2) := by decide +kernel
theorem d_L_use_2 : decode b_L_use 2 = .ok (.iconst 0, 1) := by decide +kernel
theorem d_L_use_3 : decode b_L_use 3 = .ok (.aload_n 0, 1) := by decide +kernel
theorem d_L_use_4 : decode b_L_use 4 = .ok (.iload_n 1, 1) := by decide +kernel
theorem d_L_use_5 : decode b_L_use 5 = .ok (.iload_n 2, 1) := by decide +kernel
theorem d_L_use_6 : decode b_L_use 6 = .ok (.iload_n 3, 1) := by decide +kernel
theorem d_L_use_7 : decode b_L_use 7 = .ok (.iload 4, 2) := by decide +kernel
theorem d_L_use_9 : decode b_L_use 9 = .ok (.invokevirtual 26, 3) := by decide +kernel
theorem d_L_use_12 : decode b_L_use 12 = .ok (.i2l, 1) := by decide +kernel
theorem d_L_use_13 : decode b_L_use 13 = .ok (.lastore, 1) := by decide +kernel
theorem d_L_use_14 : decode b_L_use 14 = .ok (.goto 15, 3) := by decide +kernel
theorem d_L_use_17 : decode b_L_use 17 = .ok (.astore 6, 2) := by decide +kernel
theorem d_L_use_19 : decode b_L_use 19 = .ok (.iconst 1, 1) := by decide +kernel
theorem d_L_use_20 : decode b_L_use 20 = .ok (.ireturn, 1) := by decide +kernel
theorem d_L_use_21 : decode b_L_use 21 = .ok (.astore 6, 2) := by decide +kernel
theorem d_L_use_23 : decode b_L_use 23 = .ok (.iconst 2, 1) := by decide +kernel
theorem d_L_use_24 : decode b_L_use 24 = .ok (.ireturn, 1) := by decide +kernel
theorem d_L_use_25 : decode b_L_use 25 = .ok (.astore 6, 2) := by decide +kernel
theorem d_L_use_27 : decode b_L_use 27 = .ok (.iconst 3, 1) := by decide +kernel
theorem d_L_use_28 : decode b_L_use 28 = .ok (.ireturn, 1) := by decide +kernel
theorem d_L_use_29 : decode b_L_use 29 = .ok (.iconst 0, 1) := by decide +kernel
theorem d_L_use_30 : decode b_L_use 30 = .ok (.ireturn, 1) := by decide +kernel
abbrev b_L_word : ByteArray := method_7_code
def y_L_word : MethodName := ⟨"RedactCheckLaw", "word", "(LRedactCheck;[J)I"⟩
theorem d_L_word_0 : decode b_L_word 0 = .ok (.aload_n 1, 1) := by decide +kernel
theorem d_L_word_1 : decode b_L_word 1 = .ok (.iconst 0, 1) := by decide +kernel
theorem d_L_word_2 : decode b_L_word 2 = .ok (.aload_n 0, 1) := by decide +kernel
theorem d_L_word_3 : decode b_L_word 3 = .ok (.invokevirtual 30, 3) := by decide +kernel
theorem d_L_word_6 : decode b_L_word 6 = .ok (.i2l, 1) := by decide +kernel
theorem d_L_word_7 : decode b_L_word 7 = .ok (.lastore, 1) := by decide +kernel
theorem d_L_word_8 : decode b_L_word 8 = .ok (.goto 6, 3) := by decide +kernel
theorem d_L_word_11 : decode b_L_word 11 = .ok (.astore_n 2, 1) := by decide +kernel
theorem d_L_word_12 : decode b_L_word 12 = .ok (.iconst 1, 1) := by decide +kernel
theorem d_L_word_13 : decode b_L_word 13 = .ok (.ireturn, 1) := by decide +kernel
theorem d_L_word_14 : decode b_L_word 14 = .ok (.iconst 0, 1) := by decide +kernel
theorem d_L_word_15 : decode b_L_word 15 = .ok (.ireturn, 1) := by decide +kernel
abbrev b_L_letter : ByteArray := method_8_code
def y_L_letter : MethodName := ⟨"RedactCheckLaw", "letter", "(LRedactCheck;II[J)I"⟩
theorem d_L_letter_0 : decode b_L_letter 0 = .ok (.aload_n 3, 1) := by decide +kernel
theorem d_L_letter_1 : decode b_L_letter 1 = .ok (.iconst 0, 1) := by decide +kernel
theorem d_L_letter_2 : decode b_L_letter 2 = .ok (.aload_n 0, 1) := by decide +kernel
theorem d_L_letter_3 : decode b_L_letter 3 = .ok (.iload_n 1, 1) := by decide +kernel
theorem d_L_letter_4 : decode b_L_letter 4 = .ok (.iload_n 2, 1) := by decide +kernel
theorem d_L_letter_5 : decode b_L_letter 5 = .ok (.invokevirtual 33, 3) := by decide +kernel
theorem d_L_letter_8 : decode b_L_letter 8 = .ok (.i2l, 1) := by decide +kernel
theorem d_L_letter_9 : decode b_L_letter 9 = .ok (.lastore, 1) := by decide +kernel
theorem d_L_letter_10 : decode b_L_letter 10 = .ok (.goto 15, 3) := by decide +kernel
theorem d_L_letter_13 : decode b_L_letter 13 = .ok (.astore 4, 2) := by decide +kernel
theorem d_L_letter_15 : decode b_L_letter 15 = .ok (.iconst 1, 1) := by decide +kernel
theorem d_L_letter_16 : decode b_L_letter 16 = .ok (.ireturn, 1) := by decide +kernel
theorem d_L_letter_17 : decode b_L_letter 17 = .ok (.astore 4, 2) := by decide +kernel
theorem d_L_letter_19 : decode b_L_letter 19 = .ok (.iconst 2, 1) := by decide +kernel
theorem d_L_letter_20 : decode b_L_letter 20 = .ok (.ireturn, 1) := by decide +kernel
theorem d_L_letter_21 : decode b_L_letter 21 = .ok (.astore 4, 2) := by decide +kernel
theorem d_L_letter_23 : decode b_L_letter 23 = .ok (.iconst 3, 1) := by decide +kernel
theorem d_L_letter_24 : decode b_L_letter 24 = .ok (.ireturn, 1) := by decide +kernel
theorem d_L_letter_25 : decode b_L_letter 25 = .ok (.iconst 0, 1) := by decide +kernel
theorem d_L_letter_26 : decode b_L_letter 26 = .ok (.ireturn, 1) := by decide +kernel
abbrev b_L_area : ByteArray := method_9_code
def y_L_area : MethodName := ⟨"RedactCheckLaw", "area", "(LRedactCheck;IIIII[J)I"⟩
theorem d_L_area_0 : decode b_L_area 0 = .ok (.aload 6, 2) := by decide +kernel
theorem d_L_area_2 : decode b_L_area 2 = .ok (.iconst 0, 1) := by decide +kernel
theorem d_L_area_3 : decode b_L_area 3 = .ok (.aload_n 0, 1) := by decide +kernel
theorem d_L_area_4 : decode b_L_area 4 = .ok (.iload_n 1, 1) := by decide +kernel
theorem d_L_area_5 : decode b_L_area 5 = .ok (.iload_n 2, 1) := by decide +kernel
theorem d_L_area_6 : decode b_L_area 6 = .ok (.iload_n 3, 1) := by decide +kernel
theorem d_L_area_7 : decode b_L_area 7 = .ok (.iload 4, 2) := by decide +kernel
theorem d_L_area_9 : decode b_L_area 9 = .ok (.iload 5, 2) := by decide +kernel
theorem d_L_area_11 : decode b_L_area 11 = .ok (.invokevirtual 37, 3) := by decide +kernel
theorem d_L_area_14 : decode b_L_area 14 = .ok (.i2l, 1) := by decide +kernel
theorem d_L_area_15 : decode b_L_area 15 = .ok (.lastore, 1) := by decide +kernel
theorem d_L_area_16 : decode b_L_area 16 = .ok (.goto 15, 3) := by decide +kernel
theorem d_L_area_19 : decode b_L_area 19 = .ok (.astore 7, 2) := by decide +kernel
theorem d_L_area_21 : decode b_L_area 21 = .ok (.iconst 1, 1) := by decide +kernel
theorem d_L_area_22 : decode b_L_area 22 = .ok (.ireturn, 1) := by decide +kernel
theorem d_L_area_23 : decode b_L_area 23 = .ok (.astore 7, 2) := by decide +kernel
theorem d_L_area_25 : decode b_L_area 25 = .ok (.iconst 2, 1) := by decide +kernel
theorem d_L_area_26 : decode b_L_area 26 = .ok (.ireturn, 1) := by decide +kernel
theorem d_L_area_27 : decode b_L_area 27 = .ok (.astore 7, 2) := by decide +kernel
theorem d_L_area_29 : decode b_L_area 29 = .ok (.iconst 3, 1) := by decide +kernel
theorem d_L_area_30 : decode b_L_area 30 = .ok (.ireturn, 1) := by decide +kernel
theorem d_L_area_31 : decode b_L_area 31 = .ok (.iconst 0, 1) := by decide +kernel
theorem d_L_area_32 : decode b_L_area 32 = .ok (.ireturn, 1) := by decide +kernel
abbrev b_L_store : ByteArray := method_10_code
def y_L_store : MethodName := ⟨"RedactCheckLaw", "store", "(LRedactCheck;I[J)I"⟩
theorem d_L_store_0 : decode b_L_store 0 = .ok (.aload_n 2, 1) := by decide +kernel
theorem d_L_store_1 : decode b_L_store 1 = .ok (.iconst 0, 1) := by decide +kernel
theorem d_L_store_2 : decode b_L_store 2 = .ok (.aload_n 0, 1) := by decide +kernel
theorem d_L_store_3 : decode b_L_store 3 = .ok (.iload_n 1, 1) := by decide +kernel
theorem d_L_store_4 : decode b_L_store 4 = .ok (.invokevirtual 40, 3) := by decide +kernel
theorem d_L_store_7 : decode b_L_store 7 = .ok (.i2l, 1) := by decide +kernel
theorem d_L_store_8 : decode b_L_store 8 = .ok (.lastore, 1) := by decide +kernel
theorem d_L_store_9 : decode b_L_store 9 = .ok (.goto 9, 3) := by decide +kernel
theorem d_L_store_12 : decode b_L_store 12 = .ok (.astore_n 3, 1) := by decide +kernel
theorem d_L_store_13 : decode b_L_store 13 = .ok (.iconst 1, 1) := by decide +kernel
theorem d_L_store_14 : decode b_L_store 14 = .ok (.ireturn, 1) := by decide +kernel
theorem d_L_store_15 : decode b_L_store 15 = .ok (.astore_n 3, 1) := by decide +kernel
theorem d_L_store_16 : decode b_L_store 16 = .ok (.iconst 2, 1) := by decide +kernel
theorem d_L_store_17 : decode b_L_store 17 = .ok (.ireturn, 1) := by decide +kernel
theorem d_L_store_18 : decode b_L_store 18 = .ok (.iconst 0, 1) := by decide +kernel
theorem d_L_store_19 : decode b_L_store 19 = .ok (.ireturn, 1) := by decide +kernel
abbrev b_L_octet : ByteArray := method_11_code
def y_L_octet : MethodName := ⟨"RedactCheckLaw", "octet", "(LRedactCheck;IB[J)I"⟩
theorem d_L_octet_0 : decode b_L_octet 0 = .ok (.aload_n 3, 1) := by decide +kernel
theorem d_L_octet_1 : decode b_L_octet 1 = .ok (.iconst 0, 1) := by decide +kernel
theorem d_L_octet_2 : decode b_L_octet 2 = .ok (.aload_n 0, 1) := by decide +kernel
theorem d_L_octet_3 : decode b_L_octet 3 = .ok (.iload_n 1, 1) := by decide +kernel
theorem d_L_octet_4 : decode b_L_octet 4 = .ok (.iload_n 2, 1) := by decide +kernel
theorem d_L_octet_5 : decode b_L_octet 5 = .ok (.invokevirtual 44, 3) := by decide +kernel
theorem d_L_octet_8 : decode b_L_octet 8 = .ok (.i2l, 1) := by decide +kernel
theorem d_L_octet_9 : decode b_L_octet 9 = .ok (.lastore, 1) := by decide +kernel
theorem d_L_octet_10 : decode b_L_octet 10 = .ok (.goto 11, 3) := by decide +kernel
theorem d_L_octet_13 : decode b_L_octet 13 = .ok (.astore 4, 2) := by decide +kernel
theorem d_L_octet_15 : decode b_L_octet 15 = .ok (.iconst 1, 1) := by decide +kernel
theorem d_L_octet_16 : decode b_L_octet 16 = .ok (.ireturn, 1) := by decide +kernel
theorem d_L_octet_17 : decode b_L_octet 17 = .ok (.astore 4, 2) := by decide +kernel
theorem d_L_octet_19 : decode b_L_octet 19 = .ok (.iconst 2, 1) := by decide +kernel
theorem d_L_octet_20 : decode b_L_octet 20 = .ok (.ireturn, 1) := by decide +kernel
theorem d_L_octet_21 : decode b_L_octet 21 = .ok (.iconst 0, 1) := by decide +kernel
theorem d_L_octet_22 : decode b_L_octet 22 = .ok (.ireturn, 1) := by decide +kernel
abbrev b_L_black : ByteArray := method_12_code
def y_L_black : MethodName := ⟨"RedactCheckLaw", "black", "(LRedactCheck;[J)I"⟩
theorem d_L_black_0 : decode b_L_black 0 = .ok (.aload_n 1, 1) := by decide +kernel
theorem d_L_black_1 : decode b_L_black 1 = .ok (.iconst 0, 1) := by decide +kernel
theorem d_L_black_2 : decode b_L_black 2 = .ok (.aload_n 0, 1) := by decide +kernel
theorem d_L_black_3 : decode b_L_black 3 = .ok (.invokevirtual 48, 3) := by decide +kernel
theorem d_L_black_6 : decode b_L_black 6 = .ok (.i2l, 1) := by decide +kernel
theorem d_L_black_7 : decode b_L_black 7 = .ok (.lastore, 1) := by decide +kernel
theorem d_L_black_8 : decode b_L_black 8 = .ok (.goto 6, 3) := by decide +kernel
theorem d_L_black_11 : decode b_L_black 11 = .ok (.astore_n 2, 1) := by decide +kernel
theorem d_L_black_12 : decode b_L_black 12 = .ok (.iconst 1, 1) := by decide +kernel
theorem d_L_black_13 : decode b_L_black 13 = .ok (.ireturn, 1) := by decide +kernel
theorem d_L_black_14 : decode b_L_black 14 = .ok (.iconst 0, 1) := by decide +kernel
theorem d_L_black_15 : decode b_L_black 15 = .ok (.ireturn, 1) := by decide +kernel
abbrev b_L_left : ByteArray := method_13_code
def y_L_left : MethodName := ⟨"RedactCheckLaw", "left", "(LRedactCheck;II[J)I"⟩
theorem d_L_left_0 : decode b_L_left 0 = .ok (.aload_n 3, 1) := by decide +kernel
theorem d_L_left_1 : decode b_L_left 1 = .ok (.iconst 0, 1) := by decide +kernel
theorem d_L_left_2 : decode b_L_left 2 = .ok (.aload_n 0, 1) := by decide +kernel
theorem d_L_left_3 : decode b_L_left 3 = .ok (.iload_n 1, 1) := by decide +kernel
theorem d_L_left_4 : decode b_L_left 4 = .ok (.iload_n 2, 1) := by decide +kernel
theorem d_L_left_5 : decode b_L_left 5 = .ok (.invokevirtual 51, 3) := by decide +kernel
theorem d_L_left_8 : decode b_L_left 8 = .ok (.i2l, 1) := by decide +kernel
theorem d_L_left_9 : decode b_L_left 9 = .ok (.lastore, 1) := by decide +kernel
theorem d_L_left_10 : decode b_L_left 10 = .ok (.goto 7, 3) := by decide +kernel
theorem d_L_left_13 : decode b_L_left 13 = .ok (.astore 4, 2) := by decide +kernel
theorem d_L_left_15 : decode b_L_left 15 = .ok (.iconst 1, 1) := by decide +kernel
theorem d_L_left_16 : decode b_L_left 16 = .ok (.ireturn, 1) := by decide +kernel
theorem d_L_left_17 : decode b_L_left 17 = .ok (.iconst 0, 1) := by decide +kernel
theorem d_L_left_18 : decode b_L_left 18 = .ok (.ireturn, 1) := by decide +kernel
abbrev b_L_at : ByteArray := method_14_code
def y_L_at : MethodName := ⟨"RedactCheckLaw", "at", "(LRedactCheck;IIII[J)I"⟩
theorem d_L_at_0 : decode b_L_at 0 = .ok (.aload 5, 2) := by decide +kernel
theorem d_L_at_2 : decode b_L_at 2 = .ok (.iconst 0, 1) := by decide +kernel
theorem d_L_at_3 : decode b_L_at 3 = .ok (.aload_n 0, 1) := by decide +kernel
theorem d_L_at_4 : decode b_L_at 4 = .ok (.iload_n 1, 1) := by decide +kernel
theorem d_L_at_5 : decode b_L_at 5 = .ok (.iload_n 2, 1) := by decide +kernel
theorem d_L_at_6 : decode b_L_at 6 = .ok (.iload_n 3, 1) := by decide +kernel
theorem d_L_at_7 : decode b_L_at 7 = .ok (.iload 4, 2) := by decide +kernel
theorem d_L_at_9 : decode b_L_at 9 = .ok (.invokevirtual 54, 3) := by decide +kernel
theorem d_L_at_12 : decode b_L_at 12 = .ok (.i2l, 1) := by decide +kernel
theorem d_L_at_13 : decode b_L_at 13 = .ok (.lastore, 1) := by decide +kernel
theorem d_L_at_14 : decode b_L_at 14 = .ok (.goto 7, 3) := by decide +kernel
theorem d_L_at_17 : decode b_L_at 17 = .ok (.astore 6, 2) := by decide +kernel
theorem d_L_at_19 : decode b_L_at 19 = .ok (.iconst 1, 1) := by decide +kernel
theorem d_L_at_20 : decode b_L_at 20 = .ok (.ireturn, 1) := by decide +kernel
theorem d_L_at_21 : decode b_L_at 21 = .ok (.iconst 0, 1) := by decide +kernel
theorem d_L_at_22 : decode b_L_at 22 = .ok (.ireturn, 1) := by decide +kernel
abbrev b_L_byteOf : ByteArray := method_15_code
def y_L_byteOf : MethodName := ⟨"RedactCheckLaw", "byteOf", "(LRedactCheck;II[J)I"⟩
theorem d_L_byteOf_0 : decode b_L_byteOf 0 = .ok (.aload_n 3, 1) := by decide +kernel
theorem d_L_byteOf_1 : decode b_L_byteOf 1 = .ok (.iconst 0, 1) := by decide +kernel
theorem d_L_byteOf_2 : decode b_L_byteOf 2 = .ok (.aload_n 0, 1) := by decide +kernel
theorem d_L_byteOf_3 : decode b_L_byteOf 3 = .ok (.iload_n 1, 1) := by decide +kernel
theorem d_L_byteOf_4 : decode b_L_byteOf 4 = .ok (.iload_n 2, 1) := by decide +kernel
theorem d_L_byteOf_5 : decode b_L_byteOf 5 = .ok (.invokevirtual 57, 3) := by decide +kernel
theorem d_L_byteOf_8 : decode b_L_byteOf 8 = .ok (.i2l, 1) := by decide +kernel
theorem d_L_byteOf_9 : decode b_L_byteOf 9 = .ok (.lastore, 1) := by decide +kernel
theorem d_L_byteOf_10 : decode b_L_byteOf 10 = .ok (.goto 7, 3) := by decide +kernel
theorem d_L_byteOf_13 : decode b_L_byteOf 13 = .ok (.astore 4, 2) := by decide +kernel
theorem d_L_byteOf_15 : decode b_L_byteOf 15 = .ok (.iconst 1, 1) := by decide +kernel
theorem d_L_byteOf_16 : decode b_L_byteOf 16 = .ok (.ireturn, 1) := by decide +kernel
theorem d_L_byteOf_17 : decode b_L_byteOf 17 = .ok (.iconst 0, 1) := by decide +kernel
theorem d_L_byteOf_18 : decode b_L_byteOf 18 = .ok (.ireturn, 1) := by decide +kernel
abbrev b_L_formOf : ByteArray := method_16_code
def y_L_formOf : MethodName := ⟨"RedactCheckLaw", "formOf", "(LRedactCheck;I[J)I"⟩
theorem d_L_formOf_0 : decode b_L_formOf 0 = .ok (.aload_n 2, 1) := by decide +kernel
theorem d_L_formOf_1 : decode b_L_formOf 1 = .ok (.iconst 0, 1) := by decide +kernel
theorem d_L_formOf_2 : decode b_L_formOf 2 = .ok (.aload_n 0, 1) := by decide +kernel
theorem d_L_formOf_3 : decode b_L_formOf 3 = .ok (.iload_n 1, 1) := by decide +kernel
theorem d_L_formOf_4 : decode b_L_formOf 4 = .ok (.invokevirtual 61, 3) := by decide +kernel
theorem d_L_formOf_7 : decode b_L_formOf 7 = .ok (.i2l, 1) := by decide +kernel
theorem d_L_formOf_8 : decode b_L_formOf 8 = .ok (.lastore, 1) := by decide +kernel
theorem d_L_formOf_9 : decode b_L_formOf 9 = .ok (.goto 6, 3) := by decide +kernel
theorem d_L_formOf_12 : decode b_L_formOf 12 = .ok (.astore_n 3, 1) := by decide +kernel
theorem d_L_formOf_13 : decode b_L_formOf 13 = .ok (.iconst 1, 1) := by decide +kernel
theorem d_L_formOf_14 : decode b_L_formOf 14 = .ok (.ireturn, 1) := by decide +kernel
theorem d_L_formOf_15 : decode b_L_formOf 15 = .ok (.iconst 0, 1) := by decide +kernel
theorem d_L_formOf_16 : decode b_L_formOf 16 = .ok (.ireturn, 1) := by decide +kernel
abbrev b_L_many : ByteArray := method_17_code
def y_L_many : MethodName := ⟨"RedactCheckLaw", "many", "(LRedactCheck;II[J)I"⟩
theorem d_L_many_0 : decode b_L_many 0 = .ok (.aload_n 3, 1) := by decide +kernel
theorem d_L_many_1 : decode b_L_many 1 = .ok (.iconst 0, 1) := by decide +kernel
theorem d_L_many_2 : decode b_L_many 2 = .ok (.aload_n 0, 1) := by decide +kernel
theorem d_L_many_3 : decode b_L_many 3 = .ok (.iload_n 1, 1) := by decide +kernel
theorem d_L_many_4 : decode b_L_many 4 = .ok (.iload_n 2, 1) := by decide +kernel
theorem d_L_many_5 : decode b_L_many 5 = .ok (.invokevirtual 64, 3) := by decide +kernel
theorem d_L_many_8 : decode b_L_many 8 = .ok (.i2l, 1) := by decide +kernel
theorem d_L_many_9 : decode b_L_many 9 = .ok (.lastore, 1) := by decide +kernel
theorem d_L_many_10 : decode b_L_many 10 = .ok (.goto 7, 3) := by decide +kernel
theorem d_L_many_13 : decode b_L_many 13 = .ok (.astore 4, 2) := by decide +kernel
theorem d_L_many_15 : decode b_L_many 15 = .ok (.iconst 1, 1) := by decide +kernel
theorem d_L_many_16 : decode b_L_many 16 = .ok (.ireturn, 1) := by decide +kernel
theorem d_L_many_17 : decode b_L_many 17 = .ok (.iconst 0, 1) := by decide +kernel
theorem d_L_many_18 : decode b_L_many 18 = .ok (.ireturn, 1) := by decide +kernel
abbrev b_L_law : ByteArray := code
def y_L_law : MethodName := ⟨"RedactCheckLaw", "law", "([I)Z"⟩
theorem d_L_law_0 : decode b_L_law 0 = .ok (.new 8, 3) := by decide +kernel
theorem d_L_law_3 : decode b_L_law 3 = .ok (.dup, 1) := by decide +kernel
theorem d_L_law_4 : decode b_L_law 4 = .ok (.invokespecial 67, 3) := by decide +kernel
theorem d_L_law_7 : decode b_L_law 7 = .ok (.astore_n 1, 1) := by decide +kernel
theorem d_L_law_8 : decode b_L_law 8 = .ok (.new 68, 3) := by decide +kernel
theorem d_L_law_11 : decode b_L_law 11 = .ok (.dup, 1) := by decide +kernel
theorem d_L_law_12 : decode b_L_law 12 = .ok (.invokespecial 70, 3) := by decide +kernel
theorem d_L_law_15 : decode b_L_law 15 = .ok (.astore_n 2, 1) := by decide +kernel
theorem d_L_law_16 : decode b_L_law 16 = .ok (.iconst 1, 1) := by decide +kernel
theorem d_L_law_17 : decode b_L_law 17 = .ok (.newarray .long, 2) := by decide +kernel
theorem d_L_law_19 : decode b_L_law 19 = .ok (.astore_n 3, 1) := by decide +kernel
theorem d_L_law_20 : decode b_L_law 20 = .ok (.iconst 0, 1) := by decide +kernel
theorem d_L_law_21 : decode b_L_law 21 = .ok (.istore 4, 2) := by decide +kernel
theorem d_L_law_23 : decode b_L_law 23 = .ok (.iload 4, 2) := by decide +kernel
theorem d_L_law_25 : decode b_L_law 25 = .ok (.aload_n 0, 1) := by decide +kernel
theorem d_L_law_26 : decode b_L_law 26 = .ok (.arraylength, 1) := by decide +kernel
theorem d_L_law_27 : decode b_L_law 27 = .ok (.bipush 6, 2) := by decide +kernel
theorem d_L_law_29 : decode b_L_law 29 = .ok (.isub, 1) := by decide +kernel
theorem d_L_law_30 : decode b_L_law 30 = .ok (.if_icmp .gt 1220, 3) := by decide +kernel
theorem d_L_law_33 : decode b_L_law 33 = .ok (.aload_n 0, 1) := by decide +kernel
theorem d_L_law_34 : decode b_L_law 34 = .ok (.iload 4, 2) := by decide +kernel
theorem d_L_law_36 : decode b_L_law 36 = .ok (.iaload, 1) := by decide +kernel
theorem d_L_law_37 : decode b_L_law 37 = .ok (.bipush 31, 2) := by decide +kernel
theorem d_L_law_39 : decode b_L_law 39 = .ok (.iand, 1) := by decide +kernel
theorem d_L_law_40 : decode b_L_law 40 = .ok (.tableswitch 1204 0 16 #[84, 188, 232, 336, 428, 472, 540, 644, 700, 770, 814, 827, 895, 987, 1055, 1111, 1179], 84) := by decide +kernel
theorem d_L_law_124 : decode b_L_law 124 = .ok (.aload_n 1, 1) := by decide +kernel
theorem d_L_law_125 : decode b_L_law 125 = .ok (.aload_n 0, 1) := by decide +kernel
theorem d_L_law_126 : decode b_L_law 126 = .ok (.iload 4, 2) := by decide +kernel
theorem d_L_law_128 : decode b_L_law 128 = .ok (.iconst 1, 1) := by decide +kernel
theorem d_L_law_129 : decode b_L_law 129 = .ok (.iadd, 1) := by decide +kernel
theorem d_L_law_130 : decode b_L_law 130 = .ok (.iaload, 1) := by decide +kernel
theorem d_L_law_131 : decode b_L_law 131 = .ok (.aload_n 0, 1) := by decide +kernel
theorem d_L_law_132 : decode b_L_law 132 = .ok (.iload 4, 2) := by decide +kernel
theorem d_L_law_134 : decode b_L_law 134 = .ok (.iconst 2, 1) := by decide +kernel
theorem d_L_law_135 : decode b_L_law 135 = .ok (.iadd, 1) := by decide +kernel
theorem d_L_law_136 : decode b_L_law 136 = .ok (.iaload, 1) := by decide +kernel
theorem d_L_law_137 : decode b_L_law 137 = .ok (.aload_n 0, 1) := by decide +kernel
theorem d_L_law_138 : decode b_L_law 138 = .ok (.iload 4, 2) := by decide +kernel
theorem d_L_law_140 : decode b_L_law 140 = .ok (.iconst 3, 1) := by decide +kernel
theorem d_L_law_141 : decode b_L_law 141 = .ok (.iadd, 1) := by decide +kernel
theorem d_L_law_142 : decode b_L_law 142 = .ok (.iaload, 1) := by decide +kernel
theorem d_L_law_143 : decode b_L_law 143 = .ok (.aload_n 0, 1) := by decide +kernel
theorem d_L_law_144 : decode b_L_law 144 = .ok (.iload 4, 2) := by decide +kernel
theorem d_L_law_146 : decode b_L_law 146 = .ok (.iconst 4, 1) := by decide +kernel
theorem d_L_law_147 : decode b_L_law 147 = .ok (.iadd, 1) := by decide +kernel
theorem d_L_law_148 : decode b_L_law 148 = .ok (.iaload, 1) := by decide +kernel
theorem d_L_law_149 : decode b_L_law 149 = .ok (.aload_n 0, 1) := by decide +kernel
theorem d_L_law_150 : decode b_L_law 150 = .ok (.iload 4, 2) := by decide +kernel
theorem d_L_law_152 : decode b_L_law 152 = .ok (.iconst 5, 1) := by decide +kernel
theorem d_L_law_153 : decode b_L_law 153 = .ok (.iadd, 1) := by decide +kernel
theorem d_L_law_154 : decode b_L_law 154 = .ok (.iaload, 1) := by decide +kernel
theorem d_L_law_155 : decode b_L_law 155 = .ok (.aload_n 3, 1) := by decide +kernel
theorem d_L_law_156 : decode b_L_law 156 = .ok (.invokestatic 71, 3) := by decide +kernel
theorem d_L_law_159 : decode b_L_law 159 = .ok (.istore 5, 2) := by decide +kernel
theorem d_L_law_161 : decode b_L_law 161 = .ok (.aload_n 2, 1) := by decide +kernel
theorem d_L_law_162 : decode b_L_law 162 = .ok (.aload_n 0, 1) := by decide +kernel
theorem d_L_law_163 : decode b_L_law 163 = .ok (.iload 4, 2) := by decide +kernel
theorem d_L_law_165 : decode b_L_law 165 = .ok (.iconst 1, 1) := by decide +kernel
theorem d_L_law_166 : decode b_L_law 166 = .ok (.iadd, 1) := by decide +kernel
theorem d_L_law_167 : decode b_L_law 167 = .ok (.iaload, 1) := by decide +kernel
theorem d_L_law_168 : decode b_L_law 168 = .ok (.aload_n 0, 1) := by decide +kernel
theorem d_L_law_169 : decode b_L_law 169 = .ok (.iload 4, 2) := by decide +kernel
theorem d_L_law_171 : decode b_L_law 171 = .ok (.iconst 2, 1) := by decide +kernel
theorem d_L_law_172 : decode b_L_law 172 = .ok (.iadd, 1) := by decide +kernel
theorem d_L_law_173 : decode b_L_law 173 = .ok (.iaload, 1) := by decide +kernel
theorem d_L_law_174 : decode b_L_law 174 = .ok (.aload_n 0, 1) := by decide +kernel
theorem d_L_law_175 : decode b_L_law 175 = .ok (.iload 4, 2) := by decide +kernel
theorem d_L_law_177 : decode b_L_law 177 = .ok (.iconst 3, 1) := by decide +kernel
theorem d_L_law_178 : decode b_L_law 178 = .ok (.iadd, 1) := by decide +kernel
theorem d_L_law_179 : decode b_L_law 179 = .ok (.iaload, 1) := by decide +kernel
theorem d_L_law_180 : decode b_L_law 180 = .ok (.aload_n 0, 1) := by decide +kernel
theorem d_L_law_181 : decode b_L_law 181 = .ok (.iload 4, 2) := by decide +kernel
theorem d_L_law_183 : decode b_L_law 183 = .ok (.iconst 4, 1) := by decide +kernel
theorem d_L_law_184 : decode b_L_law 184 = .ok (.iadd, 1) := by decide +kernel
theorem d_L_law_185 : decode b_L_law 185 = .ok (.iaload, 1) := by decide +kernel
theorem d_L_law_186 : decode b_L_law 186 = .ok (.aload_n 0, 1) := by decide +kernel
theorem d_L_law_187 : decode b_L_law 187 = .ok (.iload 4, 2) := by decide +kernel
theorem d_L_law_189 : decode b_L_law 189 = .ok (.iconst 5, 1) := by decide +kernel
theorem d_L_law_190 : decode b_L_law 190 = .ok (.iadd, 1) := by decide +kernel
theorem d_L_law_191 : decode b_L_law 191 = .ok (.iaload, 1) := by decide +kernel
theorem d_L_law_192 : decode b_L_law 192 = .ok (.invokevirtual 76, 3) := by decide +kernel
theorem d_L_law_195 : decode b_L_law 195 = .ok (.istore 6, 2) := by decide +kernel
theorem d_L_law_197 : decode b_L_law 197 = .ok (.aload_n 2, 1) := by decide +kernel
theorem d_L_law_198 : decode b_L_law 198 = .ok (.invokevirtual 77, 3) := by decide +kernel
theorem d_L_law_201 : decode b_L_law 201 = .ok (.iload 5, 2) := by decide +kernel
theorem d_L_law_203 : decode b_L_law 203 = .ok (.if_icmp .eq 5, 3) := by decide +kernel
theorem d_L_law_206 : decode b_L_law 206 = .ok (.iconst 0, 1) := by decide +kernel
theorem d_L_law_207 : decode b_L_law 207 = .ok (.ireturn, 1) := by decide +kernel
theorem d_L_law_208 : decode b_L_law 208 = .ok (.iload 5, 2) := by decide +kernel
theorem d_L_law_210 : decode b_L_law 210 = .ok (.ifCond .ne 15, 3) := by decide +kernel
theorem d_L_law_213 : decode b_L_law 213 = .ok (.aload_n 3, 1) := by decide +kernel
theorem d_L_law_214 : decode b_L_law 214 = .ok (.iconst 0, 1) := by decide +kernel
theorem d_L_law_215 : decode b_L_law 215 = .ok (.laload, 1) := by decide +kernel
theorem d_L_law_216 : decode b_L_law 216 = .ok (.iload 6, 2) := by decide +kernel
theorem d_L_law_218 : decode b_L_law 218 = .ok (.i2l, 1) := by decide +kernel
theorem d_L_law_219 : decode b_L_law 219 = .ok (.lcmp, 1) := by decide +kernel
theorem d_L_law_220 : decode b_L_law 220 = .ok (.ifCond .eq 5, 3) := by decide +kernel
theorem d_L_law_223 : decode b_L_law 223 = .ok (.iconst 0, 1) := by decide +kernel
theorem d_L_law_224 : decode b_L_law 224 = .ok (.ireturn, 1) := by decide +kernel
theorem d_L_law_225 : decode b_L_law 225 = .ok (.goto 1019, 3) := by decide +kernel
theorem d_L_law_228 : decode b_L_law 228 = .ok (.aload_n 1, 1) := by decide +kernel
theorem d_L_law_229 : decode b_L_law 229 = .ok (.aload_n 3, 1) := by decide +kernel
theorem d_L_law_230 : decode b_L_law 230 = .ok (.invokestatic 80, 3) := by decide +kernel
theorem d_L_law_233 : decode b_L_law 233 = .ok (.istore 5, 2) := by decide +kernel
theorem d_L_law_235 : decode b_L_law 235 = .ok (.aload_n 2, 1) := by decide +kernel
theorem d_L_law_236 : decode b_L_law 236 = .ok (.invokevirtual 83, 3) := by decide +kernel
theorem d_L_law_239 : decode b_L_law 239 = .ok (.istore 6, 2) := by decide +kernel
theorem d_L_law_241 : decode b_L_law 241 = .ok (.aload_n 2, 1) := by decide +kernel
theorem d_L_law_242 : decode b_L_law 242 = .ok (.invokevirtual 77, 3) := by decide +kernel
theorem d_L_law_245 : decode b_L_law 245 = .ok (.iload 5, 2) := by decide +kernel
theorem d_L_law_247 : decode b_L_law 247 = .ok (.if_icmp .eq 5, 3) := by decide +kernel
theorem d_L_law_250 : decode b_L_law 250 = .ok (.iconst 0, 1) := by decide +kernel
theorem d_L_law_251 : decode b_L_law 251 = .ok (.ireturn, 1) := by decide +kernel
theorem d_L_law_252 : decode b_L_law 252 = .ok (.iload 5, 2) := by decide +kernel
theorem d_L_law_254 : decode b_L_law 254 = .ok (.ifCond .ne 15, 3) := by decide +kernel
theorem d_L_law_257 : decode b_L_law 257 = .ok (.aload_n 3, 1) := by decide +kernel
theorem d_L_law_258 : decode b_L_law 258 = .ok (.iconst 0, 1) := by decide +kernel
theorem d_L_law_259 : decode b_L_law 259 = .ok (.laload, 1) := by decide +kernel
theorem d_L_law_260 : decode b_L_law 260 = .ok (.iload 6, 2) := by decide +kernel
theorem d_L_law_262 : decode b_L_law 262 = .ok (.i2l, 1) := by decide +kernel
theorem d_L_law_263 : decode b_L_law 263 = .ok (.lcmp, 1) := by decide +kernel
theorem d_L_law_264 : decode b_L_law 264 = .ok (.ifCond .eq 5, 3) := by decide +kernel
theorem d_L_law_267 : decode b_L_law 267 = .ok (.iconst 0, 1) := by decide +kernel
theorem d_L_law_268 : decode b_L_law 268 = .ok (.ireturn, 1) := by decide +kernel
theorem d_L_law_269 : decode b_L_law 269 = .ok (.goto 975, 3) := by decide +kernel
theorem d_L_law_272 : decode b_L_law 272 = .ok (.aload_n 1, 1) := by decide +kernel
theorem d_L_law_273 : decode b_L_law 273 = .ok (.aload_n 0, 1) := by decide +kernel
theorem d_L_law_274 : decode b_L_law 274 = .ok (.iload 4, 2) := by decide +kernel
theorem d_L_law_276 : decode b_L_law 276 = .ok (.iconst 1, 1) := by decide +kernel
theorem d_L_law_277 : decode b_L_law 277 = .ok (.iadd, 1) := by decide +kernel
theorem d_L_law_278 : decode b_L_law 278 = .ok (.iaload, 1) := by decide +kernel
theorem d_L_law_279 : decode b_L_law 279 = .ok (.aload_n 0, 1) := by decide +kernel
theorem d_L_law_280 : decode b_L_law 280 = .ok (.iload 4, 2) := by decide +kernel
theorem d_L_law_282 : decode b_L_law 282 = .ok (.iconst 2, 1) := by decide +kernel
theorem d_L_law_283 : decode b_L_law 283 = .ok (.iadd, 1) := by decide +kernel
theorem d_L_law_284 : decode b_L_law 284 = .ok (.iaload, 1) := by decide +kernel
theorem d_L_law_285 : decode b_L_law 285 = .ok (.aload_n 0, 1) := by decide +kernel
theorem d_L_law_286 : decode b_L_law 286 = .ok (.iload 4, 2) := by decide +kernel
theorem d_L_law_288 : decode b_L_law 288 = .ok (.iconst 3, 1) := by decide +kernel
theorem d_L_law_289 : decode b_L_law 289 = .ok (.iadd, 1) := by decide +kernel
theorem d_L_law_290 : decode b_L_law 290 = .ok (.iaload, 1) := by decide +kernel
theorem d_L_law_291 : decode b_L_law 291 = .ok (.aload_n 0, 1) := by decide +kernel
theorem d_L_law_292 : decode b_L_law 292 = .ok (.iload 4, 2) := by decide +kernel
theorem d_L_law_294 : decode b_L_law 294 = .ok (.iconst 4, 1) := by decide +kernel
theorem d_L_law_295 : decode b_L_law 295 = .ok (.iadd, 1) := by decide +kernel
theorem d_L_law_296 : decode b_L_law 296 = .ok (.iaload, 1) := by decide +kernel
theorem d_L_law_297 : decode b_L_law 297 = .ok (.aload_n 0, 1) := by decide +kernel
theorem d_L_law_298 : decode b_L_law 298 = .ok (.iload 4, 2) := by decide +kernel
theorem d_L_law_300 : decode b_L_law 300 = .ok (.iconst 5, 1) := by decide +kernel
theorem d_L_law_301 : decode b_L_law 301 = .ok (.iadd, 1) := by decide +kernel
theorem d_L_law_302 : decode b_L_law 302 = .ok (.iaload, 1) := by decide +kernel
theorem d_L_law_303 : decode b_L_law 303 = .ok (.aload_n 3, 1) := by decide +kernel
theorem d_L_law_304 : decode b_L_law 304 = .ok (.invokestatic 84, 3) := by decide +kernel
theorem d_L_law_307 : decode b_L_law 307 = .ok (.istore 5, 2) := by decide +kernel
theorem d_L_law_309 : decode b_L_law 309 = .ok (.aload_n 2, 1) := by decide +kernel
theorem d_L_law_310 : decode b_L_law 310 = .ok (.aload_n 0, 1) := by decide +kernel
theorem d_L_law_311 : decode b_L_law 311 = .ok (.iload 4, 2) := by decide +kernel
theorem d_L_law_313 : decode b_L_law 313 = .ok (.iconst 1, 1) := by decide +kernel
theorem d_L_law_314 : decode b_L_law 314 = .ok (.iadd, 1) := by decide +kernel
theorem d_L_law_315 : decode b_L_law 315 = .ok (.iaload, 1) := by decide +kernel
theorem d_L_law_316 : decode b_L_law 316 = .ok (.aload_n 0, 1) := by decide +kernel
theorem d_L_law_317 : decode b_L_law 317 = .ok (.iload 4, 2) := by decide +kernel
theorem d_L_law_319 : decode b_L_law 319 = .ok (.iconst 2, 1) := by decide +kernel
theorem d_L_law_320 : decode b_L_law 320 = .ok (.iadd, 1) := by decide +kernel
theorem d_L_law_321 : decode b_L_law 321 = .ok (.iaload, 1) := by decide +kernel
theorem d_L_law_322 : decode b_L_law 322 = .ok (.aload_n 0, 1) := by decide +kernel
theorem d_L_law_323 : decode b_L_law 323 = .ok (.iload 4, 2) := by decide +kernel
theorem d_L_law_325 : decode b_L_law 325 = .ok (.iconst 3, 1) := by decide +kernel
theorem d_L_law_326 : decode b_L_law 326 = .ok (.iadd, 1) := by decide +kernel
theorem d_L_law_327 : decode b_L_law 327 = .ok (.iaload, 1) := by decide +kernel
theorem d_L_law_328 : decode b_L_law 328 = .ok (.aload_n 0, 1) := by decide +kernel
theorem d_L_law_329 : decode b_L_law 329 = .ok (.iload 4, 2) := by decide +kernel
theorem d_L_law_331 : decode b_L_law 331 = .ok (.iconst 4, 1) := by decide +kernel
theorem d_L_law_332 : decode b_L_law 332 = .ok (.iadd, 1) := by decide +kernel
theorem d_L_law_333 : decode b_L_law 333 = .ok (.iaload, 1) := by decide +kernel
theorem d_L_law_334 : decode b_L_law 334 = .ok (.aload_n 0, 1) := by decide +kernel
theorem d_L_law_335 : decode b_L_law 335 = .ok (.iload 4, 2) := by decide +kernel
theorem d_L_law_337 : decode b_L_law 337 = .ok (.iconst 5, 1) := by decide +kernel
theorem d_L_law_338 : decode b_L_law 338 = .ok (.iadd, 1) := by decide +kernel
theorem d_L_law_339 : decode b_L_law 339 = .ok (.iaload, 1) := by decide +kernel
theorem d_L_law_340 : decode b_L_law 340 = .ok (.invokevirtual 86, 3) := by decide +kernel
theorem d_L_law_343 : decode b_L_law 343 = .ok (.istore 6, 2) := by decide +kernel
theorem d_L_law_345 : decode b_L_law 345 = .ok (.aload_n 2, 1) := by decide +kernel
theorem d_L_law_346 : decode b_L_law 346 = .ok (.invokevirtual 77, 3) := by decide +kernel
theorem d_L_law_349 : decode b_L_law 349 = .ok (.iload 5, 2) := by decide +kernel
theorem d_L_law_351 : decode b_L_law 351 = .ok (.if_icmp .eq 5, 3) := by decide +kernel
theorem d_L_law_354 : decode b_L_law 354 = .ok (.iconst 0, 1) := by decide +kernel
theorem d_L_law_355 : decode b_L_law 355 = .ok (.ireturn, 1) := by decide +kernel
theorem d_L_law_356 : decode b_L_law 356 = .ok (.iload 5, 2) := by decide +kernel
theorem d_L_law_358 : decode b_L_law 358 = .ok (.ifCond .ne 15, 3) := by decide +kernel
theorem d_L_law_361 : decode b_L_law 361 = .ok (.aload_n 3, 1) := by decide +kernel
theorem d_L_law_362 : decode b_L_law 362 = .ok (.iconst 0, 1) := by decide +kernel
theorem d_L_law_363 : decode b_L_law 363 = .ok (.laload, 1) := by decide +kernel
theorem d_L_law_364 : decode b_L_law 364 = .ok (.iload 6, 2) := by decide +kernel
theorem d_L_law_366 : decode b_L_law 366 = .ok (.i2l, 1) := by decide +kernel
theorem d_L_law_367 : decode b_L_law 367 = .ok (.lcmp, 1) := by decide +kernel
theorem d_L_law_368 : decode b_L_law 368 = .ok (.ifCond .eq 5, 3) := by decide +kernel
theorem d_L_law_371 : decode b_L_law 371 = .ok (.iconst 0, 1) := by decide +kernel
theorem d_L_law_372 : decode b_L_law 372 = .ok (.ireturn, 1) := by decide +kernel
theorem d_L_law_373 : decode b_L_law 373 = .ok (.goto 871, 3) := by decide +kernel
theorem d_L_law_376 : decode b_L_law 376 = .ok (.aload_n 1, 1) := by decide +kernel
theorem d_L_law_377 : decode b_L_law 377 = .ok (.aload_n 0, 1) := by decide +kernel
theorem d_L_law_378 : decode b_L_law 378 = .ok (.iload 4, 2) := by decide +kernel
theorem d_L_law_380 : decode b_L_law 380 = .ok (.iconst 1, 1) := by decide +kernel
theorem d_L_law_381 : decode b_L_law 381 = .ok (.iadd, 1) := by decide +kernel
theorem d_L_law_382 : decode b_L_law 382 = .ok (.iaload, 1) := by decide +kernel
theorem d_L_law_383 : decode b_L_law 383 = .ok (.aload_n 0, 1) := by decide +kernel
theorem d_L_law_384 : decode b_L_law 384 = .ok (.iload 4, 2) := by decide +kernel
theorem d_L_law_386 : decode b_L_law 386 = .ok (.iconst 2, 1) := by decide +kernel
theorem d_L_law_387 : decode b_L_law 387 = .ok (.iadd, 1) := by decide +kernel
theorem d_L_law_388 : decode b_L_law 388 = .ok (.iaload, 1) := by decide +kernel
theorem d_L_law_389 : decode b_L_law 389 = .ok (.aload_n 0, 1) := by decide +kernel
theorem d_L_law_390 : decode b_L_law 390 = .ok (.iload 4, 2) := by decide +kernel
theorem d_L_law_392 : decode b_L_law 392 = .ok (.iconst 3, 1) := by decide +kernel
theorem d_L_law_393 : decode b_L_law 393 = .ok (.iadd, 1) := by decide +kernel
theorem d_L_law_394 : decode b_L_law 394 = .ok (.iaload, 1) := by decide +kernel
theorem d_L_law_395 : decode b_L_law 395 = .ok (.aload_n 0, 1) := by decide +kernel
theorem d_L_law_396 : decode b_L_law 396 = .ok (.iload 4, 2) := by decide +kernel
theorem d_L_law_398 : decode b_L_law 398 = .ok (.iconst 4, 1) := by decide +kernel
theorem d_L_law_399 : decode b_L_law 399 = .ok (.iadd, 1) := by decide +kernel
theorem d_L_law_400 : decode b_L_law 400 = .ok (.iaload, 1) := by decide +kernel
theorem d_L_law_401 : decode b_L_law 401 = .ok (.aload_n 3, 1) := by decide +kernel
theorem d_L_law_402 : decode b_L_law 402 = .ok (.invokestatic 87, 3) := by decide +kernel
theorem d_L_law_405 : decode b_L_law 405 = .ok (.istore 5, 2) := by decide +kernel
theorem d_L_law_407 : decode b_L_law 407 = .ok (.aload_n 2, 1) := by decide +kernel
theorem d_L_law_408 : decode b_L_law 408 = .ok (.aload_n 0, 1) := by decide +kernel
theorem d_L_law_409 : decode b_L_law 409 = .ok (.iload 4, 2) := by decide +kernel
theorem d_L_law_411 : decode b_L_law 411 = .ok (.iconst 1, 1) := by decide +kernel
theorem d_L_law_412 : decode b_L_law 412 = .ok (.iadd, 1) := by decide +kernel
theorem d_L_law_413 : decode b_L_law 413 = .ok (.iaload, 1) := by decide +kernel
theorem d_L_law_414 : decode b_L_law 414 = .ok (.aload_n 0, 1) := by decide +kernel
theorem d_L_law_415 : decode b_L_law 415 = .ok (.iload 4, 2) := by decide +kernel
theorem d_L_law_417 : decode b_L_law 417 = .ok (.iconst 2, 1) := by decide +kernel
theorem d_L_law_418 : decode b_L_law 418 = .ok (.iadd, 1) := by decide +kernel
theorem d_L_law_419 : decode b_L_law 419 = .ok (.iaload, 1) := by decide +kernel
theorem d_L_law_420 : decode b_L_law 420 = .ok (.aload_n 0, 1) := by decide +kernel
theorem d_L_law_421 : decode b_L_law 421 = .ok (.iload 4, 2) := by decide +kernel
theorem d_L_law_423 : decode b_L_law 423 = .ok (.iconst 3, 1) := by decide +kernel
theorem d_L_law_424 : decode b_L_law 424 = .ok (.iadd, 1) := by decide +kernel
theorem d_L_law_425 : decode b_L_law 425 = .ok (.iaload, 1) := by decide +kernel
theorem d_L_law_426 : decode b_L_law 426 = .ok (.aload_n 0, 1) := by decide +kernel
theorem d_L_law_427 : decode b_L_law 427 = .ok (.iload 4, 2) := by decide +kernel
theorem d_L_law_429 : decode b_L_law 429 = .ok (.iconst 4, 1) := by decide +kernel
theorem d_L_law_430 : decode b_L_law 430 = .ok (.iadd, 1) := by decide +kernel
theorem d_L_law_431 : decode b_L_law 431 = .ok (.iaload, 1) := by decide +kernel
theorem d_L_law_432 : decode b_L_law 432 = .ok (.invokevirtual 90, 3) := by decide +kernel
theorem d_L_law_435 : decode b_L_law 435 = .ok (.istore 6, 2) := by decide +kernel
theorem d_L_law_437 : decode b_L_law 437 = .ok (.aload_n 2, 1) := by decide +kernel
theorem d_L_law_438 : decode b_L_law 438 = .ok (.invokevirtual 77, 3) := by decide +kernel
theorem d_L_law_441 : decode b_L_law 441 = .ok (.iload 5, 2) := by decide +kernel
theorem d_L_law_443 : decode b_L_law 443 = .ok (.if_icmp .eq 5, 3) := by decide +kernel
theorem d_L_law_446 : decode b_L_law 446 = .ok (.iconst 0, 1) := by decide +kernel
theorem d_L_law_447 : decode b_L_law 447 = .ok (.ireturn, 1) := by decide +kernel
theorem d_L_law_448 : decode b_L_law 448 = .ok (.iload 5, 2) := by decide +kernel
theorem d_L_law_450 : decode b_L_law 450 = .ok (.ifCond .ne 15, 3) := by decide +kernel
theorem d_L_law_453 : decode b_L_law 453 = .ok (.aload_n 3, 1) := by decide +kernel
theorem d_L_law_454 : decode b_L_law 454 = .ok (.iconst 0, 1) := by decide +kernel
theorem d_L_law_455 : decode b_L_law 455 = .ok (.laload, 1) := by decide +kernel
theorem d_L_law_456 : decode b_L_law 456 = .ok (.iload 6, 2) := by decide +kernel
theorem d_L_law_458 : decode b_L_law 458 = .ok (.i2l, 1) := by decide +kernel
theorem d_L_law_459 : decode b_L_law 459 = .ok (.lcmp, 1) := by decide +kernel
theorem d_L_law_460 : decode b_L_law 460 = .ok (.ifCond .eq 5, 3) := by decide +kernel
theorem d_L_law_463 : decode b_L_law 463 = .ok (.iconst 0, 1) := by decide +kernel
theorem d_L_law_464 : decode b_L_law 464 = .ok (.ireturn, 1) := by decide +kernel
theorem d_L_law_465 : decode b_L_law 465 = .ok (.goto 779, 3) := by decide +kernel
theorem d_L_law_468 : decode b_L_law 468 = .ok (.aload_n 1, 1) := by decide +kernel
theorem d_L_law_469 : decode b_L_law 469 = .ok (.aload_n 3, 1) := by decide +kernel
theorem d_L_law_470 : decode b_L_law 470 = .ok (.invokestatic 91, 3) := by decide +kernel
theorem d_L_law_473 : decode b_L_law 473 = .ok (.istore 5, 2) := by decide +kernel
theorem d_L_law_475 : decode b_L_law 475 = .ok (.aload_n 2, 1) := by decide +kernel
theorem d_L_law_476 : decode b_L_law 476 = .ok (.invokevirtual 93, 3) := by decide +kernel
theorem d_L_law_479 : decode b_L_law 479 = .ok (.istore 6, 2) := by decide +kernel
theorem d_L_law_481 : decode b_L_law 481 = .ok (.aload_n 2, 1) := by decide +kernel
theorem d_L_law_482 : decode b_L_law 482 = .ok (.invokevirtual 77, 3) := by decide +kernel
theorem d_L_law_485 : decode b_L_law 485 = .ok (.iload 5, 2) := by decide +kernel
theorem d_L_law_487 : decode b_L_law 487 = .ok (.if_icmp .eq 5, 3) := by decide +kernel
theorem d_L_law_490 : decode b_L_law 490 = .ok (.iconst 0, 1) := by decide +kernel
theorem d_L_law_491 : decode b_L_law 491 = .ok (.ireturn, 1) := by decide +kernel
theorem d_L_law_492 : decode b_L_law 492 = .ok (.iload 5, 2) := by decide +kernel
theorem d_L_law_494 : decode b_L_law 494 = .ok (.ifCond .ne 15, 3) := by decide +kernel
theorem d_L_law_497 : decode b_L_law 497 = .ok (.aload_n 3, 1) := by decide +kernel
theorem d_L_law_498 : decode b_L_law 498 = .ok (.iconst 0, 1) := by decide +kernel
theorem d_L_law_499 : decode b_L_law 499 = .ok (.laload, 1) := by decide +kernel
theorem d_L_law_500 : decode b_L_law 500 = .ok (.iload 6, 2) := by decide +kernel
theorem d_L_law_502 : decode b_L_law 502 = .ok (.i2l, 1) := by decide +kernel
theorem d_L_law_503 : decode b_L_law 503 = .ok (.lcmp, 1) := by decide +kernel
theorem d_L_law_504 : decode b_L_law 504 = .ok (.ifCond .eq 5, 3) := by decide +kernel
theorem d_L_law_507 : decode b_L_law 507 = .ok (.iconst 0, 1) := by decide +kernel
theorem d_L_law_508 : decode b_L_law 508 = .ok (.ireturn, 1) := by decide +kernel
theorem d_L_law_509 : decode b_L_law 509 = .ok (.goto 735, 3) := by decide +kernel
theorem d_L_law_512 : decode b_L_law 512 = .ok (.aload_n 1, 1) := by decide +kernel
theorem d_L_law_513 : decode b_L_law 513 = .ok (.aload_n 0, 1) := by decide +kernel
theorem d_L_law_514 : decode b_L_law 514 = .ok (.iload 4, 2) := by decide +kernel
theorem d_L_law_516 : decode b_L_law 516 = .ok (.iconst 1, 1) := by decide +kernel
theorem d_L_law_517 : decode b_L_law 517 = .ok (.iadd, 1) := by decide +kernel
theorem d_L_law_518 : decode b_L_law 518 = .ok (.iaload, 1) := by decide +kernel
theorem d_L_law_519 : decode b_L_law 519 = .ok (.aload_n 0, 1) := by decide +kernel
theorem d_L_law_520 : decode b_L_law 520 = .ok (.iload 4, 2) := by decide +kernel
theorem d_L_law_522 : decode b_L_law 522 = .ok (.iconst 2, 1) := by decide +kernel
theorem d_L_law_523 : decode b_L_law 523 = .ok (.iadd, 1) := by decide +kernel
theorem d_L_law_524 : decode b_L_law 524 = .ok (.iaload, 1) := by decide +kernel
theorem d_L_law_525 : decode b_L_law 525 = .ok (.aload_n 3, 1) := by decide +kernel
theorem d_L_law_526 : decode b_L_law 526 = .ok (.invokestatic 94, 3) := by decide +kernel
theorem d_L_law_529 : decode b_L_law 529 = .ok (.istore 5, 2) := by decide +kernel
theorem d_L_law_531 : decode b_L_law 531 = .ok (.aload_n 2, 1) := by decide +kernel
theorem d_L_law_532 : decode b_L_law 532 = .ok (.aload_n 0, 1) := by decide +kernel
theorem d_L_law_533 : decode b_L_law 533 = .ok (.iload 4, 2) := by decide +kernel
theorem d_L_law_535 : decode b_L_law 535 = .ok (.iconst 1, 1) := by decide +kernel
theorem d_L_law_536 : decode b_L_law 536 = .ok (.iadd, 1) := by decide +kernel
theorem d_L_law_537 : decode b_L_law 537 = .ok (.iaload, 1) := by decide +kernel
theorem d_L_law_538 : decode b_L_law 538 = .ok (.aload_n 0, 1) := by decide +kernel
theorem d_L_law_539 : decode b_L_law 539 = .ok (.iload 4, 2) := by decide +kernel
theorem d_L_law_541 : decode b_L_law 541 = .ok (.iconst 2, 1) := by decide +kernel
theorem d_L_law_542 : decode b_L_law 542 = .ok (.iadd, 1) := by decide +kernel
theorem d_L_law_543 : decode b_L_law 543 = .ok (.iaload, 1) := by decide +kernel
theorem d_L_law_544 : decode b_L_law 544 = .ok (.invokevirtual 97, 3) := by decide +kernel
theorem d_L_law_547 : decode b_L_law 547 = .ok (.istore 6, 2) := by decide +kernel
theorem d_L_law_549 : decode b_L_law 549 = .ok (.aload_n 2, 1) := by decide +kernel
theorem d_L_law_550 : decode b_L_law 550 = .ok (.invokevirtual 77, 3) := by decide +kernel
theorem d_L_law_553 : decode b_L_law 553 = .ok (.iload 5, 2) := by decide +kernel
theorem d_L_law_555 : decode b_L_law 555 = .ok (.if_icmp .eq 5, 3) := by decide +kernel
theorem d_L_law_558 : decode b_L_law 558 = .ok (.iconst 0, 1) := by decide +kernel
theorem d_L_law_559 : decode b_L_law 559 = .ok (.ireturn, 1) := by decide +kernel
theorem d_L_law_560 : decode b_L_law 560 = .ok (.iload 5, 2) := by decide +kernel
theorem d_L_law_562 : decode b_L_law 562 = .ok (.ifCond .ne 15, 3) := by decide +kernel
theorem d_L_law_565 : decode b_L_law 565 = .ok (.aload_n 3, 1) := by decide +kernel
theorem d_L_law_566 : decode b_L_law 566 = .ok (.iconst 0, 1) := by decide +kernel
theorem d_L_law_567 : decode b_L_law 567 = .ok (.laload, 1) := by decide +kernel
theorem d_L_law_568 : decode b_L_law 568 = .ok (.iload 6, 2) := by decide +kernel
theorem d_L_law_570 : decode b_L_law 570 = .ok (.i2l, 1) := by decide +kernel
theorem d_L_law_571 : decode b_L_law 571 = .ok (.lcmp, 1) := by decide +kernel
theorem d_L_law_572 : decode b_L_law 572 = .ok (.ifCond .eq 5, 3) := by decide +kernel
theorem d_L_law_575 : decode b_L_law 575 = .ok (.iconst 0, 1) := by decide +kernel
theorem d_L_law_576 : decode b_L_law 576 = .ok (.ireturn, 1) := by decide +kernel
theorem d_L_law_577 : decode b_L_law 577 = .ok (.goto 667, 3) := by decide +kernel
theorem d_L_law_580 : decode b_L_law 580 = .ok (.aload_n 1, 1) := by decide +kernel
theorem d_L_law_581 : decode b_L_law 581 = .ok (.aload_n 0, 1) := by decide +kernel
theorem d_L_law_582 : decode b_L_law 582 = .ok (.iload 4, 2) := by decide +kernel
theorem d_L_law_584 : decode b_L_law 584 = .ok (.iconst 1, 1) := by decide +kernel
theorem d_L_law_585 : decode b_L_law 585 = .ok (.iadd, 1) := by decide +kernel
theorem d_L_law_586 : decode b_L_law 586 = .ok (.iaload, 1) := by decide +kernel
theorem d_L_law_587 : decode b_L_law 587 = .ok (.aload_n 0, 1) := by decide +kernel
theorem d_L_law_588 : decode b_L_law 588 = .ok (.iload 4, 2) := by decide +kernel
theorem d_L_law_590 : decode b_L_law 590 = .ok (.iconst 2, 1) := by decide +kernel
theorem d_L_law_591 : decode b_L_law 591 = .ok (.iadd, 1) := by decide +kernel
theorem d_L_law_592 : decode b_L_law 592 = .ok (.iaload, 1) := by decide +kernel
theorem d_L_law_593 : decode b_L_law 593 = .ok (.aload_n 0, 1) := by decide +kernel
theorem d_L_law_594 : decode b_L_law 594 = .ok (.iload 4, 2) := by decide +kernel
theorem d_L_law_596 : decode b_L_law 596 = .ok (.iconst 3, 1) := by decide +kernel
theorem d_L_law_597 : decode b_L_law 597 = .ok (.iadd, 1) := by decide +kernel
theorem d_L_law_598 : decode b_L_law 598 = .ok (.iaload, 1) := by decide +kernel
theorem d_L_law_599 : decode b_L_law 599 = .ok (.aload_n 0, 1) := by decide +kernel
theorem d_L_law_600 : decode b_L_law 600 = .ok (.iload 4, 2) := by decide +kernel
theorem d_L_law_602 : decode b_L_law 602 = .ok (.iconst 4, 1) := by decide +kernel
theorem d_L_law_603 : decode b_L_law 603 = .ok (.iadd, 1) := by decide +kernel
theorem d_L_law_604 : decode b_L_law 604 = .ok (.iaload, 1) := by decide +kernel
theorem d_L_law_605 : decode b_L_law 605 = .ok (.aload_n 0, 1) := by decide +kernel
theorem d_L_law_606 : decode b_L_law 606 = .ok (.iload 4, 2) := by decide +kernel
theorem d_L_law_608 : decode b_L_law 608 = .ok (.iconst 5, 1) := by decide +kernel
theorem d_L_law_609 : decode b_L_law 609 = .ok (.iadd, 1) := by decide +kernel
theorem d_L_law_610 : decode b_L_law 610 = .ok (.iaload, 1) := by decide +kernel
theorem d_L_law_611 : decode b_L_law 611 = .ok (.aload_n 3, 1) := by decide +kernel
theorem d_L_law_612 : decode b_L_law 612 = .ok (.invokestatic 98, 3) := by decide +kernel
theorem d_L_law_615 : decode b_L_law 615 = .ok (.istore 5, 2) := by decide +kernel
theorem d_L_law_617 : decode b_L_law 617 = .ok (.aload_n 2, 1) := by decide +kernel
theorem d_L_law_618 : decode b_L_law 618 = .ok (.aload_n 0, 1) := by decide +kernel
theorem d_L_law_619 : decode b_L_law 619 = .ok (.iload 4, 2) := by decide +kernel
theorem d_L_law_621 : decode b_L_law 621 = .ok (.iconst 1, 1) := by decide +kernel
theorem d_L_law_622 : decode b_L_law 622 = .ok (.iadd, 1) := by decide +kernel
theorem d_L_law_623 : decode b_L_law 623 = .ok (.iaload, 1) := by decide +kernel
theorem d_L_law_624 : decode b_L_law 624 = .ok (.aload_n 0, 1) := by decide +kernel
theorem d_L_law_625 : decode b_L_law 625 = .ok (.iload 4, 2) := by decide +kernel
theorem d_L_law_627 : decode b_L_law 627 = .ok (.iconst 2, 1) := by decide +kernel
theorem d_L_law_628 : decode b_L_law 628 = .ok (.iadd, 1) := by decide +kernel
theorem d_L_law_629 : decode b_L_law 629 = .ok (.iaload, 1) := by decide +kernel
theorem d_L_law_630 : decode b_L_law 630 = .ok (.aload_n 0, 1) := by decide +kernel
theorem d_L_law_631 : decode b_L_law 631 = .ok (.iload 4, 2) := by decide +kernel
theorem d_L_law_633 : decode b_L_law 633 = .ok (.iconst 3, 1) := by decide +kernel
theorem d_L_law_634 : decode b_L_law 634 = .ok (.iadd, 1) := by decide +kernel
theorem d_L_law_635 : decode b_L_law 635 = .ok (.iaload, 1) := by decide +kernel
theorem d_L_law_636 : decode b_L_law 636 = .ok (.aload_n 0, 1) := by decide +kernel
theorem d_L_law_637 : decode b_L_law 637 = .ok (.iload 4, 2) := by decide +kernel
theorem d_L_law_639 : decode b_L_law 639 = .ok (.iconst 4, 1) := by decide +kernel
theorem d_L_law_640 : decode b_L_law 640 = .ok (.iadd, 1) := by decide +kernel
theorem d_L_law_641 : decode b_L_law 641 = .ok (.iaload, 1) := by decide +kernel
theorem d_L_law_642 : decode b_L_law 642 = .ok (.aload_n 0, 1) := by decide +kernel
theorem d_L_law_643 : decode b_L_law 643 = .ok (.iload 4, 2) := by decide +kernel
theorem d_L_law_645 : decode b_L_law 645 = .ok (.iconst 5, 1) := by decide +kernel
theorem d_L_law_646 : decode b_L_law 646 = .ok (.iadd, 1) := by decide +kernel
theorem d_L_law_647 : decode b_L_law 647 = .ok (.iaload, 1) := by decide +kernel
theorem d_L_law_648 : decode b_L_law 648 = .ok (.invokevirtual 100, 3) := by decide +kernel
theorem d_L_law_651 : decode b_L_law 651 = .ok (.istore 6, 2) := by decide +kernel
theorem d_L_law_653 : decode b_L_law 653 = .ok (.aload_n 2, 1) := by decide +kernel
theorem d_L_law_654 : decode b_L_law 654 = .ok (.invokevirtual 77, 3) := by decide +kernel
theorem d_L_law_657 : decode b_L_law 657 = .ok (.iload 5, 2) := by decide +kernel
theorem d_L_law_659 : decode b_L_law 659 = .ok (.if_icmp .eq 5, 3) := by decide +kernel
theorem d_L_law_662 : decode b_L_law 662 = .ok (.iconst 0, 1) := by decide +kernel
theorem d_L_law_663 : decode b_L_law 663 = .ok (.ireturn, 1) := by decide +kernel
theorem d_L_law_664 : decode b_L_law 664 = .ok (.iload 5, 2) := by decide +kernel
theorem d_L_law_666 : decode b_L_law 666 = .ok (.ifCond .ne 15, 3) := by decide +kernel
theorem d_L_law_669 : decode b_L_law 669 = .ok (.aload_n 3, 1) := by decide +kernel
theorem d_L_law_670 : decode b_L_law 670 = .ok (.iconst 0, 1) := by decide +kernel
theorem d_L_law_671 : decode b_L_law 671 = .ok (.laload, 1) := by decide +kernel
theorem d_L_law_672 : decode b_L_law 672 = .ok (.iload 6, 2) := by decide +kernel
theorem d_L_law_674 : decode b_L_law 674 = .ok (.i2l, 1) := by decide +kernel
theorem d_L_law_675 : decode b_L_law 675 = .ok (.lcmp, 1) := by decide +kernel
theorem d_L_law_676 : decode b_L_law 676 = .ok (.ifCond .eq 5, 3) := by decide +kernel
theorem d_L_law_679 : decode b_L_law 679 = .ok (.iconst 0, 1) := by decide +kernel
theorem d_L_law_680 : decode b_L_law 680 = .ok (.ireturn, 1) := by decide +kernel
theorem d_L_law_681 : decode b_L_law 681 = .ok (.goto 563, 3) := by decide +kernel
theorem d_L_law_684 : decode b_L_law 684 = .ok (.aload_n 1, 1) := by decide +kernel
theorem d_L_law_685 : decode b_L_law 685 = .ok (.aload_n 0, 1) := by decide +kernel
theorem d_L_law_686 : decode b_L_law 686 = .ok (.iload 4, 2) := by decide +kernel
theorem d_L_law_688 : decode b_L_law 688 = .ok (.iconst 1, 1) := by decide +kernel
theorem d_L_law_689 : decode b_L_law 689 = .ok (.iadd, 1) := by decide +kernel
theorem d_L_law_690 : decode b_L_law 690 = .ok (.iaload, 1) := by decide +kernel
theorem d_L_law_691 : decode b_L_law 691 = .ok (.aload_n 3, 1) := by decide +kernel
end
section
theorem d_L_law_692 : decode b_L_law 692 = .ok (.invokestatic 101, 3) := by decide +kernel
theorem d_L_law_695 : decode b_L_law 695 = .ok (.istore 5, 2) := by decide +kernel
theorem d_L_law_697 : decode b_L_law 697 = .ok (.aload_n 2, 1) := by decide +kernel
theorem d_L_law_698 : decode b_L_law 698 = .ok (.aload_n 0, 1) := by decide +kernel
theorem d_L_law_699 : decode b_L_law 699 = .ok (.iload 4, 2) := by decide +kernel
theorem d_L_law_701 : decode b_L_law 701 = .ok (.iconst 1, 1) := by decide +kernel
theorem d_L_law_702 : decode b_L_law 702 = .ok (.iadd, 1) := by decide +kernel
theorem d_L_law_703 : decode b_L_law 703 = .ok (.iaload, 1) := by decide +kernel
theorem d_L_law_704 : decode b_L_law 704 = .ok (.invokevirtual 104, 3) := by decide +kernel
theorem d_L_law_707 : decode b_L_law 707 = .ok (.istore 6, 2) := by decide +kernel
theorem d_L_law_709 : decode b_L_law 709 = .ok (.aload_n 2, 1) := by decide +kernel
theorem d_L_law_710 : decode b_L_law 710 = .ok (.invokevirtual 77, 3) := by decide +kernel
theorem d_L_law_713 : decode b_L_law 713 = .ok (.iload 5, 2) := by decide +kernel
theorem d_L_law_715 : decode b_L_law 715 = .ok (.if_icmp .eq 5, 3) := by decide +kernel
theorem d_L_law_718 : decode b_L_law 718 = .ok (.iconst 0, 1) := by decide +kernel
theorem d_L_law_719 : decode b_L_law 719 = .ok (.ireturn, 1) := by decide +kernel
theorem d_L_law_720 : decode b_L_law 720 = .ok (.iload 5, 2) := by decide +kernel
theorem d_L_law_722 : decode b_L_law 722 = .ok (.ifCond .ne 15, 3) := by decide +kernel
theorem d_L_law_725 : decode b_L_law 725 = .ok (.aload_n 3, 1) := by decide +kernel
theorem d_L_law_726 : decode b_L_law 726 = .ok (.iconst 0, 1) := by decide +kernel
theorem d_L_law_727 : decode b_L_law 727 = .ok (.laload, 1) := by decide +kernel
theorem d_L_law_728 : decode b_L_law 728 = .ok (.iload 6, 2) := by decide +kernel
theorem d_L_law_730 : decode b_L_law 730 = .ok (.i2l, 1) := by decide +kernel
theorem d_L_law_731 : decode b_L_law 731 = .ok (.lcmp, 1) := by decide +kernel
theorem d_L_law_732 : decode b_L_law 732 = .ok (.ifCond .eq 5, 3) := by decide +kernel
theorem d_L_law_735 : decode b_L_law 735 = .ok (.iconst 0, 1) := by decide +kernel
theorem d_L_law_736 : decode b_L_law 736 = .ok (.ireturn, 1) := by decide +kernel
theorem d_L_law_737 : decode b_L_law 737 = .ok (.goto 507, 3) := by decide +kernel
theorem d_L_law_740 : decode b_L_law 740 = .ok (.aload_n 1, 1) := by decide +kernel
theorem d_L_law_741 : decode b_L_law 741 = .ok (.aload_n 0, 1) := by decide +kernel
theorem d_L_law_742 : decode b_L_law 742 = .ok (.iload 4, 2) := by decide +kernel
theorem d_L_law_744 : decode b_L_law 744 = .ok (.iconst 1, 1) := by decide +kernel
theorem d_L_law_745 : decode b_L_law 745 = .ok (.iadd, 1) := by decide +kernel
theorem d_L_law_746 : decode b_L_law 746 = .ok (.iaload, 1) := by decide +kernel
theorem d_L_law_747 : decode b_L_law 747 = .ok (.aload_n 0, 1) := by decide +kernel
theorem d_L_law_748 : decode b_L_law 748 = .ok (.iload 4, 2) := by decide +kernel
theorem d_L_law_750 : decode b_L_law 750 = .ok (.iconst 2, 1) := by decide +kernel
theorem d_L_law_751 : decode b_L_law 751 = .ok (.iadd, 1) := by decide +kernel
theorem d_L_law_752 : decode b_L_law 752 = .ok (.iaload, 1) := by decide +kernel
theorem d_L_law_753 : decode b_L_law 753 = .ok (.i2b, 1) := by decide +kernel
theorem d_L_law_754 : decode b_L_law 754 = .ok (.aload_n 3, 1) := by decide +kernel
theorem d_L_law_755 : decode b_L_law 755 = .ok (.invokestatic 105, 3) := by decide +kernel
theorem d_L_law_758 : decode b_L_law 758 = .ok (.istore 5, 2) := by decide +kernel
theorem d_L_law_760 : decode b_L_law 760 = .ok (.aload_n 2, 1) := by decide +kernel
theorem d_L_law_761 : decode b_L_law 761 = .ok (.aload_n 0, 1) := by decide +kernel
theorem d_L_law_762 : decode b_L_law 762 = .ok (.iload 4, 2) := by decide +kernel
theorem d_L_law_764 : decode b_L_law 764 = .ok (.iconst 1, 1) := by decide +kernel
theorem d_L_law_765 : decode b_L_law 765 = .ok (.iadd, 1) := by decide +kernel
theorem d_L_law_766 : decode b_L_law 766 = .ok (.iaload, 1) := by decide +kernel
theorem d_L_law_767 : decode b_L_law 767 = .ok (.aload_n 0, 1) := by decide +kernel
theorem d_L_law_768 : decode b_L_law 768 = .ok (.iload 4, 2) := by decide +kernel
theorem d_L_law_770 : decode b_L_law 770 = .ok (.iconst 2, 1) := by decide +kernel
theorem d_L_law_771 : decode b_L_law 771 = .ok (.iadd, 1) := by decide +kernel
theorem d_L_law_772 : decode b_L_law 772 = .ok (.iaload, 1) := by decide +kernel
theorem d_L_law_773 : decode b_L_law 773 = .ok (.i2b, 1) := by decide +kernel
theorem d_L_law_774 : decode b_L_law 774 = .ok (.invokevirtual 108, 3) := by decide +kernel
theorem d_L_law_777 : decode b_L_law 777 = .ok (.istore 6, 2) := by decide +kernel
theorem d_L_law_779 : decode b_L_law 779 = .ok (.aload_n 2, 1) := by decide +kernel
theorem d_L_law_780 : decode b_L_law 780 = .ok (.invokevirtual 77, 3) := by decide +kernel
theorem d_L_law_783 : decode b_L_law 783 = .ok (.iload 5, 2) := by decide +kernel
theorem d_L_law_785 : decode b_L_law 785 = .ok (.if_icmp .eq 5, 3) := by decide +kernel
theorem d_L_law_788 : decode b_L_law 788 = .ok (.iconst 0, 1) := by decide +kernel
theorem d_L_law_789 : decode b_L_law 789 = .ok (.ireturn, 1) := by decide +kernel
theorem d_L_law_790 : decode b_L_law 790 = .ok (.iload 5, 2) := by decide +kernel
theorem d_L_law_792 : decode b_L_law 792 = .ok (.ifCond .ne 15, 3) := by decide +kernel
theorem d_L_law_795 : decode b_L_law 795 = .ok (.aload_n 3, 1) := by decide +kernel
theorem d_L_law_796 : decode b_L_law 796 = .ok (.iconst 0, 1) := by decide +kernel
theorem d_L_law_797 : decode b_L_law 797 = .ok (.laload, 1) := by decide +kernel
theorem d_L_law_798 : decode b_L_law 798 = .ok (.iload 6, 2) := by decide +kernel
theorem d_L_law_800 : decode b_L_law 800 = .ok (.i2l, 1) := by decide +kernel
theorem d_L_law_801 : decode b_L_law 801 = .ok (.lcmp, 1) := by decide +kernel
theorem d_L_law_802 : decode b_L_law 802 = .ok (.ifCond .eq 5, 3) := by decide +kernel
theorem d_L_law_805 : decode b_L_law 805 = .ok (.iconst 0, 1) := by decide +kernel
theorem d_L_law_806 : decode b_L_law 806 = .ok (.ireturn, 1) := by decide +kernel
theorem d_L_law_807 : decode b_L_law 807 = .ok (.goto 437, 3) := by decide +kernel
theorem d_L_law_810 : decode b_L_law 810 = .ok (.aload_n 1, 1) := by decide +kernel
theorem d_L_law_811 : decode b_L_law 811 = .ok (.aload_n 3, 1) := by decide +kernel
theorem d_L_law_812 : decode b_L_law 812 = .ok (.invokestatic 109, 3) := by decide +kernel
theorem d_L_law_815 : decode b_L_law 815 = .ok (.istore 5, 2) := by decide +kernel
theorem d_L_law_817 : decode b_L_law 817 = .ok (.aload_n 2, 1) := by decide +kernel
theorem d_L_law_818 : decode b_L_law 818 = .ok (.invokevirtual 111, 3) := by decide +kernel
theorem d_L_law_821 : decode b_L_law 821 = .ok (.istore 6, 2) := by decide +kernel
theorem d_L_law_823 : decode b_L_law 823 = .ok (.aload_n 2, 1) := by decide +kernel
theorem d_L_law_824 : decode b_L_law 824 = .ok (.invokevirtual 77, 3) := by decide +kernel
theorem d_L_law_827 : decode b_L_law 827 = .ok (.iload 5, 2) := by decide +kernel
theorem d_L_law_829 : decode b_L_law 829 = .ok (.if_icmp .eq 5, 3) := by decide +kernel
theorem d_L_law_832 : decode b_L_law 832 = .ok (.iconst 0, 1) := by decide +kernel
theorem d_L_law_833 : decode b_L_law 833 = .ok (.ireturn, 1) := by decide +kernel
theorem d_L_law_834 : decode b_L_law 834 = .ok (.iload 5, 2) := by decide +kernel
theorem d_L_law_836 : decode b_L_law 836 = .ok (.ifCond .ne 15, 3) := by decide +kernel
theorem d_L_law_839 : decode b_L_law 839 = .ok (.aload_n 3, 1) := by decide +kernel
theorem d_L_law_840 : decode b_L_law 840 = .ok (.iconst 0, 1) := by decide +kernel
theorem d_L_law_841 : decode b_L_law 841 = .ok (.laload, 1) := by decide +kernel
theorem d_L_law_842 : decode b_L_law 842 = .ok (.iload 6, 2) := by decide +kernel
theorem d_L_law_844 : decode b_L_law 844 = .ok (.i2l, 1) := by decide +kernel
theorem d_L_law_845 : decode b_L_law 845 = .ok (.lcmp, 1) := by decide +kernel
theorem d_L_law_846 : decode b_L_law 846 = .ok (.ifCond .eq 5, 3) := by decide +kernel
theorem d_L_law_849 : decode b_L_law 849 = .ok (.iconst 0, 1) := by decide +kernel
theorem d_L_law_850 : decode b_L_law 850 = .ok (.ireturn, 1) := by decide +kernel
theorem d_L_law_851 : decode b_L_law 851 = .ok (.goto 393, 3) := by decide +kernel
theorem d_L_law_854 : decode b_L_law 854 = .ok (.aload_n 1, 1) := by decide +kernel
theorem d_L_law_855 : decode b_L_law 855 = .ok (.invokevirtual 112, 3) := by decide +kernel
theorem d_L_law_858 : decode b_L_law 858 = .ok (.aload_n 2, 1) := by decide +kernel
theorem d_L_law_859 : decode b_L_law 859 = .ok (.invokevirtual 115, 3) := by decide +kernel
theorem d_L_law_862 : decode b_L_law 862 = .ok (.if_icmp .eq 382, 3) := by decide +kernel
theorem d_L_law_865 : decode b_L_law 865 = .ok (.iconst 0, 1) := by decide +kernel
theorem d_L_law_866 : decode b_L_law 866 = .ok (.ireturn, 1) := by decide +kernel
theorem d_L_law_867 : decode b_L_law 867 = .ok (.aload_n 1, 1) := by decide +kernel
theorem d_L_law_868 : decode b_L_law 868 = .ok (.aload_n 0, 1) := by decide +kernel
theorem d_L_law_869 : decode b_L_law 869 = .ok (.iload 4, 2) := by decide +kernel
theorem d_L_law_871 : decode b_L_law 871 = .ok (.iconst 1, 1) := by decide +kernel
theorem d_L_law_872 : decode b_L_law 872 = .ok (.iadd, 1) := by decide +kernel
theorem d_L_law_873 : decode b_L_law 873 = .ok (.iaload, 1) := by decide +kernel
theorem d_L_law_874 : decode b_L_law 874 = .ok (.aload_n 0, 1) := by decide +kernel
theorem d_L_law_875 : decode b_L_law 875 = .ok (.iload 4, 2) := by decide +kernel
theorem d_L_law_877 : decode b_L_law 877 = .ok (.iconst 2, 1) := by decide +kernel
theorem d_L_law_878 : decode b_L_law 878 = .ok (.iadd, 1) := by decide +kernel
theorem d_L_law_879 : decode b_L_law 879 = .ok (.iaload, 1) := by decide +kernel
theorem d_L_law_880 : decode b_L_law 880 = .ok (.aload_n 3, 1) := by decide +kernel
theorem d_L_law_881 : decode b_L_law 881 = .ok (.invokestatic 116, 3) := by decide +kernel
theorem d_L_law_884 : decode b_L_law 884 = .ok (.istore 5, 2) := by decide +kernel
theorem d_L_law_886 : decode b_L_law 886 = .ok (.aload_n 2, 1) := by decide +kernel
theorem d_L_law_887 : decode b_L_law 887 = .ok (.aload_n 0, 1) := by decide +kernel
theorem d_L_law_888 : decode b_L_law 888 = .ok (.iload 4, 2) := by decide +kernel
theorem d_L_law_890 : decode b_L_law 890 = .ok (.iconst 1, 1) := by decide +kernel
theorem d_L_law_891 : decode b_L_law 891 = .ok (.iadd, 1) := by decide +kernel
theorem d_L_law_892 : decode b_L_law 892 = .ok (.iaload, 1) := by decide +kernel
theorem d_L_law_893 : decode b_L_law 893 = .ok (.aload_n 0, 1) := by decide +kernel
theorem d_L_law_894 : decode b_L_law 894 = .ok (.iload 4, 2) := by decide +kernel
theorem d_L_law_896 : decode b_L_law 896 = .ok (.iconst 2, 1) := by decide +kernel
theorem d_L_law_897 : decode b_L_law 897 = .ok (.iadd, 1) := by decide +kernel
theorem d_L_law_898 : decode b_L_law 898 = .ok (.iaload, 1) := by decide +kernel
theorem d_L_law_899 : decode b_L_law 899 = .ok (.invokevirtual 118, 3) := by decide +kernel
theorem d_L_law_902 : decode b_L_law 902 = .ok (.istore 6, 2) := by decide +kernel
theorem d_L_law_904 : decode b_L_law 904 = .ok (.aload_n 2, 1) := by decide +kernel
theorem d_L_law_905 : decode b_L_law 905 = .ok (.invokevirtual 77, 3) := by decide +kernel
theorem d_L_law_908 : decode b_L_law 908 = .ok (.iload 5, 2) := by decide +kernel
theorem d_L_law_910 : decode b_L_law 910 = .ok (.if_icmp .eq 5, 3) := by decide +kernel
theorem d_L_law_913 : decode b_L_law 913 = .ok (.iconst 0, 1) := by decide +kernel
theorem d_L_law_914 : decode b_L_law 914 = .ok (.ireturn, 1) := by decide +kernel
theorem d_L_law_915 : decode b_L_law 915 = .ok (.iload 5, 2) := by decide +kernel
theorem d_L_law_917 : decode b_L_law 917 = .ok (.ifCond .ne 15, 3) := by decide +kernel
theorem d_L_law_920 : decode b_L_law 920 = .ok (.aload_n 3, 1) := by decide +kernel
theorem d_L_law_921 : decode b_L_law 921 = .ok (.iconst 0, 1) := by decide +kernel
theorem d_L_law_922 : decode b_L_law 922 = .ok (.laload, 1) := by decide +kernel
theorem d_L_law_923 : decode b_L_law 923 = .ok (.iload 6, 2) := by decide +kernel
theorem d_L_law_925 : decode b_L_law 925 = .ok (.i2l, 1) := by decide +kernel
theorem d_L_law_926 : decode b_L_law 926 = .ok (.lcmp, 1) := by decide +kernel
theorem d_L_law_927 : decode b_L_law 927 = .ok (.ifCond .eq 5, 3) := by decide +kernel
theorem d_L_law_930 : decode b_L_law 930 = .ok (.iconst 0, 1) := by decide +kernel
theorem d_L_law_931 : decode b_L_law 931 = .ok (.ireturn, 1) := by decide +kernel
theorem d_L_law_932 : decode b_L_law 932 = .ok (.goto 312, 3) := by decide +kernel
theorem d_L_law_935 : decode b_L_law 935 = .ok (.aload_n 1, 1) := by decide +kernel
theorem d_L_law_936 : decode b_L_law 936 = .ok (.aload_n 0, 1) := by decide +kernel
theorem d_L_law_937 : decode b_L_law 937 = .ok (.iload 4, 2) := by decide +kernel
theorem d_L_law_939 : decode b_L_law 939 = .ok (.iconst 1, 1) := by decide +kernel
theorem d_L_law_940 : decode b_L_law 940 = .ok (.iadd, 1) := by decide +kernel
theorem d_L_law_941 : decode b_L_law 941 = .ok (.iaload, 1) := by decide +kernel
theorem d_L_law_942 : decode b_L_law 942 = .ok (.aload_n 0, 1) := by decide +kernel
theorem d_L_law_943 : decode b_L_law 943 = .ok (.iload 4, 2) := by decide +kernel
theorem d_L_law_945 : decode b_L_law 945 = .ok (.iconst 2, 1) := by decide +kernel
theorem d_L_law_946 : decode b_L_law 946 = .ok (.iadd, 1) := by decide +kernel
theorem d_L_law_947 : decode b_L_law 947 = .ok (.iaload, 1) := by decide +kernel
theorem d_L_law_948 : decode b_L_law 948 = .ok (.aload_n 0, 1) := by decide +kernel
theorem d_L_law_949 : decode b_L_law 949 = .ok (.iload 4, 2) := by decide +kernel
theorem d_L_law_951 : decode b_L_law 951 = .ok (.iconst 3, 1) := by decide +kernel
theorem d_L_law_952 : decode b_L_law 952 = .ok (.iadd, 1) := by decide +kernel
theorem d_L_law_953 : decode b_L_law 953 = .ok (.iaload, 1) := by decide +kernel
theorem d_L_law_954 : decode b_L_law 954 = .ok (.aload_n 0, 1) := by decide +kernel
theorem d_L_law_955 : decode b_L_law 955 = .ok (.iload 4, 2) := by decide +kernel
theorem d_L_law_957 : decode b_L_law 957 = .ok (.iconst 4, 1) := by decide +kernel
theorem d_L_law_958 : decode b_L_law 958 = .ok (.iadd, 1) := by decide +kernel
theorem d_L_law_959 : decode b_L_law 959 = .ok (.iaload, 1) := by decide +kernel
theorem d_L_law_960 : decode b_L_law 960 = .ok (.aload_n 3, 1) := by decide +kernel
theorem d_L_law_961 : decode b_L_law 961 = .ok (.invokestatic 119, 3) := by decide +kernel
theorem d_L_law_964 : decode b_L_law 964 = .ok (.istore 5, 2) := by decide +kernel
theorem d_L_law_966 : decode b_L_law 966 = .ok (.aload_n 2, 1) := by decide +kernel
theorem d_L_law_967 : decode b_L_law 967 = .ok (.aload_n 0, 1) := by decide +kernel
theorem d_L_law_968 : decode b_L_law 968 = .ok (.iload 4, 2) := by decide +kernel
theorem d_L_law_970 : decode b_L_law 970 = .ok (.iconst 1, 1) := by decide +kernel
theorem d_L_law_971 : decode b_L_law 971 = .ok (.iadd, 1) := by decide +kernel
theorem d_L_law_972 : decode b_L_law 972 = .ok (.iaload, 1) := by decide +kernel
theorem d_L_law_973 : decode b_L_law 973 = .ok (.aload_n 0, 1) := by decide +kernel
theorem d_L_law_974 : decode b_L_law 974 = .ok (.iload 4, 2) := by decide +kernel
theorem d_L_law_976 : decode b_L_law 976 = .ok (.iconst 2, 1) := by decide +kernel
theorem d_L_law_977 : decode b_L_law 977 = .ok (.iadd, 1) := by decide +kernel
theorem d_L_law_978 : decode b_L_law 978 = .ok (.iaload, 1) := by decide +kernel
theorem d_L_law_979 : decode b_L_law 979 = .ok (.aload_n 0, 1) := by decide +kernel
theorem d_L_law_980 : decode b_L_law 980 = .ok (.iload 4, 2) := by decide +kernel
theorem d_L_law_982 : decode b_L_law 982 = .ok (.iconst 3, 1) := by decide +kernel
theorem d_L_law_983 : decode b_L_law 983 = .ok (.iadd, 1) := by decide +kernel
theorem d_L_law_984 : decode b_L_law 984 = .ok (.iaload, 1) := by decide +kernel
theorem d_L_law_985 : decode b_L_law 985 = .ok (.aload_n 0, 1) := by decide +kernel
theorem d_L_law_986 : decode b_L_law 986 = .ok (.iload 4, 2) := by decide +kernel
theorem d_L_law_988 : decode b_L_law 988 = .ok (.iconst 4, 1) := by decide +kernel
theorem d_L_law_989 : decode b_L_law 989 = .ok (.iadd, 1) := by decide +kernel
theorem d_L_law_990 : decode b_L_law 990 = .ok (.iaload, 1) := by decide +kernel
theorem d_L_law_991 : decode b_L_law 991 = .ok (.invokevirtual 121, 3) := by decide +kernel
theorem d_L_law_994 : decode b_L_law 994 = .ok (.istore 6, 2) := by decide +kernel
theorem d_L_law_996 : decode b_L_law 996 = .ok (.aload_n 2, 1) := by decide +kernel
theorem d_L_law_997 : decode b_L_law 997 = .ok (.invokevirtual 77, 3) := by decide +kernel
theorem d_L_law_1000 : decode b_L_law 1000 = .ok (.iload 5, 2) := by decide +kernel
theorem d_L_law_1002 : decode b_L_law 1002 = .ok (.if_icmp .eq 5, 3) := by decide +kernel
theorem d_L_law_1005 : decode b_L_law 1005 = .ok (.iconst 0, 1) := by decide +kernel
theorem d_L_law_1006 : decode b_L_law 1006 = .ok (.ireturn, 1) := by decide +kernel
theorem d_L_law_1007 : decode b_L_law 1007 = .ok (.iload 5, 2) := by decide +kernel
theorem d_L_law_1009 : decode b_L_law 1009 = .ok (.ifCond .ne 15, 3) := by decide +kernel
theorem d_L_law_1012 : decode b_L_law 1012 = .ok (.aload_n 3, 1) := by decide +kernel
theorem d_L_law_1013 : decode b_L_law 1013 = .ok (.iconst 0, 1) := by decide +kernel
theorem d_L_law_1014 : decode b_L_law 1014 = .ok (.laload, 1) := by decide +kernel
theorem d_L_law_1015 : decode b_L_law 1015 = .ok (.iload 6, 2) := by decide +kernel
theorem d_L_law_1017 : decode b_L_law 1017 = .ok (.i2l, 1) := by decide +kernel
theorem d_L_law_1018 : decode b_L_law 1018 = .ok (.lcmp, 1) := by decide +kernel
theorem d_L_law_1019 : decode b_L_law 1019 = .ok (.ifCond .eq 5, 3) := by decide +kernel
theorem d_L_law_1022 : decode b_L_law 1022 = .ok (.iconst 0, 1) := by decide +kernel
theorem d_L_law_1023 : decode b_L_law 1023 = .ok (.ireturn, 1) := by decide +kernel
theorem d_L_law_1024 : decode b_L_law 1024 = .ok (.goto 220, 3) := by decide +kernel
theorem d_L_law_1027 : decode b_L_law 1027 = .ok (.aload_n 1, 1) := by decide +kernel
theorem d_L_law_1028 : decode b_L_law 1028 = .ok (.aload_n 0, 1) := by decide +kernel
theorem d_L_law_1029 : decode b_L_law 1029 = .ok (.iload 4, 2) := by decide +kernel
theorem d_L_law_1031 : decode b_L_law 1031 = .ok (.iconst 1, 1) := by decide +kernel
theorem d_L_law_1032 : decode b_L_law 1032 = .ok (.iadd, 1) := by decide +kernel
theorem d_L_law_1033 : decode b_L_law 1033 = .ok (.iaload, 1) := by decide +kernel
theorem d_L_law_1034 : decode b_L_law 1034 = .ok (.aload_n 0, 1) := by decide +kernel
theorem d_L_law_1035 : decode b_L_law 1035 = .ok (.iload 4, 2) := by decide +kernel
theorem d_L_law_1037 : decode b_L_law 1037 = .ok (.iconst 2, 1) := by decide +kernel
theorem d_L_law_1038 : decode b_L_law 1038 = .ok (.iadd, 1) := by decide +kernel
theorem d_L_law_1039 : decode b_L_law 1039 = .ok (.iaload, 1) := by decide +kernel
theorem d_L_law_1040 : decode b_L_law 1040 = .ok (.aload_n 3, 1) := by decide +kernel
theorem d_L_law_1041 : decode b_L_law 1041 = .ok (.invokestatic 122, 3) := by decide +kernel
theorem d_L_law_1044 : decode b_L_law 1044 = .ok (.istore 5, 2) := by decide +kernel
theorem d_L_law_1046 : decode b_L_law 1046 = .ok (.aload_n 2, 1) := by decide +kernel
theorem d_L_law_1047 : decode b_L_law 1047 = .ok (.aload_n 0, 1) := by decide +kernel
theorem d_L_law_1048 : decode b_L_law 1048 = .ok (.iload 4, 2) := by decide +kernel
theorem d_L_law_1050 : decode b_L_law 1050 = .ok (.iconst 1, 1) := by decide +kernel
theorem d_L_law_1051 : decode b_L_law 1051 = .ok (.iadd, 1) := by decide +kernel
theorem d_L_law_1052 : decode b_L_law 1052 = .ok (.iaload, 1) := by decide +kernel
theorem d_L_law_1053 : decode b_L_law 1053 = .ok (.aload_n 0, 1) := by decide +kernel
theorem d_L_law_1054 : decode b_L_law 1054 = .ok (.iload 4, 2) := by decide +kernel
theorem d_L_law_1056 : decode b_L_law 1056 = .ok (.iconst 2, 1) := by decide +kernel
theorem d_L_law_1057 : decode b_L_law 1057 = .ok (.iadd, 1) := by decide +kernel
theorem d_L_law_1058 : decode b_L_law 1058 = .ok (.iaload, 1) := by decide +kernel
theorem d_L_law_1059 : decode b_L_law 1059 = .ok (.invokevirtual 124, 3) := by decide +kernel
theorem d_L_law_1062 : decode b_L_law 1062 = .ok (.istore 6, 2) := by decide +kernel
theorem d_L_law_1064 : decode b_L_law 1064 = .ok (.aload_n 2, 1) := by decide +kernel
theorem d_L_law_1065 : decode b_L_law 1065 = .ok (.invokevirtual 77, 3) := by decide +kernel
theorem d_L_law_1068 : decode b_L_law 1068 = .ok (.iload 5, 2) := by decide +kernel
theorem d_L_law_1070 : decode b_L_law 1070 = .ok (.if_icmp .eq 5, 3) := by decide +kernel
theorem d_L_law_1073 : decode b_L_law 1073 = .ok (.iconst 0, 1) := by decide +kernel
theorem d_L_law_1074 : decode b_L_law 1074 = .ok (.ireturn, 1) := by decide +kernel
theorem d_L_law_1075 : decode b_L_law 1075 = .ok (.iload 5, 2) := by decide +kernel
theorem d_L_law_1077 : decode b_L_law 1077 = .ok (.ifCond .ne 15, 3) := by decide +kernel
theorem d_L_law_1080 : decode b_L_law 1080 = .ok (.aload_n 3, 1) := by decide +kernel
theorem d_L_law_1081 : decode b_L_law 1081 = .ok (.iconst 0, 1) := by decide +kernel
theorem d_L_law_1082 : decode b_L_law 1082 = .ok (.laload, 1) := by decide +kernel
theorem d_L_law_1083 : decode b_L_law 1083 = .ok (.iload 6, 2) := by decide +kernel
theorem d_L_law_1085 : decode b_L_law 1085 = .ok (.i2l, 1) := by decide +kernel
theorem d_L_law_1086 : decode b_L_law 1086 = .ok (.lcmp, 1) := by decide +kernel
theorem d_L_law_1087 : decode b_L_law 1087 = .ok (.ifCond .eq 5, 3) := by decide +kernel
theorem d_L_law_1090 : decode b_L_law 1090 = .ok (.iconst 0, 1) := by decide +kernel
theorem d_L_law_1091 : decode b_L_law 1091 = .ok (.ireturn, 1) := by decide +kernel
theorem d_L_law_1092 : decode b_L_law 1092 = .ok (.goto 152, 3) := by decide +kernel
theorem d_L_law_1095 : decode b_L_law 1095 = .ok (.aload_n 1, 1) := by decide +kernel
theorem d_L_law_1096 : decode b_L_law 1096 = .ok (.aload_n 0, 1) := by decide +kernel
theorem d_L_law_1097 : decode b_L_law 1097 = .ok (.iload 4, 2) := by decide +kernel
theorem d_L_law_1099 : decode b_L_law 1099 = .ok (.iconst 1, 1) := by decide +kernel
theorem d_L_law_1100 : decode b_L_law 1100 = .ok (.iadd, 1) := by decide +kernel
theorem d_L_law_1101 : decode b_L_law 1101 = .ok (.iaload, 1) := by decide +kernel
theorem d_L_law_1102 : decode b_L_law 1102 = .ok (.aload_n 3, 1) := by decide +kernel
theorem d_L_law_1103 : decode b_L_law 1103 = .ok (.invokestatic 125, 3) := by decide +kernel
theorem d_L_law_1106 : decode b_L_law 1106 = .ok (.istore 5, 2) := by decide +kernel
theorem d_L_law_1108 : decode b_L_law 1108 = .ok (.aload_n 2, 1) := by decide +kernel
theorem d_L_law_1109 : decode b_L_law 1109 = .ok (.aload_n 0, 1) := by decide +kernel
theorem d_L_law_1110 : decode b_L_law 1110 = .ok (.iload 4, 2) := by decide +kernel
theorem d_L_law_1112 : decode b_L_law 1112 = .ok (.iconst 1, 1) := by decide +kernel
theorem d_L_law_1113 : decode b_L_law 1113 = .ok (.iadd, 1) := by decide +kernel
theorem d_L_law_1114 : decode b_L_law 1114 = .ok (.iaload, 1) := by decide +kernel
theorem d_L_law_1115 : decode b_L_law 1115 = .ok (.invokevirtual 127, 3) := by decide +kernel
theorem d_L_law_1118 : decode b_L_law 1118 = .ok (.istore 6, 2) := by decide +kernel
theorem d_L_law_1120 : decode b_L_law 1120 = .ok (.aload_n 2, 1) := by decide +kernel
theorem d_L_law_1121 : decode b_L_law 1121 = .ok (.invokevirtual 77, 3) := by decide +kernel
theorem d_L_law_1124 : decode b_L_law 1124 = .ok (.iload 5, 2) := by decide +kernel
theorem d_L_law_1126 : decode b_L_law 1126 = .ok (.if_icmp .eq 5, 3) := by decide +kernel
theorem d_L_law_1129 : decode b_L_law 1129 = .ok (.iconst 0, 1) := by decide +kernel
theorem d_L_law_1130 : decode b_L_law 1130 = .ok (.ireturn, 1) := by decide +kernel
theorem d_L_law_1131 : decode b_L_law 1131 = .ok (.iload 5, 2) := by decide +kernel
theorem d_L_law_1133 : decode b_L_law 1133 = .ok (.ifCond .ne 15, 3) := by decide +kernel
theorem d_L_law_1136 : decode b_L_law 1136 = .ok (.aload_n 3, 1) := by decide +kernel
theorem d_L_law_1137 : decode b_L_law 1137 = .ok (.iconst 0, 1) := by decide +kernel
theorem d_L_law_1138 : decode b_L_law 1138 = .ok (.laload, 1) := by decide +kernel
theorem d_L_law_1139 : decode b_L_law 1139 = .ok (.iload 6, 2) := by decide +kernel
theorem d_L_law_1141 : decode b_L_law 1141 = .ok (.i2l, 1) := by decide +kernel
theorem d_L_law_1142 : decode b_L_law 1142 = .ok (.lcmp, 1) := by decide +kernel
theorem d_L_law_1143 : decode b_L_law 1143 = .ok (.ifCond .eq 5, 3) := by decide +kernel
theorem d_L_law_1146 : decode b_L_law 1146 = .ok (.iconst 0, 1) := by decide +kernel
theorem d_L_law_1147 : decode b_L_law 1147 = .ok (.ireturn, 1) := by decide +kernel
theorem d_L_law_1148 : decode b_L_law 1148 = .ok (.goto 96, 3) := by decide +kernel
theorem d_L_law_1151 : decode b_L_law 1151 = .ok (.aload_n 1, 1) := by decide +kernel
theorem d_L_law_1152 : decode b_L_law 1152 = .ok (.aload_n 0, 1) := by decide +kernel
theorem d_L_law_1153 : decode b_L_law 1153 = .ok (.iload 4, 2) := by decide +kernel
theorem d_L_law_1155 : decode b_L_law 1155 = .ok (.iconst 1, 1) := by decide +kernel
theorem d_L_law_1156 : decode b_L_law 1156 = .ok (.iadd, 1) := by decide +kernel
theorem d_L_law_1157 : decode b_L_law 1157 = .ok (.iaload, 1) := by decide +kernel
theorem d_L_law_1158 : decode b_L_law 1158 = .ok (.aload_n 0, 1) := by decide +kernel
theorem d_L_law_1159 : decode b_L_law 1159 = .ok (.iload 4, 2) := by decide +kernel
theorem d_L_law_1161 : decode b_L_law 1161 = .ok (.iconst 2, 1) := by decide +kernel
theorem d_L_law_1162 : decode b_L_law 1162 = .ok (.iadd, 1) := by decide +kernel
theorem d_L_law_1163 : decode b_L_law 1163 = .ok (.iaload, 1) := by decide +kernel
theorem d_L_law_1164 : decode b_L_law 1164 = .ok (.aload_n 3, 1) := by decide +kernel
theorem d_L_law_1165 : decode b_L_law 1165 = .ok (.invokestatic 128, 3) := by decide +kernel
theorem d_L_law_1168 : decode b_L_law 1168 = .ok (.istore 5, 2) := by decide +kernel
theorem d_L_law_1170 : decode b_L_law 1170 = .ok (.aload_n 2, 1) := by decide +kernel
theorem d_L_law_1171 : decode b_L_law 1171 = .ok (.aload_n 0, 1) := by decide +kernel
theorem d_L_law_1172 : decode b_L_law 1172 = .ok (.iload 4, 2) := by decide +kernel
theorem d_L_law_1174 : decode b_L_law 1174 = .ok (.iconst 1, 1) := by decide +kernel
theorem d_L_law_1175 : decode b_L_law 1175 = .ok (.iadd, 1) := by decide +kernel
theorem d_L_law_1176 : decode b_L_law 1176 = .ok (.iaload, 1) := by decide +kernel
theorem d_L_law_1177 : decode b_L_law 1177 = .ok (.aload_n 0, 1) := by decide +kernel
theorem d_L_law_1178 : decode b_L_law 1178 = .ok (.iload 4, 2) := by decide +kernel
theorem d_L_law_1180 : decode b_L_law 1180 = .ok (.iconst 2, 1) := by decide +kernel
theorem d_L_law_1181 : decode b_L_law 1181 = .ok (.iadd, 1) := by decide +kernel
theorem d_L_law_1182 : decode b_L_law 1182 = .ok (.iaload, 1) := by decide +kernel
theorem d_L_law_1183 : decode b_L_law 1183 = .ok (.invokevirtual 130, 3) := by decide +kernel
theorem d_L_law_1186 : decode b_L_law 1186 = .ok (.istore 6, 2) := by decide +kernel
theorem d_L_law_1188 : decode b_L_law 1188 = .ok (.aload_n 2, 1) := by decide +kernel
theorem d_L_law_1189 : decode b_L_law 1189 = .ok (.invokevirtual 77, 3) := by decide +kernel
theorem d_L_law_1192 : decode b_L_law 1192 = .ok (.iload 5, 2) := by decide +kernel
theorem d_L_law_1194 : decode b_L_law 1194 = .ok (.if_icmp .eq 5, 3) := by decide +kernel
theorem d_L_law_1197 : decode b_L_law 1197 = .ok (.iconst 0, 1) := by decide +kernel
theorem d_L_law_1198 : decode b_L_law 1198 = .ok (.ireturn, 1) := by decide +kernel
theorem d_L_law_1199 : decode b_L_law 1199 = .ok (.iload 5, 2) := by decide +kernel
theorem d_L_law_1201 : decode b_L_law 1201 = .ok (.ifCond .ne 15, 3) := by decide +kernel
theorem d_L_law_1204 : decode b_L_law 1204 = .ok (.aload_n 3, 1) := by decide +kernel
theorem d_L_law_1205 : decode b_L_law 1205 = .ok (.iconst 0, 1) := by decide +kernel
theorem d_L_law_1206 : decode b_L_law 1206 = .ok (.laload, 1) := by decide +kernel
theorem d_L_law_1207 : decode b_L_law 1207 = .ok (.iload 6, 2) := by decide +kernel
theorem d_L_law_1209 : decode b_L_law 1209 = .ok (.i2l, 1) := by decide +kernel
theorem d_L_law_1210 : decode b_L_law 1210 = .ok (.lcmp, 1) := by decide +kernel
theorem d_L_law_1211 : decode b_L_law 1211 = .ok (.ifCond .eq 5, 3) := by decide +kernel
theorem d_L_law_1214 : decode b_L_law 1214 = .ok (.iconst 0, 1) := by decide +kernel
theorem d_L_law_1215 : decode b_L_law 1215 = .ok (.ireturn, 1) := by decide +kernel
theorem d_L_law_1216 : decode b_L_law 1216 = .ok (.goto 28, 3) := by decide +kernel
theorem d_L_law_1219 : decode b_L_law 1219 = .ok (.aload_n 1, 1) := by decide +kernel
theorem d_L_law_1220 : decode b_L_law 1220 = .ok (.aload_n 0, 1) := by decide +kernel
theorem d_L_law_1221 : decode b_L_law 1221 = .ok (.iload 4, 2) := by decide +kernel
theorem d_L_law_1223 : decode b_L_law 1223 = .ok (.iconst 1, 1) := by decide +kernel
theorem d_L_law_1224 : decode b_L_law 1224 = .ok (.iadd, 1) := by decide +kernel
theorem d_L_law_1225 : decode b_L_law 1225 = .ok (.iaload, 1) := by decide +kernel
theorem d_L_law_1226 : decode b_L_law 1226 = .ok (.invokevirtual 131, 3) := by decide +kernel
theorem d_L_law_1229 : decode b_L_law 1229 = .ok (.aload_n 2, 1) := by decide +kernel
theorem d_L_law_1230 : decode b_L_law 1230 = .ok (.aload_n 0, 1) := by decide +kernel
theorem d_L_law_1231 : decode b_L_law 1231 = .ok (.iload 4, 2) := by decide +kernel
theorem d_L_law_1233 : decode b_L_law 1233 = .ok (.iconst 1, 1) := by decide +kernel
theorem d_L_law_1234 : decode b_L_law 1234 = .ok (.iadd, 1) := by decide +kernel
theorem d_L_law_1235 : decode b_L_law 1235 = .ok (.iaload, 1) := by decide +kernel
theorem d_L_law_1236 : decode b_L_law 1236 = .ok (.invokevirtual 134, 3) := by decide +kernel
theorem d_L_law_1239 : decode b_L_law 1239 = .ok (.if_icmp .eq 5, 3) := by decide +kernel
theorem d_L_law_1242 : decode b_L_law 1242 = .ok (.iconst 0, 1) := by decide +kernel
theorem d_L_law_1243 : decode b_L_law 1243 = .ok (.ireturn, 1) := by decide +kernel
theorem d_L_law_1244 : decode b_L_law 1244 = .ok (.iinc 4 6, 3) := by decide +kernel
theorem d_L_law_1247 : decode b_L_law 1247 = .ok (.goto (-1224), 3) := by decide +kernel
theorem d_L_law_1250 : decode b_L_law 1250 = .ok (.iconst 1, 1) := by decide +kernel
theorem d_L_law_1251 : decode b_L_law 1251 = .ok (.ireturn, 1) := by decide +kernel
end
section
/-! Memory as a partial map of cells, and walks over it. -/
theorem x_warm (w : Cond) (h : w ∈ x_tbl) {args a' : Array Value} {s U : State} (hW : s.WarmedH U.vm) (hb : w.before args s = true) : w.before a' U = true := by
  have hg : xgood w = true := (List.mem_filter.mp h).2
  clear h
  cases w with
  | methodLinkNest a i x h => exact va_Nw.use rfl (va_Nw.warmM hW (va_Nw.of rfl hb))
  | castable C T => exact va_Nw.use rfl (va_Nw.warmC hW (va_Nw.of rfl hb))
  | declares x => exact va_tabs rfl (rfl : (s.setVm U.vm).vm = U.vm) (by rw [Cond.declares_setVm hW.alike]; exact hb)
  | stringRef o k t =>
    have h1 := Cond.stringRef_warmed hW hb
    simp only [Cond.before, Cond.holds, Cond.value, State.names, State.poolOf?, State.resolvedAt?] at h1 ⊢
    exact h1
  | arrayOver ty =>
    cases ty with
    | object C => exact va_AO.use (va_AO.moved hW.alike (va_AO.of hb))
    | _ => exact word_at hW (good_of_word hg) hb
  | _ => exact word_at hW (good_of_word hg) hb
def x_stw : List Cond := [.laysStatic "java/lang/Throwable" "UNASSIGNED_STACK" "[Ljava/lang/StackTraceElement;", .laysStatic "java/lang/Throwable" "SUPPRESSED_SENTINEL" "Ljava/util/List;", .isRef (.static "java/lang/Throwable" "UNASSIGNED_STACK" "[Ljava/lang/StackTraceElement;"), .isRef (.static "java/lang/Throwable" "SUPPRESSED_SENTINEL" "Ljava/util/List;")]
def x_strs : List (String × Nat × String) := [("RedactCheck", 183, "there is no such page or form"), ("RedactCheck", 179, "a number is outside its bounds"), ("RedactCheck", 181, "there may be no more"), ("RedactCheck", 177, "there is no such number"), ("RedactCheck", 185, "there is no such word"), ("RedactCheck", 91, "42 stands for what went from a store"), ("RedactCheck", 187, "there is no such store"), ("RedactCheck", 123, "there would be too many forms"), ("RedactCheck", 169, "there is no such use"), ("RedactCheck", 175, "nothing of that kind is counted")]
def x_ncs : List (String × String) := [("java/lang/IllegalArgumentException", "java/lang/IndexOutOfBoundsException"), ("java/lang/UnsupportedOperationException", "java/lang/IndexOutOfBoundsException"), ("java/lang/UnsupportedOperationException", "java/lang/IllegalArgumentException")]
theorem x_lsKept {s U : State} (hal : s.vm.Alike U.vm) (hh : ∀ (a : Nat) (cell : Cell), s.heap[a]? = some cell → cell.vm.isStatics = true → U.heap[a]? = some cell) {C n d : String} {args a' : Array Value} (h : (Cond.laysStatic C n d).before args s = true) : (Cond.laysStatic C n d).before a' U = true := by
  obtain ⟨c, k, i, f, a, cell, hc, hi, hst, ha, hcell, hs, hcls, hlt, hty⟩ := Cond.laysStatic_spec h
  obtain ⟨k', hi', he⟩ := State.fieldFound?_setVm hal hi
  exact Cond.laysStatic_of (by rw [hal.findClass]; exact hc) hi' hst (by rw [he]; exact ha) (hh a cell hcell hs) hs hcls hlt (by rw [he]; exact hty)
theorem x_irKept {s U : State} (hal : s.vm.Alike U.vm) (hh : ∀ (a : Nat) (cell : Cell), s.heap[a]? = some cell → cell.vm.isStatics = true → U.heap[a]? = some cell) {C n d : String} {args a' : Array Value} (hl : (Cond.laysStatic C n d).before args s = true) (h : (Cond.isRef (.static C n d)).before args s = true) : (Cond.isRef (.static C n d)).before a' U = true := by
  obtain ⟨c, k, i, f, a, cell, hc, hi, hst, ha, hcell, hs, hcls, hlt, hty⟩ := Cond.laysStatic_spec hl
  obtain ⟨v, hv, hr⟩ := Cond.isRef_spec h
  obtain ⟨-, a2, cell2, ha2, hcell2, hkn, hsl⟩ := Term.static_spec hi hv
  cases ha.symm.trans ha2
  cases hcell.symm.trans hcell2
  obtain ⟨k', hi', he⟩ := State.fieldFound?_setVm hal hi
  have hU : U.heap[a]? = some cell := hh a cell hcell hs
  have ha' : k'.statics = some a := by rw [he]; exact ha
  have hev : (Term.static C n d).eval a' U none [] U = some v := by
    have hi'' : U.fieldFound? C n d = some (c, k', i, f) := hi'
    simp [Term.eval, State.fieldNamed?, hi'', hst, ha', hU, hs, hsl]
  unfold Cond.before Cond.holds
  simp only [Cond.value]
  rw [hev]
  cases v <;> first | rfl | (simp [Value.isRef] at hr; done)
theorem x_stw_kept {s U : State} (hal : s.vm.Alike U.vm) (hh : ∀ (a : Nat) (cell : Cell), s.heap[a]? = some cell → cell.vm.isStatics = true → U.heap[a]? = some cell) (w : Cond) (hw : w ∈ x_stw) (hall : ∀ w ∈ x_stw, w.before #[] s = true) : w.before #[] U = true := by
  have l1 := hall _ (show Cond.laysStatic "java/lang/Throwable" "UNASSIGNED_STACK" "[Ljava/lang/StackTraceElement;" ∈ x_stw by simp [x_stw])
  have l2 := hall _ (show Cond.laysStatic "java/lang/Throwable" "SUPPRESSED_SENTINEL" "Ljava/util/List;" ∈ x_stw by simp [x_stw])
  simp only [x_stw, List.mem_cons, List.not_mem_nil, or_false] at hw
  rcases hw with rfl | rfl | rfl | rfl
  · exact x_lsKept hal hh l1
  · exact x_lsKept hal hh l2
  · exact x_irKept hal hh l1 (hall _ (by simp [x_stw]))
  · exact x_irKept hal hh l2 (hall _ (by simp [x_stw]))
theorem x_ncKept {s U : State} (hal : s.vm.Alike U.vm) {C T : String} (h : va_Nc C T s) : va_Nc C T U := by
  obtain ⟨c, t, h1, h2, h3⟩ := h
  exact ⟨c, t, by rw [hal.findClass]; exact h1, by rw [hal.findClass]; exact h2, by rw [hal.assignable]; exact h3⟩
abbrev xMem : Type := Nat → Option va_E
def xof (L : List Nat) (f : Nat → va_E) : xMem := fun a => if a ∈ L then some (f a) else none
def xup (M : xMem) (a : Nat) (e : va_E) : xMem := fun j => if j = a then some e else M j
theorem xup_self (M : xMem) (a : Nat) (e : va_E) : xup M a e a = some e := by simp [xup]
theorem xup_ne (M : xMem) {a b : Nat} (e : va_E) (h : b ≠ a) : xup M a e b = M b := by simp [xup, h]
theorem xof_some {L : List Nat} {f : Nat → va_E} {a : Nat} {e : va_E} (h : xof L f a = some e) : a ∈ L ∧ f a = e := by
  unfold xof at h
  split at h
  · rename_i hm
    exact ⟨hm, Option.some.inj h⟩
  · cases h
theorem xof_in {L : List Nat} {f : Nat → va_E} {a : Nat} (h : xof L f a ≠ none) : a ∈ L := by
  unfold xof at h
  split at h
  · assumption
  · exact absurd rfl h
theorem xof_up {L : List Nat} {f : Nat → va_E} {a : Nat} {e : va_E} (h : a ∈ L) : xof L (va_up f a e) = xup (xof L f) a e := by
  funext j
  unfold xof xup va_up
  by_cases hj : j = a
  · subst hj
    simp [h]
  · simp [hj]
theorem xof_push {L : List Nat} {f : Nat → va_E} {a : Nat} {e : va_E} : xof (L ++ [a]) (va_up f a e) = xup (xof L f) a e := by
  funext j
  unfold xof xup va_up
  by_cases hj : j = a
  · subst hj
    simp
  · simp [hj]
/-- the heap holds the memory -/
abbrev xT : Type := va_G × (Nat → ClassId) × List (Nat × Cell) × List (String × String × String × Value)
def xH (D : va_G) (M : xMem) (H : Heap) : Prop := ∃ (L : List Nat) (f : Nat → va_E), M = xof L f ∧ va_P D classes ([] ++ va_pl L f) H ∧ va_D (fun _ => True) ([] ++ va_pl L f)
/-- a walk's world: the heap holds M, all of it in A; nothing outside A has changed since H0; what is new is in A -/
def xWd (G : xT) (A : Nat → Prop) (H0 : Heap) (M : xMem) (H : Heap) (locs : List Loc) : Prop :=
  ∃ (L : List Nat) (f : Nat → va_E), M = xof L f ∧ va_P G.1 classes ([] ++ va_pl L f) H ∧ va_D A ([] ++ va_pl L f) ∧ va_S A H0 H locs ∧ ∀ q, H0.size ≤ q → A q
section XW0
variable {G : xT} {A : Nat → Prop} {H0 H : Heap} {M : xMem} {locs : List Loc} {a : Nat} {e : va_E}
theorem xWd.pos (h : xWd G A H0 M H locs) (ha : M a = some e) :
    ∃ (L : List Nat) (f : Nat → va_E) (k : Nat), M = xof L f ∧ a ∈ L ∧ ([] ++ va_pl L f)[k]? = some (a, f a) ∧ f a = e ∧ va_P G.1 classes ([] ++ va_pl L f) H ∧ va_D A ([] ++ va_pl L f) ∧ va_S A H0 H locs ∧ ∀ q, H0.size ≤ q → A q := by
  obtain ⟨L, f, hM, hP, hD, hS, hA⟩ := h
  rw [hM] at ha
  obtain ⟨hm, he⟩ := xof_some ha
  obtain ⟨k, hk⟩ := va_pl_get (X := []) (f := f) hm
  exact ⟨L, f, k, hM, hm, hk, he, hP, hD, hS, hA⟩
theorem xWd.at (h : xWd G A H0 M H locs) (ha : M a = some e) : va_at G.1 classes (a, e) H := by
  obtain ⟨L, f, k, -, -, hk, he, hP, -⟩ := h.pos ha
  rw [← he]
  exact hP k _ hk
theorem xWd.lt (h : xWd G A H0 M H locs) (ha : M a = some e) : a < H.size := (h.at ha).lt
theorem xWd.inA (h : xWd G A H0 M H locs) (ha : M a ≠ none) : A a := by
  cases he : M a with
  | none => exact absurd he ha
  | some e =>
    obtain ⟨L, f, k, -, -, hk, -, -, hD, -⟩ := h.pos he
    exact hD.2 k _ hk
theorem xWd.S (h : xWd G A H0 M H locs) : va_S A H0 H locs := by
  obtain ⟨L, f, -, -, -, hS, -⟩ := h
  exact hS
theorem xWd.new (h : xWd G A H0 M H locs) : ∀ q, H0.size ≤ q → A q := by
  obtain ⟨L, f, -, -, -, -, hA⟩ := h
  exact hA
theorem xWd.fresh (h : xWd G A H0 M H locs) (ha : H.size ≤ a) : M a = none := by
  cases he : M a with
  | none => rfl
  | some e =>
    have := h.lt he
    omega
theorem xH.at {D : va_G} (h : xH D M H) (ha : M a = some e) : va_at D classes (a, e) H := by
  obtain ⟨L, f, hM, hP, -⟩ := h
  rw [hM] at ha
  obtain ⟨hm, he⟩ := xof_some ha
  obtain ⟨k, hk⟩ := va_pl_get (X := []) (f := f) hm
  rw [← he]
  exact hP k _ hk
theorem xH.lt {D : va_G} (h : xH D M H) (ha : M a ≠ none) : a < H.size := by
  cases he : M a with
  | none => exact absurd he ha
  | some e => exact (h.at he).lt
theorem xWd.hp (h : xWd G A H0 M H locs) : xH G.1 M H := by
  obtain ⟨L, f, hM, hP, hD, -⟩ := h
  exact ⟨L, f, hM, hP, hD.weaken (fun _ _ _ _ => trivial)⟩
theorem xWd.of (h : xH G.1 M H) (hA : ∀ q, M q ≠ none → A q) (hS : va_S A H0 H locs) (hN : ∀ q, H0.size ≤ q → A q) : xWd G A H0 M H locs := by
  obtain ⟨L, f, hM, hP, hD⟩ := h
  refine ⟨L, f, hM, hP, ⟨hD.1, fun k q hk => hA q.1 ?_⟩, hS, hN⟩
  have hq : q ∈ va_pl L f := List.mem_of_getElem? hk
  obtain ⟨b, hb, e⟩ := List.mem_map.mp hq
  subst e
  rw [hM]
  unfold xof
  rw [if_pos hb]
  exact fun z => by cases z
theorem x_plain {D : va_G} {H : Heap} {a : Nat} {e : va_E} {cell : Cell} (h : va_at D classes (a, e) H) (hc : H[a]? = some cell) : cell.vm = .none := by
  cases e with
  | inl x =>
    obtain ⟨cA, n, y⟩ := x
    have h1 : H[a]? = some (vp_cell cA (n, y)) := h
    have h2 : vp_cell cA (n, y) = cell := Option.some.inj (h1.symm.trans hc)
    rw [← h2]
    rcases y with y | y | y | y | y <;> rfl
  | inr o =>
    obtain ⟨r, -, cell', q1, q2, q3, -⟩ := h
    cases q1.symm.trans hc
    exact q3
/-- one cell has been written -/
theorem xWd.put {H1 : Heap} {locs1 : List Loc} {L : List Nat} {f : Nat → va_E} {k : Nat} (hm : a ∈ L) (hk : ([] ++ va_pl L f)[k]? = some (a, f a)) (hD : va_D A ([] ++ va_pl L f))
    (hP1 : va_P G.1 classes (([] ++ va_pl L f).set k (a, e)) H1) (hD1 : va_D A (([] ++ va_pl L f).set k (a, e))) (hS1 : va_S A H0 H1 locs1) (hA : ∀ q, H0.size ≤ q → A q) : xWd G A H0 (xup (xof L f) a e) H1 locs1 := by
  rw [va_pl_set hD hm hk] at hP1 hD1
  exact ⟨L, va_up f a e, (xof_up hm).symm, hP1, hD1, hS1, hA⟩
/-- one cell has been made -/
theorem xWd.push {H1 : Heap} {locs1 : List Loc} {L : List Nat} {f : Nat → va_E}
    (hP1 : va_P G.1 classes (([] ++ va_pl L f) ++ [(a, e)]) H1) (hD1 : va_D A (([] ++ va_pl L f) ++ [(a, e)])) (hS1 : va_S A H0 H1 locs1) (hA : ∀ q, H0.size ≤ q → A q) : xof L f a = none ∧ xWd G A H0 (xup (xof L f) a e) H1 locs1 := by
  have hn : a ∉ L := by
    intro hm
    obtain ⟨k, hk⟩ := va_pl_get (X := []) (f := f) hm
    have hl := (List.getElem?_eq_some_iff.mp hk).1
    have h1 : (([] ++ va_pl L f) ++ [(a, e)])[k]? = some (a, f a) := by
      rw [List.getElem?_append_left hl]
      exact hk
    have h2 : (([] ++ va_pl L f) ++ [(a, e)])[([] ++ va_pl L f).length]? = some (a, e) := by
      rw [List.getElem?_append_right (Nat.le_refl _), Nat.sub_self]
      rfl
    have := hD1.1 _ _ _ _ h1 h2 rfl
    omega
  refine ⟨by unfold xof; rw [if_neg hn], L ++ [a], va_up f a e, xof_push.symm, ?_, ?_, hS1, hA⟩
  · rw [List.nil_append, ← va_pl_push hn]
    exact hP1
  · rw [List.nil_append, ← va_pl_push hn]
    exact hD1
end XW0
/-- M' has all cells that M has, and outside of S as M has them -/
def xfr (M M' : xMem) (S : List Nat) : Prop := (∀ a, M a ≠ none → M' a ≠ none) ∧ ∀ a, a ∉ S → M a ≠ none → M' a = M a
theorem xfr.rf {M : xMem} {S : List Nat} : xfr M M S := ⟨fun _ h => h, fun _ _ _ => rfl⟩
theorem xfr.put {M M1 M2 : xMem} {S : List Nat} {a : Nat} {e : va_E} (h : xfr M M1 S) (em : M2 a = some e) (h2 : ∀ b, b ≠ a → M2 b = M1 b) (ha : a ∈ S ∨ M1 a = none) : xfr M M2 S := by
  refine ⟨fun b hb => ?_, fun b hb hn => ?_⟩
  · by_cases hz : b = a
    · rw [hz, em]
      exact fun z => by cases z
    · rw [h2 b hz]
      exact h.1 b hb
  · have hne : b ≠ a := by
      intro z
      subst z
      rcases ha with ha | ha
      · exact hb ha
      · exact h.1 b hn ha
    rw [h2 b hne]
    exact h.2 b hb hn
theorem xfr.trans {M M1 M2 : xMem} {S S1 : List Nat} (h : xfr M M1 S) (h2 : xfr M1 M2 S1) (hs : ∀ q ∈ S1, q ∈ S ∨ M q = none) : xfr M M2 S := by
  refine ⟨fun b hb => h2.1 b (h.1 b hb), fun b hb hn => ?_⟩
  have e := h.2 b hb hn
  rw [← e]
  refine h2.2 b (fun z => ?_) (by rw [e]; exact hn)
  rcases hs b z with q | q
  · exact hb q
  · exact hn q
theorem xfr.get {M M' : xMem} {S : List Nat} (h : xfr M M' S) {a : Nat} {e : va_E} (ha : M a = some e) (hn : a ∉ S) : M' a = some e := by
  rw [h.2 a hn (by rw [ha]; exact fun z => by cases z)]
  exact ha
theorem xfr.wide {M M' : xMem} {S S1 : List Nat} (h : xfr M M' S) (hs : ∀ q ∈ S, q ∈ S1) : xfr M M' S1 := ⟨h.1, fun a ha hn => h.2 a (fun z => ha (hs a z)) hn⟩
theorem xfr.none {M M' : xMem} {S : List Nat} (h : xfr M M' S) {a : Nat} (ha : M' a = none) : M a = none := by
  cases he : M a with
  | none => rfl
  | some e => exact absurd ha (h.1 a (by rw [he]; exact fun z => by cases z))
theorem x_ne {M : xMem} {a b : Nat} {e e' : va_E} (h1 : M a = some e) (h2 : M b = some e') (h : e ≠ e') : a ≠ b := by
  intro z
  subst z
  exact h (Option.some.inj (h1.symm.trans h2))
theorem x_neN {M : xMem} {a b : Nat} {e : va_E} (h1 : M a = some e) (h2 : M b = none) : a ≠ b := by
  intro z
  subst z
  rw [h1] at h2
  cases h2
theorem x_nn {M : xMem} {a : Nat} {e : va_E} (h1 : M a = some e) : M a ≠ none := by
  rw [h1]
  exact fun z => by cases z

/-! contracts -/
def xtys (c : Nat → ClassId) : List (ClassId × FieldType) := [(c 0, .int), (c 1, .byte), (c 2, .long), (c 3, .object "java/lang/Object"), (c 4, .boolean)]
def xA (M : xMem) (sz : Nat) : Nat → Prop := fun q => M q ≠ none ∨ sz ≤ q
/-- what nobody writes: some cells; what some static fields hold; no cell of statics is in A; words on statics; texts; classes apart; a class's mirror -/
def xfz (G : xT) (A : Nat → Prop) (U : State) : Prop := (∀ q ∈ G.2.2.1, ¬ A q.1 ∧ U.heap[q.1]? = some q.2) ∧ (∀ z ∈ G.2.2.2, va_Z z.1 z.2.1 z.2.2.1 z.2.2.2 A U U.heap) ∧ (∀ (a : Nat) (cell : Cell), U.heap[a]? = some cell → cell.vm.isStatics = true → ¬ A a) ∧ (∀ w ∈ x_stw, w.before #[] U = true) ∧ (∀ z ∈ x_strs, ∃ q : Nat, vk_R z.1 z.2.1 z.2.2 q U) ∧ (∀ z ∈ x_ncs, va_Nc z.1 z.2 U) ∧ ∃ mi : Nat, va_Mi "[Ljava/lang/Object;" mi U
theorem xfz.next {G : xT} {A B : Nat → Prop} {s U : State} (h : xfz G A s) (hW : s.WarmedH U.vm) (hh : ∀ q : Nat, q < s.heap.size → ¬ A q → U.heap[q]? = s.heap[q]?) (hAB : ∀ q, B q → A q) (hst : ∀ (a : Nat) (cell : Cell), U.heap[a]? = some cell → cell.vm.isStatics = true → ¬ B a) : xfz G B U := by
  obtain ⟨h1, h2, h3, h4, h5, h6, mi, h7⟩ := h
  have hk : ∀ (a : Nat) (cell : Cell), s.heap[a]? = some cell → cell.vm.isStatics = true → U.heap[a]? = some cell := fun a cell hc hs => by
    rw [hh a (Array.getElem?_eq_some_iff.mp hc).1 (h3 a cell hc hs)]
    exact hc
  refine ⟨fun q hq => ?_, fun z hz => ?_, hst, fun w hw => x_stw_kept hW.alike hk w hw h4, fun z hz => ?_, fun z hz => ?_, mi, va_Mi.moved hW.alike h7⟩
  · obtain ⟨z1, z2⟩ := h1 q hq
    exact ⟨fun z => z1 (hAB _ z), by rw [hh q.1 (Array.getElem?_eq_some_iff.mp z2).1 z1]; exact z2⟩
  · exact (va_Z.moved (u := s) hW.alike ((h2 z hz).kept hh)).narrow hAB
  · obtain ⟨q, hq⟩ := h5 z hz
    exact ⟨q, vk_R.warm hW hq⟩
  · exact x_ncKept hW.alike (h6 z hz)
def xPre (G : xT) (av : List Value) (M : xMem) (sz : Nat) : Array Value → State → Prop := fun v U => v = av.toArray ∧ U.heap.size = sz ∧ xH G.1 M U.heap ∧ va_K G.1 classes (xtys G.2.1) U ∧ xfz G (xA M sz) U
def xEnd (G : xT) (M : xMem) (sz : Nat) (M' : xMem) (t : State) : Prop := xH G.1 M' t.heap ∧ ∀ q, M' q ≠ none → xA M sz q
def xThr (X : String) (x : Addr) (t : State) : Prop := ∃ ce : Cell, t.heap[x]? = some ce ∧ ce.vm.isStatics = false ∧ t.vm.findClass X = some ce.cls
def xQ (G : xT) (M : xMem) (sz : Nat) (rt : Option Value → xMem → Prop) (th : String → xMem → Prop) : State → Outcome → State → Prop := fun st o t =>
  ((∃ (v : Option Value) (M' : xMem), o = .returned v ∧ rt v M' ∧ xEnd G M sz M' t) ∨ (∃ (x : Addr) (X : String) (M' : xMem), o = .threw x ∧ xThr X x t ∧ th X M' ∧ xEnd G M sz M' t)) ∧ va_F (xA M sz) st t
def xFr (st t : State) (L : List Loc) (k n : Nat) : Prop := st.WarmedH t.vm ∧ st.sameButNew ({ t with vm := st.vm } : State) L k n
def xMet (l : Launch) (G : xT) (y : MethodName) (ws : List Cond) (rm : Room) (av : List Value) (M : xMem) (sz : Nat) (rt : Option Value → xMem → Prop) (th : String → xMem → Prop) : Prop :=
  MetFree l y (headSpec ws rm) (xPre G av M sz) (fun _ _ _ _ _ => True) (fun _ st o t => xQ G M sz rt th st o t ∧ ∃ L, xFr st t L rm.cells rm.slots ∧ ∀ q ∈ L, xA M sz q.base)
def xMQ (below : List Frame) (G : xT) (M : xMem) (sz : Nat) (rt : Option Value → xMem → Prop) (th : String → xMem → Prop) (s : State) (mc ms : Nat) : State → Prop := fun t =>
  ∃ o, t.status = .running ∧ Ended t below o ∧ xQ G M sz rt th s o t ∧ ∃ L, xFr s t L mc ms ∧ ∀ q ∈ L, xA M sz q.base
/-- what stays the same all along a walk -/
def xC (p : Program) (s : State) (m : MethodId) (args : Array Value) (meth : Method) (c : Code) (cc : ByteArray) (own : String) (nL : Nat) (G : xT) (A : Nat → Prop) : Prop :=
  p.tables.exec = Jvm.exec ∧ c.code = cc ∧ s.vm.findClass own = some m.cls ∧ (∀ w ∈ x_tbl, w.before args s = true) ∧ va_K G.1 classes (xtys G.2.1) s ∧ c.maxLocals = nL ∧ meth.locks = false ∧ xfz G A s
section XR
variable {p : Program} {l : Launch} {e : Env} {R : Room} {s : State} {m : MethodId} {args : Array Value} {below : List Frame} {meth : Method} {c : Code} {H : Heap} {locs : List Loc} {cells slots : Nat} {Q : State → Prop}
theorem x_mono {Q' : State → Prop} {g : JFrame} (h : ∀ t, Q t → Q' t) (k : W p l e R s m args below meth c H locs cells slots Q g) : W p l e R s m args below meth c H locs cells slots Q' g := by
  intro T hT X
  obtain ⟨t, a, b⟩ := k T hT X
  exact ⟨t, a, h t b⟩
variable {cc : ByteArray} {own : String} {nL : Nat} {G : xT} {pc : Nat} {ls : Array Slot} {rest : List Value} {A : Nat → Prop} {a : Nat} {M : xMem} {H0 : Heap}
theorem xC.x (hC : xC p s m args meth c cc own nL G A) : p.tables.exec = Jvm.exec := hC.1
theorem xC.b (hC : xC p s m args meth c cc own nL G A) : c.code = cc := hC.2.1
theorem xC.o (hC : xC p s m args meth c cc own nL G A) : s.vm.findClass own = some m.cls := hC.2.2.1
theorem xC.w (hC : xC p s m args meth c cc own nL G A) : ∀ w ∈ x_tbl, w.before args s = true := hC.2.2.2.1
theorem xC.k (hC : xC p s m args meth c cc own nL G A) : va_K G.1 classes (xtys G.2.1) s := hC.2.2.2.2.1
theorem xC.n (hC : xC p s m args meth c cc own nL G A) : c.maxLocals = nL := hC.2.2.2.2.2.1
theorem xC.lk (hC : xC p s m args meth c cc own nL G A) : meth.locks = false := hC.2.2.2.2.2.2.1
theorem xC.z (hC : xC p s m args meth c cc own nL G A) : xfz G A s := hC.2.2.2.2.2.2.2
theorem x_vi {x y : Int32} (h : x = y) (k : W p l e R s m args below meth c H locs cells slots Q (F0 m pc ls (.int y :: rest))) : W p l e R s m args below meth c H locs cells slots Q (F0 m pc ls (.int x :: rest)) := by
  subst h
  exact k
theorem x_vl {x y : Int64} (h : x = y) (k : W p l e R s m args below meth c H locs cells slots Q (F0 m pc ls (.long y :: rest))) : W p l e R s m args below meth c H locs cells slots Q (F0 m pc ls (.long x :: rest)) := by
  subst h
  exact k
theorem x_vq {x y : Value} (h : x = y) (k : W p l e R s m args below meth c H locs cells slots Q (F0 m pc ls (y :: rest))) : W p l e R s m args below meth c H locs cells slots Q (F0 m pc ls (x :: rest)) := by
  subst h
  exact k
theorem x_lcmp {x y : Int64} : lg_cmp x y = 0 ↔ x = y := by
  unfold lg_cmp
  constructor
  · intro h
    by_cases h1 : x > y
    · rw [if_pos h1] at h
      exact absurd h (by decide)
    · rw [if_neg h1] at h
      by_cases h2 : x = y
      · exact h2
      · rw [if_neg h2] at h
        exact absurd h (by decide)
  · intro h
    subst h
    rw [if_neg (fun h => Int64.lt_irrefl h), if_pos rfl]
theorem x_lcmpN {x y : Int64} : ¬ lg_cmp x y = 0 ↔ ¬ x = y := not_congr x_lcmp
/-- fields -/
theorem x_get (hC : xC p s m args meth c cc own nL G A) (hw : xWd G A H0 M H locs) {ref C : String} {T : u_T} {N ci index : Nat} {fs : List Value} (ha : M a = some (.inr (ci, fs))) (hc : classes[ci]? = some (C, T, N)) (k : Nat) (hk : k < N) (hlink : (Cond.fieldLink own index ref (T k).2.1 (T k).2.2.1).before args s = true) (hsame : ∀ x, s.fieldFound? (T k).1 (T k).2.1 (T k).2.2.1 = some x → s.fieldFound? ref (T k).2.1 (T k).2.2.1 = some x) {v : Value} (hv : fs[k]? = some v) (hdg : decode cc pc = .ok (.getfield index, 3))
    (kk : W p l e R s m args below meth c H locs cells slots Q (F0 m (pc + 3) ls (v :: rest))) : W p l e R s m args below meth c H locs cells slots Q (F0 m pc ls (.ref a :: rest)) := by
  obtain ⟨L, f, q, rfl, hm, hq, he, hP, hD, hS, hA⟩ := hw.pos ha
  rw [he] at hq
  exact va_get hC.x hC.b hC.w (x_allin ci _ hc) hC.o hC.k hP q hq hc k hk hlink hsame hv hdg kk
theorem x_put (hC : xC p s m args meth c cc own nL G A) (hw : xWd G A H0 M H locs) {ref C : String} {T : u_T} {N ci index : Nat} {fs : List Value} (ha : M a = some (.inr (ci, fs))) (hc : classes[ci]? = some (C, T, N)) (k : Nat) (hk : k < N) (hlink : (Cond.fieldLink own index ref (T k).2.1 (T k).2.2.1).before args s = true) (hsame : ∀ x, s.fieldFound? (T k).1 (T k).2.1 (T k).2.2.1 = some x → s.fieldFound? ref (T k).2.1 (T k).2.2.1 = some x) (hfin : (T k).2.2.2 = false) {ty : FieldType} {v : Value} (hd : parseFieldDescriptor (T k).2.2.1 = some ty) (hn : narrow ty v = v) (hfit : fits ty v = true) (hl : k < fs.length) (hdg : decode cc pc = .ok (.putfield index, 3))
    (kk : ∀ (M1 : xMem) (H1 : Heap) (locs1 : List Loc), M1 a = some (.inr (ci, fs.set k v)) → (∀ b, b ≠ a → M1 b = M b) → xWd G A H0 M1 H1 locs1 → W p l e R s m args below meth c H1 locs1 cells slots Q (F0 m (pc + 3) ls rest)) : W p l e R s m args below meth c H locs cells slots Q (F0 m pc ls (v :: .ref a :: rest)) := by
  obtain ⟨L, f, q, rfl, hm, hq, he, hP, hD, hS, hA⟩ := hw.pos ha
  have hq' := hq
  rw [he] at hq'
  exact va_put hC.x hC.b hC.w (x_allin ci _ hc) (x_ty ci) (x_tyok ci _ hc) (x_nm ci _ hc) hC.o hC.k hP hD hS q hq' hc k hk hlink hsame hfin hd hn hfit hl hdg (fun H1 locs1 hP1 hD1 hS1 => kk _ H1 locs1 (xup_self _ _ _) (fun b hb => xup_ne _ _ hb) (xWd.put hm hq hD hP1 hD1 hS1 hA))
theorem x_putF (hC : xC p s m args meth c cc own nL G A) (hw : xWd G A H0 M H locs) {ref C : String} {T : u_T} {N ci index : Nat} {fs : List Value} (ha : M a = some (.inr (ci, fs))) (hc : classes[ci]? = some (C, T, N)) (k : Nat) (hk : k < N) (hlink : (Cond.fieldLink own index ref (T k).2.1 (T k).2.2.1).before args s = true) (hsame : ∀ x, s.fieldFound? (T k).1 (T k).2.1 (T k).2.2.1 = some x → s.fieldFound? ref (T k).2.1 (T k).2.2.1 = some x) (hfin : (T k).2.2.2 = true) (hin2 : meth.name = "<init>") (hdecl : (T k).1 = own) {ty : FieldType} {v : Value} (hd : parseFieldDescriptor (T k).2.2.1 = some ty) (hn : narrow ty v = v) (hfit : fits ty v = true) (hl : k < fs.length) (hdg : decode cc pc = .ok (.putfield index, 3))
    (kk : ∀ (M1 : xMem) (H1 : Heap) (locs1 : List Loc), M1 a = some (.inr (ci, fs.set k v)) → (∀ b, b ≠ a → M1 b = M b) → xWd G A H0 M1 H1 locs1 → W p l e R s m args below meth c H1 locs1 cells slots Q (F0 m (pc + 3) ls rest)) : W p l e R s m args below meth c H locs cells slots Q (F0 m pc ls (v :: .ref a :: rest)) := by
  obtain ⟨L, f, q, rfl, hm, hq, he, hP, hD, hS, hA⟩ := hw.pos ha
  have hq' := hq
  rw [he] at hq'
  exact va_putF hC.x hC.b hC.w (x_allin ci _ hc) (x_ty ci) (x_tyok ci _ hc) (x_nm ci _ hc) hC.o hC.k hP hD hS q hq' hc k hk hlink hsame hfin hin2 hdecl hd hn hfit hl hdg (fun H1 locs1 hP1 hD1 hS1 => kk _ H1 locs1 (xup_self _ _ _) (fun b hb => xup_ne _ _ hb) (xWd.put hm hq hD hP1 hD1 hS1 hA))
/-- arrays -/
theorem x_clamp {i : Int32} {j n : Nat} (hi : i = nI j) (hj : j < n) (hn : n < 2 ^ 31) : i.toNatClampNeg = j := by
  rw [hi]
  exact nI_clamp (by omega)
theorem x_inr {i : Int32} {j n : Nat} (hi : i = nI j) (hj : j < n) (hn : n < 2 ^ 31) : vp_in i n := by
  rw [hi]
  exact vp_in_nI hj hn
theorem x_upd (f : Nat → Int32) (k : Nat) (x : Int32) : upd f k x = va_up f k x := rfl
theorem x_updL (f : Nat → Int64) (k : Nat) (x : Int64) : vp_updL f k x = va_up f k x := rfl
theorem x_alen (hC : xC p s m args meth c cc own nL G A) (hw : xWd G A H0 M H locs) {t0 : Nat} {cA : ClassId} {x : vp_A} (ha : M a = some (.inl (cA, x))) {ty : FieldType} (ht : (xtys G.2.1)[t0]? = some (cA, ty)) {v : Int32} (hv : Int32.ofNat x.1 = v) (hdg : decode cc pc = .ok (.arraylength, 1))
    (kk : W p l e R s m args below meth c H locs cells slots Q (F0 m (pc + 1) ls (.int v :: rest))) : W p l e R s m args below meth c H locs cells slots Q (F0 m pc ls (.ref a :: rest)) := by
  obtain ⟨L, f, q, rfl, hm, hq, he, hP, hD, hS, hA⟩ := hw.pos ha
  rw [he] at hq
  exact va_alen hC.x hC.b hC.k hP q t0 hq ht hv hdg kk
theorem x_iald (hC : xC p s m args meth c cc own nL G A) (hw : xWd G A H0 M H locs) {cA : ClassId} {n j : Nat} {f : Nat → Int32} (ha : M a = some (.inl (cA, n, .inl f))) (ht : cA = G.2.1 0) {i : Int32} (hi : i = nI j) (hj : j < n) (hn : n < 2 ^ 31) (hdg : decode cc pc = .ok (.iaload, 1))
    (kk : W p l e R s m args below meth c H locs cells slots Q (F0 m (pc + 1) ls (.int (f j) :: rest))) : W p l e R s m args below meth c H locs cells slots Q (F0 m pc ls (.int i :: .ref a :: rest)) := by
  obtain ⟨L, f0, q, rfl, hm, hq, he, hP, hD, hS, hA⟩ := hw.pos ha
  rw [he] at hq
  refine va_iald hC.x hC.b hC.k hP q 0 hq (by rw [ht]; rfl) (x_inr hi hj hn) hdg ?_
  rw [x_clamp hi hj hn]
  exact kk
theorem x_bald (hC : xC p s m args meth c cc own nL G A) (hw : xWd G A H0 M H locs) {cA : ClassId} {n j : Nat} {f : Nat → Int32} (ha : M a = some (.inl (cA, n, .inl f))) (ht : cA = G.2.1 1) {i : Int32} (hi : i = nI j) (hj : j < n) (hn : n < 2 ^ 31) (hdg : decode cc pc = .ok (.baload, 1))
    (kk : W p l e R s m args below meth c H locs cells slots Q (F0 m (pc + 1) ls (.int (f j) :: rest))) : W p l e R s m args below meth c H locs cells slots Q (F0 m pc ls (.int i :: .ref a :: rest)) := by
  obtain ⟨L, f0, q, rfl, hm, hq, he, hP, hD, hS, hA⟩ := hw.pos ha
  rw [he] at hq
  refine va_bald hC.x hC.b hC.k hP q 1 hq (by rw [ht]; rfl) (x_inr hi hj hn) hdg ?_
  rw [x_clamp hi hj hn]
  exact kk
theorem x_zald (hC : xC p s m args meth c cc own nL G A) (hw : xWd G A H0 M H locs) {cA : ClassId} {n j : Nat} {f : Nat → Int32} (ha : M a = some (.inl (cA, n, .inl f))) (ht : cA = G.2.1 4) {i : Int32} (hi : i = nI j) (hj : j < n) (hn : n < 2 ^ 31) (hdg : decode cc pc = .ok (.baload, 1))
    (kk : W p l e R s m args below meth c H locs cells slots Q (F0 m (pc + 1) ls (.int (f j) :: rest))) : W p l e R s m args below meth c H locs cells slots Q (F0 m pc ls (.int i :: .ref a :: rest)) := by
  obtain ⟨L, f0, q, rfl, hm, hq, he, hP, hD, hS, hA⟩ := hw.pos ha
  rw [he] at hq
  refine va_zald hC.x hC.b hC.k hP q 4 hq (by rw [ht]; rfl) (x_inr hi hj hn) hdg ?_
  rw [x_clamp hi hj hn]
  exact kk
theorem x_lald (hC : xC p s m args meth c cc own nL G A) (hw : xWd G A H0 M H locs) {cA : ClassId} {n j : Nat} {f : Nat → Int64} (ha : M a = some (.inl (cA, n, .inr (.inl f)))) (ht : cA = G.2.1 2) {i : Int32} (hi : i = nI j) (hj : j < n) (hn : n < 2 ^ 31) (hdg : decode cc pc = .ok (.laload, 1))
    (kk : W p l e R s m args below meth c H locs cells slots Q (F0 m (pc + 1) ls (.long (f j) :: rest))) : W p l e R s m args below meth c H locs cells slots Q (F0 m pc ls (.int i :: .ref a :: rest)) := by
  obtain ⟨L, f0, q, rfl, hm, hq, he, hP, hD, hS, hA⟩ := hw.pos ha
  rw [he] at hq
  refine va_lald hC.x hC.b hC.k hP q 2 hq (by rw [ht]; rfl) (x_inr hi hj hn) hdg ?_
  rw [x_clamp hi hj hn]
  exact kk
theorem x_aald (hC : xC p s m args meth c cc own nL G A) (hw : xWd G A H0 M H locs) {cA : ClassId} {n j : Nat} {f : Nat → Option Nat} (ha : M a = some (.inl (cA, n, .inr (.inr (.inr (.inr f)))))) (ht : cA = G.2.1 3) {i : Int32} (hi : i = nI j) (hj : j < n) (hn : n < 2 ^ 31) (hdg : decode cc pc = .ok (.aaload, 1))
    (kk : W p l e R s m args below meth c H locs cells slots Q (F0 m (pc + 1) ls (va_rf (f j) :: rest))) : W p l e R s m args below meth c H locs cells slots Q (F0 m pc ls (.int i :: .ref a :: rest)) := by
  obtain ⟨L, f0, q, rfl, hm, hq, he, hP, hD, hS, hA⟩ := hw.pos ha
  rw [he] at hq
  refine va_aldq hC.x hC.b hC.k hP q 3 hq (by rw [ht]; rfl) (x_inr hi hj hn) hdg ?_
  rw [x_clamp hi hj hn]
  exact kk
theorem x_iast (hC : xC p s m args meth c cc own nL G A) (hw : xWd G A H0 M H locs) {cA : ClassId} {n j : Nat} {f : Nat → Int32} (ha : M a = some (.inl (cA, n, .inl f))) (ht : cA = G.2.1 0) {i x : Int32} (hi : i = nI j) (hj : j < n) (hn : n < 2 ^ 31) (hdg : decode cc pc = .ok (.iastore, 1))
    (kk : ∀ (M1 : xMem) (H1 : Heap) (locs1 : List Loc), M1 a = some (.inl (cA, n, .inl (va_up f j x))) → (∀ b, b ≠ a → M1 b = M b) → xWd G A H0 M1 H1 locs1 → W p l e R s m args below meth c H1 locs1 cells slots Q (F0 m (pc + 1) ls rest)) : W p l e R s m args below meth c H locs cells slots Q (F0 m pc ls (.int x :: .int i :: .ref a :: rest)) := by
  obtain ⟨L, f0, q, rfl, hm, hq, he, hP, hD, hS, hA⟩ := hw.pos ha
  have hq' := hq
  rw [he] at hq'
  refine va_iast hC.x hC.b hC.k hP hD hS q 0 hq' (by rw [ht]; rfl) (x_inr hi hj hn) hdg (fun H1 locs1 hP1 hD1 hS1 => kk _ H1 locs1 ?_ (fun b hb => xup_ne _ _ hb) (xWd.put hm hq hD hP1 hD1 hS1 hA))
  rw [xup_self, x_clamp hi hj hn, x_upd]
theorem x_bast (hC : xC p s m args meth c cc own nL G A) (hw : xWd G A H0 M H locs) {cA : ClassId} {n j : Nat} {f : Nat → Int32} (ha : M a = some (.inl (cA, n, .inl f))) (ht : cA = G.2.1 1) {i x : Int32} (hi : i = nI j) (hj : j < n) (hn : n < 2 ^ 31) (hdg : decode cc pc = .ok (.bastore, 1))
    (kk : ∀ (M1 : xMem) (H1 : Heap) (locs1 : List Loc), M1 a = some (.inl (cA, n, .inl (va_up f j (vp_nar .byte x)))) → (∀ b, b ≠ a → M1 b = M b) → xWd G A H0 M1 H1 locs1 → W p l e R s m args below meth c H1 locs1 cells slots Q (F0 m (pc + 1) ls rest)) : W p l e R s m args below meth c H locs cells slots Q (F0 m pc ls (.int x :: .int i :: .ref a :: rest)) := by
  obtain ⟨L, f0, q, rfl, hm, hq, he, hP, hD, hS, hA⟩ := hw.pos ha
  have hq' := hq
  rw [he] at hq'
  refine va_bast hC.x hC.b hC.k hP hD hS q 1 hq' (by rw [ht]; rfl) (x_inr hi hj hn) hdg (fun H1 locs1 hP1 hD1 hS1 => kk _ H1 locs1 ?_ (fun b hb => xup_ne _ _ hb) (xWd.put hm hq hD hP1 hD1 hS1 hA))
  rw [xup_self, x_clamp hi hj hn, x_upd]
theorem x_zast (hC : xC p s m args meth c cc own nL G A) (hw : xWd G A H0 M H locs) {cA : ClassId} {n j : Nat} {f : Nat → Int32} (ha : M a = some (.inl (cA, n, .inl f))) (ht : cA = G.2.1 4) {i x : Int32} (hi : i = nI j) (hj : j < n) (hn : n < 2 ^ 31) (hdg : decode cc pc = .ok (.bastore, 1))
    (kk : ∀ (M1 : xMem) (H1 : Heap) (locs1 : List Loc), M1 a = some (.inl (cA, n, .inl (va_up f j (vp_nar .boolean x)))) → (∀ b, b ≠ a → M1 b = M b) → xWd G A H0 M1 H1 locs1 → W p l e R s m args below meth c H1 locs1 cells slots Q (F0 m (pc + 1) ls rest)) : W p l e R s m args below meth c H locs cells slots Q (F0 m pc ls (.int x :: .int i :: .ref a :: rest)) := by
  obtain ⟨L, f0, q, rfl, hm, hq, he, hP, hD, hS, hA⟩ := hw.pos ha
  have hq' := hq
  rw [he] at hq'
  refine va_zast hC.x hC.b hC.k hP hD hS q 4 hq' (by rw [ht]; rfl) (x_inr hi hj hn) hdg (fun H1 locs1 hP1 hD1 hS1 => kk _ H1 locs1 ?_ (fun b hb => xup_ne _ _ hb) (xWd.put hm hq hD hP1 hD1 hS1 hA))
  rw [xup_self, x_clamp hi hj hn, x_upd]
theorem x_last (hC : xC p s m args meth c cc own nL G A) (hw : xWd G A H0 M H locs) {cA : ClassId} {n j : Nat} {f : Nat → Int64} (ha : M a = some (.inl (cA, n, .inr (.inl f)))) (ht : cA = G.2.1 2) {i : Int32} {x : Int64} (hi : i = nI j) (hj : j < n) (hn : n < 2 ^ 31) (hdg : decode cc pc = .ok (.lastore, 1))
    (kk : ∀ (M1 : xMem) (H1 : Heap) (locs1 : List Loc), M1 a = some (.inl (cA, n, .inr (.inl (va_up f j x)))) → (∀ b, b ≠ a → M1 b = M b) → xWd G A H0 M1 H1 locs1 → W p l e R s m args below meth c H1 locs1 cells slots Q (F0 m (pc + 1) ls rest)) : W p l e R s m args below meth c H locs cells slots Q (F0 m pc ls (.long x :: .int i :: .ref a :: rest)) := by
  obtain ⟨L, f0, q, rfl, hm, hq, he, hP, hD, hS, hA⟩ := hw.pos ha
  have hq' := hq
  rw [he] at hq'
  refine va_last hC.x hC.b hC.k hP hD hS q 2 hq' (by rw [ht]; rfl) (x_inr hi hj hn) hdg (fun H1 locs1 hP1 hD1 hS1 => kk _ H1 locs1 ?_ (fun b hb => xup_ne _ _ hb) (xWd.put hm hq hD hP1 hD1 hS1 hA))
  rw [xup_self, x_clamp hi hj hn, x_updL]
end XR
end
section
section XN
variable {p : Program} {l : Launch} {e : Env} {R : Room} {s : State} {m : MethodId} {args : Array Value} {below : List Frame} {meth : Method} {c : Code} {H : Heap} {locs : List Loc} {cells slots : Nat} {Q : State → Prop}
variable {cc : ByteArray} {own : String} {nL : Nat} {G : xT} {pc : Nat} {ls : Array Slot} {rest : List Value} {A : Nat → Prop} {a : Nat} {M : xMem} {H0 : Heap}
/-- new objects, new arrays -/
theorem x_new (hC : xC p s m args meth c cc own nL G A) (hw : xWd G A H0 M H locs) {C : String} {T : u_T} {N ci index : Nat} {fs : List Value} (hc : classes[ci]? = some (C, T, N)) (hcl : (Cond.classLink own index C).before args s = true) (hinst : (Cond.instantiable C N).before args s = true) (hini : (Cond.initialized C).before args s = true) (hfs : ∀ j, j < N → defaultValue (x_ty ci j) = vp_V fs j) (hcells : cells + 1 ≤ R.cells) (hslots : slots + N ≤ R.slots) (hdg : decode cc pc = .ok (.new index, 3))
    (kk : ∀ (q : Nat) (M1 : xMem) (H1 : Heap), M q = none → M1 q = some (.inr (ci, fs)) → (∀ b, b ≠ q → M1 b = M b) → xWd G A H0 M1 H1 locs → W p l e R s m args below meth c H1 locs (cells + 1) (slots + N) Q (F0 m (pc + 3) ls (.ref q :: rest))) : W p l e R s m args below meth c H locs cells slots Q (F0 m pc ls rest) := by
  obtain ⟨L, f, rfl, hP, hD, hS, hA⟩ := hw
  refine va_new hC.x hC.b hC.w (x_allin ci _ hc) (x_ty ci) (x_tyok ci _ hc) hC.o hcl hinst hini hC.k hP hD hS hA hc hfs hcells hslots hdg (fun q H1 hP1 hD1 hS1 => ?_)
  obtain ⟨h1, h2⟩ := xWd.push hP1 hD1 hS1 hA
  exact kk q _ H1 h1 (xup_self _ _ _) (fun b hb => xup_ne _ _ hb) h2
theorem x_newa (hC : xC p s m args meth c cc own nL G A) (hw : xWd G A H0 M H locs) {atype : ArrayType} (harr : (Cond.arrayClass (newarray.typeOf atype)).before args s = true) {ty : FieldType} (hty : newarray.typeOf atype = ty) (t0 : Nat) {cA : ClassId} (ht : (xtys G.2.1)[t0]? = some (cA, ty)) (hpr : ∀ C, ty ≠ .object C)
    {n : Int32} {N' : Nat} {a0 : vp_A} (ha : ∀ cA : ClassId, vp_cell cA a0 = arrV cA N' (fun _ => defaultValue ty)) (hn : ¬ n < 0) (hN : n.toNatClampNeg = N') (hbytes : N' * componentBytes ty ≤ 536870912) (hcells : cells + 1 ≤ R.cells) (hslots : slots + N' ≤ R.slots) (hdg : decode cc pc = .ok (.newarray atype, 2))
    (kk : ∀ (q : Nat) (M1 : xMem) (H1 : Heap), M q = none → M1 q = some (.inl (cA, a0)) → (∀ b, b ≠ q → M1 b = M b) → xWd G A H0 M1 H1 locs → W p l e R s m args below meth c H1 locs (cells + 1) (slots + N') Q (F0 m (pc + 2) ls (.ref q :: rest))) : W p l e R s m args below meth c H locs cells slots Q (F0 m pc ls (.int n :: rest)) := by
  obtain ⟨L, f, rfl, hP, hD, hS, hA⟩ := hw
  refine va_newa hC.x hC.b harr hty hC.k hP hD hS hA ha hn hN hbytes hcells hslots hdg (fun q cB H1 hK1 hP1 hD1 hS1 => ?_)
  have e1 := (hC.k.2 t0 _ ht).2
  have e2 := (hK1.2 (xtys G.2.1).length (cB, ty) (by rw [List.getElem?_append_right (Nat.le_refl _), Nat.sub_self]; rfl)).2
  have e3 : cB = cA := by
    cases ty with
    | object C => exact absurd rfl (hpr C)
    | _ => exact Option.some.inj (Eq.trans (Eq.symm e2) e1)
  subst e3
  obtain ⟨h1, h2⟩ := xWd.push hP1 hD1 hS1 hA
  exact kk q _ H1 h1 (xup_self _ _ _) (fun b hb => xup_ne _ _ hb) h2
theorem x_newq (hC : xC p s m args meth c cc own nL G A) (hw : xWd G A H0 M H locs) {C : String} {index : Nat} (hclink : (Cond.classLink own index C).before args s = true) (hover : (Cond.arrayOver (.object C)).before args s = true) (t0 : Nat) {cA : ClassId} (ht : (xtys G.2.1)[t0]? = some (cA, .object C))
    {n : Int32} {N' : Nat} (hn : ¬ n < 0) (hN : n.toNatClampNeg = N') (hbytes : N' * 4 ≤ 536870912) (hcells : cells + 1 ≤ R.cells) (hslots : slots + N' ≤ R.slots) (hdg : decode cc pc = .ok (.anewarray index, 3))
    (kk : ∀ (q : Nat) (M1 : xMem) (H1 : Heap), M q = none → M1 q = some (.inl (cA, N', .inr (.inr (.inr (.inr (fun _ => none)))))) → (∀ b, b ≠ q → M1 b = M b) → xWd G A H0 M1 H1 locs → W p l e R s m args below meth c H1 locs (cells + 1) (slots + N') Q (F0 m (pc + 3) ls (.ref q :: rest))) : W p l e R s m args below meth c H locs cells slots Q (F0 m pc ls (.int n :: rest)) := by
  obtain ⟨L, f, rfl, hP, hD, hS, hA⟩ := hw
  refine va_newq hC.x hC.b hC.o hclink (va_AO.of hover) hC.k hP hD hS hA hn hN hbytes hcells hslots hdg (fun q cB H1 hK1 hP1 hD1 hS1 => ?_)
  obtain ⟨kA, comp, -, -, -, e1⟩ := (hC.k.2 t0 _ ht).2
  obtain ⟨kB, comB, -, -, -, e2⟩ := (hK1.2 (xtys G.2.1).length (cB, .object C) (by rw [List.getElem?_append_right (Nat.le_refl _), Nat.sub_self]; rfl)).2
  have e3 : cB = cA := Option.some.inj (e2.symm.trans e1)
  subst e3
  obtain ⟨h1, h2⟩ := xWd.push hP1 hD1 hS1 hA
  exact kk q _ H1 h1 (xup_self _ _ _) (fun b hb => xup_ne _ _ hb) h2
/-- an object's class, for casts and calls -/
theorem x_recv (hC : xC p s m args meth c cc own nL G A) (hw : xWd G A H0 M H locs) {C : String} {T : u_T} {N ci : Nat} {fs : List Value} (ha : M a = some (.inr (ci, fs))) (hc : classes[ci]? = some (C, T, N)) : ∃ cell : Cell, H[a]? = some cell ∧ cell.vm.isStatics = false ∧ s.vm.findClass C = some cell.cls := by
  obtain ⟨q', h1, cell, g1, g2, g3, -⟩ := hw.at ha
  exact ⟨cell, g1, by rw [g3]; rfl, by rw [g2]; exact (hC.k.1 ci _ hc).2.1⟩
theorem x_cast (hC : xC p s m args meth c cc own nL G A) (hw : xWd G A H0 M H locs) {C : String} {T : u_T} {N ci index : Nat} {fs : List Value} (ha : M a = some (.inr (ci, fs))) (hc : classes[ci]? = some (C, T, N)) (hlink : (Cond.classLink own index C).before args s = true) (hdg : decode cc pc = .ok (.checkcast index, 3))
    (k : W p l e R s m args below meth c H locs cells slots Q (F0 m (pc + 3) ls (.ref a :: rest))) : W p l e R s m args below meth c H locs cells slots Q (F0 m pc ls (.ref a :: rest)) :=
  va_castS hC.x hC.b hC.o hlink (hC.k.1 ci _ hc).2 (x_recv hC hw ha hc) hdg k
end XN
section XE
variable {p : Program} {l : Launch} {e : Env} {R : Room} {s : State} {m : MethodId} {args : Array Value} {below : List Frame} {meth : Method} {c : Code} {H : Heap} {locs : List Loc} {cells slots : Nat} {Q : State → Prop}
variable {cc : ByteArray} {own : String} {nL : Nat} {G : xT} {pc : Nat} {ls : Array Slot} {rest : List Value} {A : Nat → Prop} {a : Nat} {M : xMem} {H0 : Heap}
variable {M0 : xMem} {sz mc ms : Nat} {rt : Option Value → xMem → Prop} {th : String → xMem → Prop}
theorem x_endR {G : xT} {M0 M : xMem} {sz : Nat} {H : Heap} {locs : List Loc} {rt : Option Value → xMem → Prop} {th : String → xMem → Prop} {v : Option Value} (hw : xWd G (xA M0 sz) s.heap M H locs) (hp : rt v M) (t : State) (ht : t.heap = H) : xQ G M0 sz rt th s (.returned v) t :=
  ⟨Or.inl ⟨v, M, rfl, hp, by rw [ht]; exact hw.hp, fun q h => hw.inA h⟩, hw.S.F ht⟩
theorem x_ofMQ {k n : Nat} {t : State} (h : MQ below (fun _ st o t => xQ G M0 sz rt th st o t) args s k n (xA M0 sz) t) : xMQ below G M0 sz rt th s k n t := by
  obtain ⟨o, h1, h2, h3, L, ⟨-, h5, h6⟩, h7⟩ := h
  exact ⟨o, h1, h2, h3, L, ⟨h5, h6⟩, h7⟩
theorem x_iret (hC : xC p s m args meth c cc own nL G (xA M0 sz)) (hr : meth.sig.returnType = some .int) (hw : xWd G (xA M0 sz) s.heap M H locs) {v : Int32} (hp : rt (some (.int v)) M) (hc : cells ≤ mc) (hs : slots ≤ ms) (hdg : decode cc pc = .ok (.ireturn, 1)) : W p l e R s m args below meth c H locs cells slots (xMQ below G M0 sz rt th s mc ms) (F0 m pc ls [.int v]) := by
  have hlocks := hC.lk
  refine W.widen hc hs (x_mono (fun t h => x_ofMQ (args := args) h) ?_)
  exact W.iret hC.x hC.b hr (fun t ht _ => x_endR hw hp t ht) hw.S.2.2 hdg
theorem x_zret (hC : xC p s m args meth c cc own nL G (xA M0 sz)) {ty : FieldType} (hr : meth.sig.returnType = some ty) (hw : xWd G (xA M0 sz) s.heap M H locs) {v : Int32} (hn : narrow ty (.int v) = .int v) (hp : rt (some (.int v)) M) (hc : cells ≤ mc) (hs : slots ≤ ms) (hdg : decode cc pc = .ok (.ireturn, 1)) : W p l e R s m args below meth c H locs cells slots (xMQ below G M0 sz rt th s mc ms) (F0 m pc ls [.int v]) := by
  have hlocks := hC.lk
  refine W.widen hc hs (x_mono (fun t h => x_ofMQ (args := args) h) ?_)
  exact W.zret hC.x hC.b hr hn (fun t ht _ => x_endR hw hp t ht) hw.S.2.2 hdg
theorem x_lret (hC : xC p s m args meth c cc own nL G (xA M0 sz)) (hr : meth.sig.returnType = some .long) (hw : xWd G (xA M0 sz) s.heap M H locs) {v : Int64} (hp : rt (some (.long v)) M) (hc : cells ≤ mc) (hs : slots ≤ ms) (hdg : decode cc pc = .ok (.lreturn, 1)) : W p l e R s m args below meth c H locs cells slots (xMQ below G M0 sz rt th s mc ms) (F0 m pc ls [.long v]) := by
  have hlocks := hC.lk
  refine W.widen hc hs (x_mono (fun t h => x_ofMQ (args := args) h) ?_)
  exact W.lret hC.x hC.b hr (fun t ht _ => x_endR hw hp t ht) hw.S.2.2 hdg
theorem x_vret (hC : xC p s m args meth c cc own nL G (xA M0 sz)) (hr : meth.sig.returnType = none) (hw : xWd G (xA M0 sz) s.heap M H locs) (hp : rt none M) (hc : cells ≤ mc) (hs : slots ≤ ms) (hdg : decode cc pc = .ok (.return_, 1)) : W p l e R s m args below meth c H locs cells slots (xMQ below G M0 sz rt th s mc ms) (F0 m pc ls []) := by
  have hlocks := hC.lk
  refine W.widen hc hs (x_mono (fun t h => x_ofMQ (args := args) h) ?_)
  exact W.vret hC.x hC.b hr (fun t ht _ => x_endR hw hp t ht) hw.S.2.2 hdg
theorem x_aret (hC : xC p s m args meth c cc own nL G (xA M0 sz)) {ty : FieldType} (hr : meth.sig.returnType = some ty) (hty : (∃ n, ty = .object n) ∨ ∃ t, ty = .array t) (hw : xWd G (xA M0 sz) s.heap M H locs) {v : Value} (hv : v = .null ∨ ∃ a, v = .ref a) (hp : rt (some v) M) (hc : cells ≤ mc) (hs : slots ≤ ms) (hdg : decode cc pc = .ok (.areturn, 1)) : W p l e R s m args below meth c H locs cells slots (xMQ below G M0 sz rt th s mc ms) (F0 m pc ls [v]) := by
  have hlocks := hC.lk
  refine W.widen hc hs (x_mono (fun t h => x_ofMQ (args := args) h) ?_)
  exact W.aret hC.x hC.b hr hty hv (fun t ht _ => x_endR hw hp t ht) hw.S.2.2 hdg
/-- an exception is on its way, over the frame g -/
def xWT (p : Program) (l : Launch) (e : Env) (R : Room) (s : State) (m : MethodId) (args : Array Value) (below : List Frame) (meth : Method) (c : Code) (H : Heap) (locs : List Loc) (cells slots : Nat) (Q : State → Prop) (x : Addr) (g : JFrame) : Prop :=
  ∀ T : State, T.heap = H → Stand p l e R s m args below meth c T locs cells slots → ∃ t, Steps p.tables e below ((T.setTop g).pushFrame (.throwing x)) t ∧ Q t
/-- what is known of a thrown object -/
def xTh (s : State) (H : Heap) (X : String) (x : Addr) : Prop := ∃ ce : Cell, H[x]? = some ce ∧ ce.vm.isStatics = false ∧ s.vm.findClass X = some ce.cls
theorem x_out (hC : xC p s m args meth c cc own nL G (xA M0 sz)) (hno : c.exceptionTable.toList = []) (hw : xWd G (xA M0 sz) s.heap M H locs) {X : String} {x : Addr} (hx : xTh s H X x) (hp : th X M) (hc : cells ≤ mc) (hs : slots ≤ ms) {st : List Value} : xWT p l e R s m args below meth c H locs cells slots (xMQ below G M0 sz rt th s mc ms) x (F0 m pc ls st) := by
  intro T hT X0
  obtain ⟨h1, h2, h3, h4, h5⟩ := (stand_widen X0 hc hs).leaveThrown x (g := F0 m pc ls st) rfl rfl rfl (fun y hy => by rw [hno] at hy; cases hy) hC.lk
  obtain ⟨ce, q1, q2, q3⟩ := hx
  have hh : (T.setFrames (.throwing x :: below)).heap = H := hT
  refine ⟨_, h1, .threw x, h2, h3, ⟨Or.inr ⟨x, X, M, rfl, ⟨ce, by rw [hh]; exact q1, q2, by rw [h4.alike.findClass]; exact q3⟩, hp, by rw [hh]; exact hw.hp, fun q h => hw.inA h⟩, hw.S.F hh⟩, locs, ⟨h4, h5⟩, hw.S.2.2⟩
end XE
section XM
variable {l : Launch} {G : xT} {y : MethodName} {cc : ByteArray} {maxL : Nat} {ret : Option FieldType} {rm : Room} {av : List Value} {M : xMem} {sz : Nat} {rt : Option Value → xMem → Prop} {th : String → xMem → Prop}
/-- a contract from a walk of the method's body -/
theorem xMet.of (hy : plainName y.cls = true) (hlen : (lg_sl av).length ≤ maxL)
    (body : ∀ (p : Program) (e : Env) (s : State) (m : MethodId) (below : List Frame) (meth : Method) (c : Code) (ls : Array Slot), xC p s m av.toArray meth c cc y.cls maxL G (xA M sz) → meth.sig.returnType = ret → meth.name = y.name → c.exceptionTable.toList = [] → sz = s.heap.size → xWd G (xA M sz) s.heap M s.heap [] → lv_has ls maxL (lv_args 0 av) →
      W p l e rm s m av.toArray below meth c s.heap [] 0 0 (xMQ below G M sz rt th s rm.cells rm.slots) (F0 m 0 ls [])) : xMet l G y (Cond.code y cc maxL ret :: x_tbl) rm av M sz rt th := by
  refine MetFree.of_bodyS (code := cc) (maxLocals := maxL) (ret := ret) hy ?_ ?_
  · intro args s m h hn
    obtain ⟨meth, c, h1, h2, h3, h4, h5, h6, -, -⟩ := Cond.code_spec hn (atoms_spec (ws := Cond.code y cc maxL ret :: x_tbl) h _ List.mem_cons_self)
    exact ⟨meth, c, h1, h2, h3, h4, h5, h6⟩
  · intro p e s m args below meth c s₁ B hml hP _
    obtain ⟨rfl, hsz, hH, hK, hfz⟩ := hP
    subst hsz
    have hh0 : s₁.heap = s.heap := by rw [B.state]; rfl
    have hts0 := atoms_spec (ws := Cond.code y cc maxL ret :: x_tbl) B.pre
    have hno : c.exceptionTable.toList = [] := by
      have h := BodyLoose.noHandlers B (hts0 _ List.mem_cons_self)
      have h0 : c.exceptionTable.size = 0 := by simpa [Array.isEmpty] using h
      exact List.eq_nil_of_length_eq_zero (by simpa using h0)
    have hw : xWd G (xA M s.heap.size) s.heap M s.heap [] := xWd.of hH (fun q h => Or.inl h) va_S.rf (fun q h => Or.inr h)
    have hl := lv_entry av (n := maxL) hlen
    have K := body p e s m below meth c _ ⟨B.exec, B.bytes, findClass_of_methodNamed B.named, fun w h => hts0 w (List.mem_cons_of_mem _ h), hK, hml, B.notSynchronized, hfz⟩ B.returns (name_of_methodNamed B.named B.method).1 hno rfl hw hl
    rw [← lg_entry_eq] at K
    obtain ⟨t, a1, o, b1, b2, b3⟩ := K s₁ hh0 (Stand.of_body B)
    exact ⟨t, o, a1, b1, b2, b3⟩
end XM
end
section
section XCall
variable {p : Program} {l : Launch} {e : Env} {R : Room} {s : State} {m : MethodId} {args : Array Value} {below : List Frame} {meth : Method} {c : Code} {H : Heap} {locs : List Loc} {cells slots : Nat} {Q : State → Prop}
variable {cc : ByteArray} {own : String} {nL : Nat} {G : xT} {pc : Nat} {ls : Array Slot} {rest st : List Value} {A : Nat → Prop} {M : xMem}
/-- a contract that is met, used from a frame g of a walk: the callee comes back, or throws over g -/
theorem x_run {y : MethodName} {ws : List Cond} {rm : Room} {Pc : Array Value → State → Prop} {Qc : State → Outcome → State → Prop} {free : Addr → Prop} {U : State} {Ls : List Loc} {c0 s0 : Nat} (X : Stand p l e R s m args below meth c U Ls c0 s0) {g : JFrame} (hg : g.method = m) (hsize : g.locals.size = c.maxLocals) {ig : Instr} {len : Nat} (hdg : decode c.code g.pc = .ok (ig, len)) (hW : 2 * g.monitorRoom + (g.stack.map fun v => v.category).sum ≤ 8) {mk : MethodId} (hn : U.methodNamed? y = some mk) {aa : Array Value}
    (hM : MetFree l y (headSpec ws rm) Pc (fun _ _ _ _ _ => True) (fun _ st o t => Qc st o t ∧ ∃ L, xFr st t L rm.cells rm.slots ∧ ∀ q ∈ L, free q.base)) {methY : Method} {cY : Code} {maxL : Nat} (hmY : U.vm.method? mk = some methY) (hcY : methY.code = some cY) (hlY : cY.maxLocals = maxL) {kY : Class} (hkY : U.vm.classes[mk.cls]? = some kY) (hini : kY.init = .initialized)
    (hws : ∀ w ∈ ws, w.before aa U = true) (hfr : rm.frames + 1 ≤ R.frames) (hlo : 8 + (maxL + 11) + rm.locals ≤ R.locals) (hce : c0 + rm.cells ≤ R.cells) (hsl : s0 + rm.slots ≤ R.slots) (hP : Pc aa (U.calling g mk aa)) :
    ∃ (o : Outcome) (t T' : State) (L : List Loc), Qc (U.calling g mk aa) o t ∧ (∀ q ∈ L, free q.base) ∧ Stand p l e R s m args below meth c T' (Ls ++ L) (c0 + rm.cells) (s0 + rm.slots) ∧ T'.heap = t.heap ∧ T'.vm = t.vm ∧
      (∀ v, o = .returned v → Steps p.tables e below (doInvoke e (U.setTop g) [] mk aa).1 (T'.setTop { g with pc := g.pc + len, stack := v.toList ++ g.stack })) ∧
      (∀ x, o = .threw x → Steps p.tables e below (doInvoke e (U.setTop g) [] mk aa).1 ((T'.setTop g).pushFrame (.throwing x))) := by
  have h : At U g.method c below := by rw [hg]; exact X.here
  have happ : (headSpec ws rm).appliesLoose y e.platform (U.calling g mk aa) = true :=
    Spec.appliesLoose_calling (g := g) h hdg hn hkY hini (X.room_calling (g := g) (R' := (headSpec ws rm).room) hsize hmY hcY hfr (by rw [hlY]; exact Nat.le_trans (by show 2 * g.monitorRoom + (g.stack.map fun v => v.category).sum + (maxL + 11) + rm.locals ≤ 8 + (maxL + 11) + rm.locals; omega) hlo) hce hsl) (atoms_intro hws)
  obtain ⟨mid, hmid⟩ := h.above
  have hfr2 : (U.setTop g).frames = (.java g :: mid) ++ below := by rw [State.frames_setTop' g h.top, hmid]; rfl
  obtain ⟨o, t, hsteps, -, hend, hq, L, ⟨hWt, hsame⟩, hL⟩ := Steps.callFree hM p X.admits X.cas X.clock (acts := []) hfr2 happ hP trivial
  rw [State.frames_setTop' g h.top] at hend
  have hsame : (U.calling g mk aa).sameButNew ({ t with vm := (U.calling g mk aa).vm } : State) L rm.cells rm.slots := hsame
  obtain ⟨e2, q2, q3, q4, q5, q6⟩ := id hsame
  have e3 : t = ({ (U.calling g mk aa).setFrames t.frames with heap := t.heap, slotsUsed := t.slotsUsed } : State).setVm t.vm := by
    have z : t = ({ t with vm := (U.calling g mk aa).vm } : State).setVm t.vm := rfl
    rw [e2] at z
    exact z
  have hW' : U.WarmedH t.vm := hWt
  obtain ⟨g₀, hg0⟩ := Option.isSome_iff_exists.mp h.top
  obtain ⟨r, hr⟩ := State.topJava?_eq_some.mp hg0
  have hr' : (({ U with heap := t.heap, slotsUsed := t.slotsUsed } : State).setVm t.vm).frames = .java g₀ :: r := hr
  have hsame2 : U.sameButNew ({ U with heap := t.heap, slotsUsed := t.slotsUsed } : State) L rm.cells rm.slots := by
    refine ⟨?_, q2, q3, q4, q5, q6⟩
    obtain ⟨th, hth, -⟩ := State.frames_cons hr
    show ({ U with heap := t.heap, slotsUsed := t.slotsUsed } : State) = { U.setFrames U.frames with heap := t.heap, slotsUsed := t.slotsUsed }
    rw [State.setFrames_self hth]
  refine ⟨o, t, ({ U with heap := t.heap, slotsUsed := t.slotsUsed } : State).setVm t.vm, L, hq, hL, ?_, rfl, rfl, fun v hv => ?_, fun x hx => ?_⟩
  · subst hg
    exact ⟨X.admits, X.cas, X.clock, X.frames, X.room, X.hears, X.method, X.code, (X.here.setHeapUsed t.heap t.slotsUsed).setVm hW'.alike, X.tail, State.WarmedH.trans X.warmed hW', X.limits, X.bytes, X.same.trans (hsame2.setVm s.vm)⟩
  · subst hv
    obtain ⟨c₂, i₂, len₂, hc₂, hd₂, hf₂⟩ := hend
    have hcc : c₂ = c := by
      have h1 : t.code? g.method = U.code? g.method := by
        rw [State.code?_eq, State.code?_eq, hW'.alike.method?]
      exact Option.some.inj (hc₂.symm.trans (h1.trans h.code))
    subst hcc
    have hlen : len₂ = len := by rw [hdg] at hd₂; cases hd₂; rfl
    subst hlen
    have hs₂ : t = (({ U with heap := t.heap, slotsUsed := t.slotsUsed } : State).setVm t.vm).setTop { g with pc := g.pc + len₂, stack := v.toList ++ g.stack } := by
      refine e3.trans ?_
      rw [hf₂, State.calling_eq h.top, State.setFrames_setFrames, State.setTop_of_frames _ hr', hr]
      rfl
    rw [← hs₂]
    exact hsteps
  · subst hx
    have hf₂ : t.frames = .throwing x :: .java g :: U.frames.tail := hend
    have hs₂ : t = ((({ U with heap := t.heap, slotsUsed := t.slotsUsed } : State).setVm t.vm).setTop g).pushFrame (.throwing x) := by
      refine e3.trans ?_
      rw [hf₂, State.calling_eq h.top, State.setFrames_setFrames, State.pushFrame, State.frames_setTop _ hr', State.setTop_of_frames _ hr', State.setFrames_setFrames, hr]
      rfl
    rw [← hs₂]
    exact hsteps
/-- an invoking instruction has come to the callee's entry -/
def xIv (p : Program) (l : Launch) (e : Env) (R : Room) (s : State) (m : MethodId) (args : Array Value) (below : List Frame) (meth : Method) (c : Code) (H : Heap) (locs : List Loc) (cells slots : Nat) (g : JFrame) (rest : List Value) (y : MethodName) (aa : Array Value) : Prop :=
  ∀ T : State, T.heap = H → Stand p l e R s m args below meth c T locs cells slots → ∃ (mk : MethodId) (vm₁ : Vm), s.methodNamed? y = some mk ∧ Stand p l e R s m args below meth c (T.setVm vm₁) locs cells slots ∧
    ∀ target, (∀ acts, Steps p.tables e below (doInvoke e ((T.setVm vm₁).setTop { g with stack := rest }) acts mk aa).1 target) → Steps p.tables e below (T.setTop g) target
theorem x_callK (hC : xC p s m args meth c cc own nL G A) {y : MethodName} {hd : Cond} {maxL : Nat} {rm : Room} {As : List Value} {rt : Option Value → xMem → Prop} {th : String → xMem → Prop} (hM : xMet l G y (hd :: x_tbl) rm As M H.size rt th) (hcw : hd ∈ x_tbl) (hsp : ∀ (U : State) (mk : MethodId), U.methodNamed? y = some mk → hd.before As.toArray U = true → ∃ (methY : Method) (cY : Code), U.vm.method? mk = some methY ∧ methY.code = some cY ∧ cY.maxLocals = maxL) (hin : Cond.initialized y.cls ∈ x_tbl) (hR : rm.frames + 1 ≤ R.frames ∧ 8 + (maxL + 11) + rm.locals ≤ R.locals) (hcs : cells + rm.cells ≤ R.cells ∧ slots + rm.slots ≤ R.slots) (hw : xWd G A s.heap M H locs) (hsz : ls.size = nL) (hwt : (rest.map fun v => v.category).sum ≤ 8) {ig : Instr} (hdg : decode cc pc = .ok (ig, 3))
    (hiv : xIv p l e R s m args below meth c H locs cells slots (F0 m pc ls st) rest y As.toArray)
    (kr : ∀ (v : Option Value) (M1 : xMem) (H1 : Heap) (locs1 : List Loc), rt v M1 → xWd G A s.heap M1 H1 locs1 → W p l e R s m args below meth c H1 locs1 (cells + rm.cells) (slots + rm.slots) Q (F0 m (pc + 3) ls (v.toList ++ rest)))
    (kt : ∀ (x : Addr) (X : String) (M1 : xMem) (H1 : Heap) (locs1 : List Loc), th X M1 → xTh s H1 X x → xWd G A s.heap M1 H1 locs1 → xWT p l e R s m args below meth c H1 locs1 (cells + rm.cells) (slots + rm.slots) Q x (F0 m pc ls rest)) : W p l e R s m args below meth c H locs cells slots Q (F0 m pc ls st) := by
  intro T hT X
  obtain ⟨mk, vm₁, hn, X₁, hst⟩ := hiv T hT X
  have hn1 : (T.setVm vm₁).methodNamed? y = some mk := X₁.named hn
  have hwarm : s.WarmedH (T.setVm vm₁).vm := X₁.warmed
  have hword : ∀ w ∈ x_tbl, w.before As.toArray (T.setVm vm₁) = true := fun w h => x_warm w h hwarm (hC.w w h)
  obtain ⟨methY, cY, hmY, hcY, hlY⟩ := hsp _ mk hn1 (hword _ hcw)
  obtain ⟨kY, hkY, -⟩ := className_of_methodNamed hn1
  have hini : kY.init = .initialized := Cond.initialized_spec (findClass_of_methodNamed hn1) hkY (hword _ hin)
  have hA1 : ∀ q, xA M H.size q → A q := fun q h => by
    rcases h with h | h
    · exact hw.inA h
    · exact hw.new q (Nat.le_trans hw.S.1 h)
  obtain ⟨o, t, T', L, hq, hL, X', e1, e2, hr, ht⟩ := x_run X₁ (g := F0 m pc ls rest) rfl (hsz.trans hC.n.symm) (by rw [hC.b]; exact hdg) (by show 2 * 0 + (rest.map fun v => v.category).sum ≤ 8; omega) hn1 (aa := As.toArray) hM hmY hcY hlY hkY hini
    (fun w h => by
      rcases List.mem_cons.mp h with h | h
      · rw [h]; exact hword _ hcw
      · exact hword w h) hR.1 hR.2 hcs.1 hcs.2
    ⟨rfl, by show T.heap.size = H.size; rw [hT], by show xH G.1 M T.heap; rw [hT]; exact hw.hp, va_K.moved (u := s) hwarm.alike hC.k, hC.z.next hwarm (fun q h1 h2 => by
      show T.heap[q]? = s.heap[q]?
      rw [hT]
      exact hw.S.2.1 q h1 h2) hA1 (fun b cell hb hs hz => by
      have hb' : H[b]? = some cell := by rw [← hT]; exact hb
      rcases hz with hz | hz
      · cases he : M b with
        | none => exact hz he
        | some ee =>
          have hv := x_plain (hw.at he) hb'
          rw [hv] at hs
          cases hs
      · have := (Array.getElem?_eq_some_iff.mp hb').1
        omega)⟩
  obtain ⟨hcase, hz, hk⟩ := hq
  have hheap0 : (T.setVm vm₁).heap = H := hT
  have hcall : ((T.setVm vm₁).calling (F0 m pc ls rest) mk As.toArray).heap = H := hT
  rw [hcall] at hz hk
  have hS1 : va_S A s.heap T'.heap (locs ++ L) := ⟨Nat.le_trans hw.S.1 (by rw [e1]; exact hz), fun q h1 h2 => by
      rw [e1, hk q (Nat.lt_of_lt_of_le h1 hw.S.1) (fun z => h2 (hA1 q z))]
      exact hw.S.2.1 q h1 h2, fun q h => by
      rcases List.mem_append.mp h with h | h
      · exact hw.S.2.2 q h
      · exact hA1 _ (hL q h)⟩
  rcases hcase with ⟨v, M1, ho, hv, hH1, hA2⟩ | ⟨x, X0, M1, ho, hx, hv, hH1, hA2⟩
  · obtain ⟨t2, a1, b1⟩ := kr v M1 T'.heap (locs ++ L) hv (xWd.of (by rw [e1]; exact hH1) (fun q h => hA1 q (hA2 q h)) hS1 hw.new) T' rfl X'
    exact ⟨t2, hst _ (fun acts => by rw [doInvoke_state]; exact (hr v ho).trans a1), b1⟩
  · obtain ⟨ce, q1, q2, q3⟩ := hx
    obtain ⟨t2, a1, b1⟩ := kt x X0 M1 T'.heap (locs ++ L) hv ⟨ce, by rw [e1]; exact q1, q2, by rw [← e2, X'.warmed.alike.findClass] at q3; exact q3⟩ (xWd.of (by rw [e1]; exact hH1) (fun q h => hA1 q (hA2 q h)) hS1 hw.new) T' rfl X'
    exact ⟨t2, hst _ (fun acts => by rw [doInvoke_state]; exact (ht x ho).trans a1), b1⟩
theorem x_callG (hC : xC p s m args meth c cc own nL G A) {y : MethodName} {bytes : ByteArray} {maxL : Nat} {ret : Option FieldType} {rm : Room} {As : List Value} {rt : Option Value → xMem → Prop} {th : String → xMem → Prop} (hM : xMet l G y (Cond.code y bytes maxL ret :: x_tbl) rm As M H.size rt th) (hcw : Cond.code y bytes maxL ret ∈ x_tbl) (hin : Cond.initialized y.cls ∈ x_tbl) (hR : rm.frames + 1 ≤ R.frames ∧ 8 + (maxL + 11) + rm.locals ≤ R.locals) (hcs : cells + rm.cells ≤ R.cells ∧ slots + rm.slots ≤ R.slots) (hw : xWd G A s.heap M H locs) (hsz : ls.size = nL) (hwt : (rest.map fun v => v.category).sum ≤ 8) {ig : Instr} (hdg : decode cc pc = .ok (ig, 3))
    (hiv : xIv p l e R s m args below meth c H locs cells slots (F0 m pc ls st) rest y As.toArray)
    (kr : ∀ (v : Option Value) (M1 : xMem) (H1 : Heap) (locs1 : List Loc), rt v M1 → xWd G A s.heap M1 H1 locs1 → W p l e R s m args below meth c H1 locs1 (cells + rm.cells) (slots + rm.slots) Q (F0 m (pc + 3) ls (v.toList ++ rest)))
    (kt : ∀ (x : Addr) (X : String) (M1 : xMem) (H1 : Heap) (locs1 : List Loc), th X M1 → xTh s H1 X x → xWd G A s.heap M1 H1 locs1 → xWT p l e R s m args below meth c H1 locs1 (cells + rm.cells) (slots + rm.slots) Q x (F0 m pc ls rest)) : W p l e R s m args below meth c H locs cells slots Q (F0 m pc ls st) := by
  refine x_callK hC hM hcw (fun U mk hn hb => ?_) hin hR hcs hw hsz hwt hdg hiv kr kt
  obtain ⟨methY, cY, hmY, hcY, -, hlY, -, -, -, -⟩ := Cond.code_spec hn hb
  exact ⟨methY, cY, hmY, hcY, hlY⟩
theorem x_callH (hC : xC p s m args meth c cc own nL G A) {y : MethodName} {bytes : ByteArray} {maxL : Nat} {ret : Option FieldType} {hh : List (Nat × Nat × Nat × Nat)} {rm : Room} {As : List Value} {rt : Option Value → xMem → Prop} {th : String → xMem → Prop} (hM : xMet l G y (Cond.codeWith y bytes maxL ret hh :: x_tbl) rm As M H.size rt th) (hcw : Cond.codeWith y bytes maxL ret hh ∈ x_tbl) (hin : Cond.initialized y.cls ∈ x_tbl) (hR : rm.frames + 1 ≤ R.frames ∧ 8 + (maxL + 11) + rm.locals ≤ R.locals) (hcs : cells + rm.cells ≤ R.cells ∧ slots + rm.slots ≤ R.slots) (hw : xWd G A s.heap M H locs) (hsz : ls.size = nL) (hwt : (rest.map fun v => v.category).sum ≤ 8) {ig : Instr} (hdg : decode cc pc = .ok (ig, 3))
    (hiv : xIv p l e R s m args below meth c H locs cells slots (F0 m pc ls st) rest y As.toArray)
    (kr : ∀ (v : Option Value) (M1 : xMem) (H1 : Heap) (locs1 : List Loc), rt v M1 → xWd G A s.heap M1 H1 locs1 → W p l e R s m args below meth c H1 locs1 (cells + rm.cells) (slots + rm.slots) Q (F0 m (pc + 3) ls (v.toList ++ rest)))
    (kt : ∀ (x : Addr) (X : String) (M1 : xMem) (H1 : Heap) (locs1 : List Loc), th X M1 → xTh s H1 X x → xWd G A s.heap M1 H1 locs1 → xWT p l e R s m args below meth c H1 locs1 (cells + rm.cells) (slots + rm.slots) Q x (F0 m pc ls rest)) : W p l e R s m args below meth c H locs cells slots Q (F0 m pc ls st) := by
  refine x_callK hC hM hcw (fun U mk hn hb => ?_) hin hR hcs hw hsz hwt hdg hiv kr kt
  obtain ⟨m9, methY, cY, hn9, hmY, hcY, -, hlY, -⟩ := Cond.codeWith_spec hb
  cases hn.symm.trans hn9
  exact ⟨methY, cY, hmY, hcY, hlY⟩
/-- the five ways to a callee -/
theorem x_ivS (hC : xC p s m args meth c cc own nL G A) {y : MethodName} {bytes : ByteArray} {maxL index : Nat} {ret : Option FieldType} {As : List Value} (hcw : Cond.code y bytes maxL ret ∈ x_tbl) (hl : Cond.methodLink own index y ∈ x_tbl) (hs : Cond.static y ∈ x_tbl) (hin : Cond.initialized y.cls ∈ x_tbl) (hd : y.cls ≠ "java/lang/invoke/MethodHandle" ∧ y.cls ≠ "java/lang/invoke/VarHandle" ∧ (parseMethodDescriptor y.desc).map (fun d => d.parameters.length) = some As.length)
    (hstk : st = As.reverse ++ rest) (hdg : decode cc pc = .ok (.invokestatic index, 3)) : xIv p l e R s m args below meth c H locs cells slots (F0 m pc ls st) rest y As.toArray := by
  intro T hT X
  obtain ⟨mk, hnamed⟩ := Cond.code_named (hC.w _ hcw)
  obtain ⟨methM, cM, hmethM, -, -, -, -, -, -, hsigM⟩ := Cond.code_spec hnamed (hC.w _ hcw)
  obtain ⟨kP, hkP, -⟩ := className_of_methodNamed hnamed
  have hlen : As.length = methM.sig.parameters.length := by
    have h2 := hd.2.2
    rw [hsigM] at h2
    exact (Option.some.inj h2).symm
  obtain ⟨vm₁, X₁, hstep⟩ := X.invokestatic hC.x hC.o (hC.w _ hl) hnamed hmethM (Cond.static_spec hnamed hmethM (hC.w _ hs)) hkP (Cond.initialized_spec (findClass_of_methodNamed hnamed) hkP (hC.w _ hin)) ⟨hd.1, hd.2.1⟩ (g := F0 m pc ls st) rfl (argsL := As) (rest := rest) hlen hstk (by rw [hC.b]; exact hdg)
  exact ⟨mk, vm₁, hnamed, X₁, hstep⟩
theorem x_ivSH (hC : xC p s m args meth c cc own nL G A) {y : MethodName} {bytes : ByteArray} {maxL index : Nat} {ret : Option FieldType} {hh : List (Nat × Nat × Nat × Nat)} {As : List Value} (hcw : Cond.codeWith y bytes maxL ret hh ∈ x_tbl) (hl : Cond.methodLink own index y ∈ x_tbl) (hs : Cond.static y ∈ x_tbl) (hin : Cond.initialized y.cls ∈ x_tbl) (hd : y.cls ≠ "java/lang/invoke/MethodHandle" ∧ y.cls ≠ "java/lang/invoke/VarHandle" ∧ (parseMethodDescriptor y.desc).map (fun d => d.parameters.length) = some As.length)
    (hstk : st = As.reverse ++ rest) (hdg : decode cc pc = .ok (.invokestatic index, 3)) : xIv p l e R s m args below meth c H locs cells slots (F0 m pc ls st) rest y As.toArray := by
  intro T hT X
  obtain ⟨mk, methM, cM, hnamed, hmethM, -, -, -, -, -, -, hsigM⟩ := Cond.codeWith_spec (hC.w _ hcw)
  obtain ⟨kP, hkP, -⟩ := className_of_methodNamed hnamed
  have hlen : As.length = methM.sig.parameters.length := by
    have h2 := hd.2.2
    rw [hsigM] at h2
    exact (Option.some.inj h2).symm
  obtain ⟨vm₁, X₁, hstep⟩ := X.invokestatic hC.x hC.o (hC.w _ hl) hnamed hmethM (Cond.static_spec hnamed hmethM (hC.w _ hs)) hkP (Cond.initialized_spec (findClass_of_methodNamed hnamed) hkP (hC.w _ hin)) ⟨hd.1, hd.2.1⟩ (g := F0 m pc ls st) rfl (argsL := As) (rest := rest) hlen hstk (by rw [hC.b]; exact hdg)
  exact ⟨mk, vm₁, hnamed, X₁, hstep⟩
theorem x_ivV (hC : xC p s m args meth c cc own nL G A) {y : MethodName} {bytes : ByteArray} {maxL index : Nat} {ret : Option FieldType} {As : List Value} {b : Nat} (hcw : Cond.code y bytes maxL ret ∈ x_tbl) (hl : Cond.methodLink own index y ∈ x_tbl) (hi : Cond.instanceMethod y ∈ x_tbl) (hse : Cond.selects y.cls y y ∈ x_tbl) (hd : y.cls ≠ "java/lang/invoke/MethodHandle" ∧ y.cls ≠ "java/lang/invoke/VarHandle" ∧ (parseMethodDescriptor y.desc).map (fun d => d.parameters.length) = some As.length)
    (hrc : ∃ cell : Cell, H[b]? = some cell ∧ cell.vm.isStatics = false ∧ s.vm.findClass y.cls = some cell.cls) (hstk : st = As.reverse ++ .ref b :: rest) (hdg : decode cc pc = .ok (.invokevirtual index, 3)) : xIv p l e R s m args below meth c H locs cells slots (F0 m pc ls st) rest y (Value.ref b :: As).toArray := by
  intro T hT X
  obtain ⟨cellB, hcB, hoB, hclB⟩ := hrc
  obtain ⟨mk, methM, hnamed, hmethM, hstM, habM⟩ := Cond.instanceMethod_spec (hC.w _ hi)
  obtain ⟨methM', cM, hmethM', -, -, -, -, -, -, hsigM⟩ := Cond.code_spec hnamed (hC.w _ hcw)
  cases hmethM.symm.trans hmethM'
  obtain ⟨c2, r2, m2, q1, q2, q3, q4, kP, hkP, hkPi⟩ := Cond.selects_spec (hC.w _ hse)
  cases hclB.symm.trans q1
  cases (State.methodFound?_of_named hnamed ⟨hd.1, hd.2.1⟩).symm.trans q2
  cases hnamed.symm.trans q3
  have hselP : selectMethod e.platform s.vm cellB.cls mk = .method mk := by rw [Launch.admits_selectMethod X.admits]; exact q4
  have hlen : As.length = methM.sig.parameters.length := by
    have h2 := hd.2.2
    rw [hsigM] at h2
    exact (Option.some.inj h2).symm
  obtain ⟨vm₁, X₁, hstep⟩ := X.invokevirtual hC.x hC.o (hC.w _ hl) hnamed hmethM hstM hkP hkPi ⟨hd.1, hd.2.1⟩ (a := b) (cell := cellB) (by rw [hT]; exact hcB) (fun z h => by rw [h] at hoB; cases hoB) hselP hmethM habM hkP hkPi (g := F0 m pc ls st) rfl (argsL := As) (rest := rest) hlen hstk (by rw [hC.b]; exact hdg)
  exact ⟨mk, vm₁, hnamed, X₁, hstep⟩
/-- x: what the instruction names; y: what is run on an object of class C -/
theorem x_ivU (hC : xC p s m args meth c cc own nL G A) {C owner : String} {x y : MethodName} {b0 : ByteArray} {m0 index : Nat} {r0 : Option FieldType} {As : List Value} {b : Nat} (hcx : Cond.code ⟨owner, x.name, x.desc⟩ b0 m0 r0 ∈ x_tbl) (hix : Cond.instanceMethod ⟨owner, x.name, x.desc⟩ ∈ x_tbl) (hl : Cond.methodLink own index x ∈ x_tbl) (hsm : Cond.sameMethod x.cls owner x.name x.desc ∈ x_tbl) (hi : Cond.instanceMethod y ∈ x_tbl) (hse : Cond.selects C x y ∈ x_tbl) (hd : owner ≠ "java/lang/invoke/MethodHandle" ∧ owner ≠ "java/lang/invoke/VarHandle" ∧ (parseMethodDescriptor x.desc).map (fun d => d.parameters.length) = some As.length)
    (hrc : ∃ cell : Cell, H[b]? = some cell ∧ cell.vm.isStatics = false ∧ s.vm.findClass C = some cell.cls) (hstk : st = As.reverse ++ .ref b :: rest) (hdg : decode cc pc = .ok (.invokevirtual index, 3)) : xIv p l e R s m args below meth c H locs cells slots (F0 m pc ls st) rest y (Value.ref b :: As).toArray := by
  intro T hT X
  obtain ⟨cellB, hcB, hoB, hclB⟩ := hrc
  obtain ⟨r1, r, hn, hrm, hstR, hsigR⟩ := va_Decl.of (hC.w _ hix) (hC.w _ hcx)
  obtain ⟨cn, ck, r2, hcn, hck, hni, hf, hn1⟩ := Cond.sameMethod_found (hC.w _ hsm)
  cases hn.symm.trans hn1
  obtain ⟨mk, methM, hnamed, hmethM, -, habM⟩ := Cond.instanceMethod_spec (hC.w _ hi)
  obtain ⟨c2, r3, m2, q1, q2, q3, q4, kP, hkP, hkPi⟩ := Cond.selects_spec (hC.w _ hse)
  cases hclB.symm.trans q1
  cases hf.symm.trans q2
  cases hnamed.symm.trans q3
  have hselP : selectMethod e.platform s.vm cellB.cls r1 = .method mk := by rw [Launch.admits_selectMethod X.admits]; exact q4
  have hlen : As.length = r.sig.parameters.length := by
    have h2 := hd.2.2
    rw [show parseMethodDescriptor x.desc = some r.sig from hsigR] at h2
    exact (Option.some.inj h2).symm
  obtain ⟨vm₁, X₁, hstep⟩ := X.invokevirtualUp hC.x hC.o (hC.w _ hl) (hC.w _ hsm) ⟨hd.1, hd.2.1⟩ hn hrm hstR (a := b) (cell := cellB) (by rw [hT]; exact hcB) (fun z h => by rw [h] at hoB; cases hoB) hselP hmethM habM hkP hkPi (g := F0 m pc ls st) rfl (argsL := As) (rest := rest) hlen hstk (by rw [hC.b]; exact hdg)
  exact ⟨mk, vm₁, hnamed, X₁, hstep⟩
theorem x_ivI (hC : xC p s m args meth c cc own nL G A) {y : MethodName} {bytes : ByteArray} {maxL index : Nat} {As : List Value} {b : Nat} (hcw : Cond.code y bytes maxL none ∈ x_tbl) (hl : Cond.methodLink own index y ∈ x_tbl) (hi : Cond.instanceMethod y ∈ x_tbl) (hy1 : y.name = "<init>") (hd : y.cls ≠ "java/lang/invoke/MethodHandle" ∧ y.cls ≠ "java/lang/invoke/VarHandle" ∧ (parseMethodDescriptor y.desc).map (fun d => d.parameters.length) = some As.length)
    (hstk : st = As.reverse ++ .ref b :: rest) (hdg : decode cc pc = .ok (.invokespecial index, 3)) : xIv p l e R s m args below meth c H locs cells slots (F0 m pc ls st) rest y (Value.ref b :: As).toArray := by
  intro T hT X
  have hpl : e.platform.magicAccessors = ({} : Platform).magicAccessors := by rw [X.admits.platform]
  obtain ⟨mk, methM, cM, kP, vm₁, hnamed, -, -, -, -, -, -, -, hW₁, hstep⟩ := Steps.initColdArgs (e := e) X.here hC.x X.warmed hpl hC.o hy1 ⟨hd.1, hd.2.1⟩ (hC.w _ hl) (hC.w _ hi) (hC.w _ hcw) (f := F0 m pc ls st) rfl (argsL := As) (rest := rest) (a := b) (fun sig h => by
    have h2 := hd.2.2
    rw [h] at h2
    exact (Option.some.inj h2).symm) hstk (by rw [hC.b]; exact hdg)
  exact ⟨mk, vm₁, hnamed, X.noted hW₁, hstep⟩
theorem x_ivN (hC : xC p s m args meth c cc own nL G A) {y : MethodName} {host : String} {bytes : ByteArray} {maxL index : Nat} {As : List Value} {b : Nat} (hcw : Cond.code y bytes maxL none ∈ x_tbl) (hl : Cond.methodLinkNest own index y host ∈ x_tbl) (hi : Cond.instanceMethod y ∈ x_tbl) (hy1 : y.name = "<init>") (hd : y.cls ≠ "java/lang/invoke/MethodHandle" ∧ y.cls ≠ "java/lang/invoke/VarHandle" ∧ (parseMethodDescriptor y.desc).map (fun d => d.parameters.length) = some As.length)
    (hstk : st = As.reverse ++ .ref b :: rest) (hdg : decode cc pc = .ok (.invokespecial index, 3)) : xIv p l e R s m args below meth c H locs cells slots (F0 m pc ls st) rest y (Value.ref b :: As).toArray := by
  intro T hT X
  have hpl : e.platform.magicAccessors = ({} : Platform).magicAccessors := by rw [X.admits.platform]
  obtain ⟨mk, methM, cM, kP, vm₁, hnamed, -, -, -, -, -, -, -, hW₁, hstep⟩ := Steps.initColdArgsNest (e := e) X.here hC.x X.warmed hpl hC.o hy1 ⟨hd.1, hd.2.1⟩ (hC.w _ hl) (hC.w _ hi) (hC.w _ hcw) (f := F0 m pc ls st) rfl (argsL := As) (rest := rest) (a := b) (fun sig h => by
    have h2 := hd.2.2
    rw [h] at h2
    exact (Option.some.inj h2).symm) hstk (by rw [hC.b]; exact hdg)
  exact ⟨mk, vm₁, hnamed, X.noted hW₁, hstep⟩
end XCall
end
section
set_option maxRecDepth 100000 in
theorem hat_IO : ∀ a ∈ Bundle.ownAtoms "RedactCheck" 171 "java/lang/IndexOutOfBoundsException" ["java/lang/RuntimeException", "java/lang/Exception"], a ∈ x_tbl ∨ a ∈ x_stw := List.forall_mem_append.mpr ⟨List.forall_mem_append.mpr ⟨List.forall_mem_append.mpr ⟨List.forall_mem_cons.mpr ⟨Or.inl k_14, List.forall_mem_cons.mpr ⟨Or.inl k_321, List.forall_mem_cons.mpr ⟨Or.inl k_330, List.forall_mem_cons.mpr ⟨Or.inl k_334, List.forall_mem_cons.mpr ⟨Or.inl k_337, List.forall_mem_cons.mpr ⟨Or.inl k_339, List.forall_mem_cons.mpr ⟨Or.inl k_322, List.forall_mem_cons.mpr ⟨Or.inl k_323, List.forall_mem_cons.mpr ⟨Or.inl k_33, List.forall_mem_cons.mpr ⟨Or.inl k_34, List.forall_mem_cons.mpr ⟨Or.inl k_324, List.forall_mem_cons.mpr ⟨Or.inl k_329, List.forall_mem_cons.mpr ⟨Or.inl k_335, List.forall_mem_cons.mpr ⟨Or.inl k_355, List.forall_mem_cons.mpr ⟨Or.inl k_311, List.forall_mem_cons.mpr ⟨Or.inl k_356, List.forall_mem_cons.mpr ⟨Or.inl k_313, List.forall_mem_cons.mpr ⟨Or.inl k_357, List.forall_mem_cons.mpr ⟨Or.inl k_315, List.forall_mem_cons.mpr ⟨Or.inl k_325, List.forall_mem_cons.mpr ⟨Or.inr (List.mem_of_getElem? (i := 0) rfl), List.forall_mem_cons.mpr ⟨Or.inl k_327, List.forall_mem_cons.mpr ⟨Or.inr (List.mem_of_getElem? (i := 1) rfl), List.forall_mem_cons.mpr ⟨Or.inl k_317, fun _ h => absurd h List.not_mem_nil⟩⟩⟩⟩⟩⟩⟩⟩⟩⟩⟩⟩⟩⟩⟩⟩⟩⟩⟩⟩⟩⟩⟩⟩, List.forall_mem_cons.mpr ⟨Or.inl k_351, List.forall_mem_cons.mpr ⟨Or.inl k_352, List.forall_mem_cons.mpr ⟨Or.inl k_354, List.forall_mem_cons.mpr ⟨Or.inl k_317, fun _ h => absurd h List.not_mem_nil⟩⟩⟩⟩⟩, List.forall_mem_append.mpr ⟨List.forall_mem_cons.mpr ⟨Or.inl k_342, List.forall_mem_cons.mpr ⟨Or.inl k_343, List.forall_mem_cons.mpr ⟨Or.inl k_344, List.forall_mem_cons.mpr ⟨Or.inl k_345, List.forall_mem_cons.mpr ⟨Or.inl k_303, fun _ h => absurd h List.not_mem_nil⟩⟩⟩⟩⟩, List.forall_mem_append.mpr ⟨List.forall_mem_cons.mpr ⟨Or.inl k_345, List.forall_mem_cons.mpr ⟨Or.inl k_346, List.forall_mem_cons.mpr ⟨Or.inl k_347, List.forall_mem_cons.mpr ⟨Or.inl k_348, List.forall_mem_cons.mpr ⟨Or.inl k_305, fun _ h => absurd h List.not_mem_nil⟩⟩⟩⟩⟩, List.forall_mem_cons.mpr ⟨Or.inl k_348, List.forall_mem_cons.mpr ⟨Or.inl k_349, List.forall_mem_cons.mpr ⟨Or.inl k_350, List.forall_mem_cons.mpr ⟨Or.inl k_351, List.forall_mem_cons.mpr ⟨Or.inl k_307, fun _ h => absurd h List.not_mem_nil⟩⟩⟩⟩⟩⟩⟩⟩, List.forall_mem_cons.mpr ⟨Or.inl k_341, List.forall_mem_cons.mpr ⟨Or.inl k_300, List.forall_mem_cons.mpr ⟨Or.inl k_301, List.forall_mem_cons.mpr ⟨Or.inl k_308, List.forall_mem_cons.mpr ⟨Or.inl k_309, List.forall_mem_cons.mpr ⟨Or.inl k_310, List.forall_mem_cons.mpr ⟨Or.inl k_312, List.forall_mem_cons.mpr ⟨Or.inl k_314, List.forall_mem_cons.mpr ⟨Or.inl k_316, List.forall_mem_cons.mpr ⟨Or.inr (List.mem_of_getElem? (i := 2) rfl), List.forall_mem_cons.mpr ⟨Or.inr (List.mem_of_getElem? (i := 3) rfl), List.forall_mem_cons.mpr ⟨Or.inl k_320, List.forall_mem_cons.mpr ⟨Or.inl k_319, List.forall_mem_cons.mpr ⟨Or.inl k_318, fun _ h => absurd h List.not_mem_nil⟩⟩⟩⟩⟩⟩⟩⟩⟩⟩⟩⟩⟩⟩⟩
set_option maxRecDepth 100000 in
theorem hat_IA : ∀ a ∈ Bundle.ownAtoms "RedactCheck" 93 "java/lang/IllegalArgumentException" ["java/lang/RuntimeException", "java/lang/Exception"], a ∈ x_tbl ∨ a ∈ x_stw := List.forall_mem_append.mpr ⟨List.forall_mem_append.mpr ⟨List.forall_mem_append.mpr ⟨List.forall_mem_cons.mpr ⟨Or.inl k_14, List.forall_mem_cons.mpr ⟨Or.inl k_321, List.forall_mem_cons.mpr ⟨Or.inl k_330, List.forall_mem_cons.mpr ⟨Or.inl k_334, List.forall_mem_cons.mpr ⟨Or.inl k_337, List.forall_mem_cons.mpr ⟨Or.inl k_339, List.forall_mem_cons.mpr ⟨Or.inl k_322, List.forall_mem_cons.mpr ⟨Or.inl k_323, List.forall_mem_cons.mpr ⟨Or.inl k_33, List.forall_mem_cons.mpr ⟨Or.inl k_34, List.forall_mem_cons.mpr ⟨Or.inl k_324, List.forall_mem_cons.mpr ⟨Or.inl k_329, List.forall_mem_cons.mpr ⟨Or.inl k_335, List.forall_mem_cons.mpr ⟨Or.inl k_355, List.forall_mem_cons.mpr ⟨Or.inl k_311, List.forall_mem_cons.mpr ⟨Or.inl k_356, List.forall_mem_cons.mpr ⟨Or.inl k_313, List.forall_mem_cons.mpr ⟨Or.inl k_357, List.forall_mem_cons.mpr ⟨Or.inl k_315, List.forall_mem_cons.mpr ⟨Or.inl k_325, List.forall_mem_cons.mpr ⟨Or.inr (List.mem_of_getElem? (i := 0) rfl), List.forall_mem_cons.mpr ⟨Or.inl k_327, List.forall_mem_cons.mpr ⟨Or.inr (List.mem_of_getElem? (i := 1) rfl), List.forall_mem_cons.mpr ⟨Or.inl k_317, fun _ h => absurd h List.not_mem_nil⟩⟩⟩⟩⟩⟩⟩⟩⟩⟩⟩⟩⟩⟩⟩⟩⟩⟩⟩⟩⟩⟩⟩⟩, List.forall_mem_cons.mpr ⟨Or.inl k_351, List.forall_mem_cons.mpr ⟨Or.inl k_352, List.forall_mem_cons.mpr ⟨Or.inl k_354, List.forall_mem_cons.mpr ⟨Or.inl k_317, fun _ h => absurd h List.not_mem_nil⟩⟩⟩⟩⟩, List.forall_mem_append.mpr ⟨List.forall_mem_cons.mpr ⟨Or.inl k_384, List.forall_mem_cons.mpr ⟨Or.inl k_385, List.forall_mem_cons.mpr ⟨Or.inl k_386, List.forall_mem_cons.mpr ⟨Or.inl k_345, List.forall_mem_cons.mpr ⟨Or.inl k_303, fun _ h => absurd h List.not_mem_nil⟩⟩⟩⟩⟩, List.forall_mem_append.mpr ⟨List.forall_mem_cons.mpr ⟨Or.inl k_345, List.forall_mem_cons.mpr ⟨Or.inl k_346, List.forall_mem_cons.mpr ⟨Or.inl k_347, List.forall_mem_cons.mpr ⟨Or.inl k_348, List.forall_mem_cons.mpr ⟨Or.inl k_305, fun _ h => absurd h List.not_mem_nil⟩⟩⟩⟩⟩, List.forall_mem_cons.mpr ⟨Or.inl k_348, List.forall_mem_cons.mpr ⟨Or.inl k_349, List.forall_mem_cons.mpr ⟨Or.inl k_350, List.forall_mem_cons.mpr ⟨Or.inl k_351, List.forall_mem_cons.mpr ⟨Or.inl k_307, fun _ h => absurd h List.not_mem_nil⟩⟩⟩⟩⟩⟩⟩⟩, List.forall_mem_cons.mpr ⟨Or.inl k_383, List.forall_mem_cons.mpr ⟨Or.inl k_374, List.forall_mem_cons.mpr ⟨Or.inl k_375, List.forall_mem_cons.mpr ⟨Or.inl k_376, List.forall_mem_cons.mpr ⟨Or.inl k_332, List.forall_mem_cons.mpr ⟨Or.inl k_377, List.forall_mem_cons.mpr ⟨Or.inl k_378, List.forall_mem_cons.mpr ⟨Or.inl k_379, List.forall_mem_cons.mpr ⟨Or.inl k_380, List.forall_mem_cons.mpr ⟨Or.inr (List.mem_of_getElem? (i := 2) rfl), List.forall_mem_cons.mpr ⟨Or.inr (List.mem_of_getElem? (i := 3) rfl), List.forall_mem_cons.mpr ⟨Or.inl k_320, List.forall_mem_cons.mpr ⟨Or.inl k_319, List.forall_mem_cons.mpr ⟨Or.inl k_381, fun _ h => absurd h List.not_mem_nil⟩⟩⟩⟩⟩⟩⟩⟩⟩⟩⟩⟩⟩⟩⟩
set_option maxRecDepth 100000 in
theorem hat_UO : ∀ a ∈ Bundle.ownAtoms "RedactCheck" 125 "java/lang/UnsupportedOperationException" ["java/lang/RuntimeException", "java/lang/Exception"], a ∈ x_tbl ∨ a ∈ x_stw := List.forall_mem_append.mpr ⟨List.forall_mem_append.mpr ⟨List.forall_mem_append.mpr ⟨List.forall_mem_cons.mpr ⟨Or.inl k_14, List.forall_mem_cons.mpr ⟨Or.inl k_321, List.forall_mem_cons.mpr ⟨Or.inl k_330, List.forall_mem_cons.mpr ⟨Or.inl k_334, List.forall_mem_cons.mpr ⟨Or.inl k_337, List.forall_mem_cons.mpr ⟨Or.inl k_339, List.forall_mem_cons.mpr ⟨Or.inl k_322, List.forall_mem_cons.mpr ⟨Or.inl k_323, List.forall_mem_cons.mpr ⟨Or.inl k_33, List.forall_mem_cons.mpr ⟨Or.inl k_34, List.forall_mem_cons.mpr ⟨Or.inl k_324, List.forall_mem_cons.mpr ⟨Or.inl k_329, List.forall_mem_cons.mpr ⟨Or.inl k_335, List.forall_mem_cons.mpr ⟨Or.inl k_355, List.forall_mem_cons.mpr ⟨Or.inl k_311, List.forall_mem_cons.mpr ⟨Or.inl k_356, List.forall_mem_cons.mpr ⟨Or.inl k_313, List.forall_mem_cons.mpr ⟨Or.inl k_357, List.forall_mem_cons.mpr ⟨Or.inl k_315, List.forall_mem_cons.mpr ⟨Or.inl k_325, List.forall_mem_cons.mpr ⟨Or.inr (List.mem_of_getElem? (i := 0) rfl), List.forall_mem_cons.mpr ⟨Or.inl k_327, List.forall_mem_cons.mpr ⟨Or.inr (List.mem_of_getElem? (i := 1) rfl), List.forall_mem_cons.mpr ⟨Or.inl k_317, fun _ h => absurd h List.not_mem_nil⟩⟩⟩⟩⟩⟩⟩⟩⟩⟩⟩⟩⟩⟩⟩⟩⟩⟩⟩⟩⟩⟩⟩⟩, List.forall_mem_cons.mpr ⟨Or.inl k_351, List.forall_mem_cons.mpr ⟨Or.inl k_352, List.forall_mem_cons.mpr ⟨Or.inl k_354, List.forall_mem_cons.mpr ⟨Or.inl k_317, fun _ h => absurd h List.not_mem_nil⟩⟩⟩⟩⟩, List.forall_mem_append.mpr ⟨List.forall_mem_cons.mpr ⟨Or.inl k_403, List.forall_mem_cons.mpr ⟨Or.inl k_404, List.forall_mem_cons.mpr ⟨Or.inl k_405, List.forall_mem_cons.mpr ⟨Or.inl k_345, List.forall_mem_cons.mpr ⟨Or.inl k_303, fun _ h => absurd h List.not_mem_nil⟩⟩⟩⟩⟩, List.forall_mem_append.mpr ⟨List.forall_mem_cons.mpr ⟨Or.inl k_345, List.forall_mem_cons.mpr ⟨Or.inl k_346, List.forall_mem_cons.mpr ⟨Or.inl k_347, List.forall_mem_cons.mpr ⟨Or.inl k_348, List.forall_mem_cons.mpr ⟨Or.inl k_305, fun _ h => absurd h List.not_mem_nil⟩⟩⟩⟩⟩, List.forall_mem_cons.mpr ⟨Or.inl k_348, List.forall_mem_cons.mpr ⟨Or.inl k_349, List.forall_mem_cons.mpr ⟨Or.inl k_350, List.forall_mem_cons.mpr ⟨Or.inl k_351, List.forall_mem_cons.mpr ⟨Or.inl k_307, fun _ h => absurd h List.not_mem_nil⟩⟩⟩⟩⟩⟩⟩⟩, List.forall_mem_cons.mpr ⟨Or.inl k_402, List.forall_mem_cons.mpr ⟨Or.inl k_393, List.forall_mem_cons.mpr ⟨Or.inl k_394, List.forall_mem_cons.mpr ⟨Or.inl k_395, List.forall_mem_cons.mpr ⟨Or.inl k_333, List.forall_mem_cons.mpr ⟨Or.inl k_396, List.forall_mem_cons.mpr ⟨Or.inl k_397, List.forall_mem_cons.mpr ⟨Or.inl k_398, List.forall_mem_cons.mpr ⟨Or.inl k_399, List.forall_mem_cons.mpr ⟨Or.inr (List.mem_of_getElem? (i := 2) rfl), List.forall_mem_cons.mpr ⟨Or.inr (List.mem_of_getElem? (i := 3) rfl), List.forall_mem_cons.mpr ⟨Or.inl k_320, List.forall_mem_cons.mpr ⟨Or.inl k_319, List.forall_mem_cons.mpr ⟨Or.inl k_400, fun _ h => absurd h List.not_mem_nil⟩⟩⟩⟩⟩⟩⟩⟩⟩⟩⟩⟩⟩⟩⟩
/-! throwing, and catching -/
section XThrow
variable {p : Program} {l : Launch} {e : Env} {R : Room} {s : State} {m : MethodId} {args : Array Value} {below : List Frame} {meth : Method} {c : Code} {H : Heap} {locs : List Loc} {cells slots : Nat} {Q : State → Prop}
theorem x_notr (hfl : l.flags = flags0) (ha : l.admits e) : e.platform.stackTraces = false := by
  have h : e.platform.stackTraces = l.stackTraces := by rw [ha.platform]
  rw [h]
  unfold Launch.stackTraces
  rw [hfl]
  decide +kernel
/-- the walk as if its method had been called with the heap that it has now -/
theorem x_root {T : State} (X : Stand p l e R s m args below meth c T locs cells slots) (hc : cells ≤ R.cells) (hs : slots ≤ R.slots) : Stand p l e { R with cells := R.cells - cells, slots := R.slots - slots } { s with heap := T.heap, slotsUsed := T.slotsUsed } m args below meth c T [] 0 0 := by
  have hbook := X.book
  have hh := X.heapSize
  have hu := X.used
  have hroom := X.room
  obtain ⟨e1, -⟩ := id X.same
  refine ⟨X.admits, X.cas, X.clock, X.frames, ?_, X.hears, X.method, X.code, X.here, X.tail, X.warmed, X.limits, X.bytes, ?_⟩
  · simp only [State.hasRoom, Bool.and_eq_true, decide_eq_true_eq] at hroom ⊢
    obtain ⟨⟨⟨r1, r2⟩, r3⟩, r4⟩ := hroom
    exact ⟨⟨⟨r1, by omega⟩, by omega⟩, hbook⟩
  · have hd : T.heap.toList.drop T.heap.size = [] := List.drop_eq_nil_of_le (by simp)
    refine ⟨?_, Nat.le_refl _, Nat.le_refl _, ?_, ?_, fun a c h => ⟨c, h, rfl, rfl, fun _ _ => rfl⟩⟩
    · exact e1
    · show T.slotsUsed = T.slotsUsed + ((T.heap.toList.drop T.heap.size).map (·.slots.size)).sum
      rw [hd]
      rfl
    · show ((T.heap.toList.drop T.heap.size).map (·.slots.size)).sum ≤ 0
      rw [hd]
      exact Nat.le_refl _
variable {cc : ByteArray} {own : String} {nL : Nat} {G : xT} {pc : Nat} {ls : Array Slot} {rest : List Value} {M M0 : xMem} {sz mc ms : Nat} {rt : Option Value → xMem → Prop} {th : String → xMem → Prop}
theorem x_tab {w : Cond} (h : w ∈ x_tbl) {s U : State} (hvm : U.vm = s.vm) {args a' : Array Value} (hb : w.before args s = true) : w.before a' U = true := x_warm w h (by rw [hvm]; exact State.WarmedH.refl s) hb
theorem x_stAny {w : Cond} (h : w ∈ x_stw) {U : State} {args : Array Value} (hb : w.before #[] U = true) : w.before args U = true := by
  simp only [x_stw, List.mem_cons, List.not_mem_nil, or_false] at h
  rcases h with rfl | rfl | rfl | rfl <;> exact hb
theorem x_throw0 (hfl : l.flags = flags0) (hx : p.tables.exec = Jvm.exec) (hb : c.code = cc) (hown : s.vm.findClass "RedactCheck" = some m.cls) (hn : c.maxLocals = nL) (hlk : meth.locks = false) (hts : ∀ w ∈ x_tbl, w.before args s = true) (hst : ∀ w ∈ x_stw, w.before #[] s = true) (hno : c.exceptionTable.toList = []) (hH : s.heap.size ≤ H.size) {X tx : String} {ia ib ic q : Nat}
    (hcl : Cond.classLink "RedactCheck" ia X ∈ x_tbl) (hins : Cond.instantiable X 6 ∈ x_tbl) (hini : Cond.initialized X ∈ x_tbl) (hq : vk_R "RedactCheck" ib tx q s) (hX : Bundle.fit X = true) (hat : ∀ a ∈ Bundle.ownAtoms "RedactCheck" ic X ["java/lang/RuntimeException", "java/lang/Exception"], a ∈ x_tbl ∨ a ∈ x_stw)
    (hd0 : decode cc pc = .ok (.new ia, 3)) (hd3 : decode cc (pc + 3) = .ok (.dup, 1)) (hd4 : decode cc (pc + 3 + 1) = .ok (.ldc ib, 2)) (hd6 : decode cc (pc + 3 + 1 + 2) = .ok (.invokespecial ic, 3)) (hd9 : decode cc (pc + 3 + 1 + 2 + 3) = .ok (.athrow, 1))
    (hsz : ls.size = nL) (hRf : 5 < R.frames) (hRl : (rest.map fun v => v.category).sum + 82 ≤ R.locals) (hRc : 1 ≤ R.cells) (hRs : 6 ≤ R.slots) :
    W p l e R s m args below meth c H [] 0 0 (fun t => ∃ ce, t.status = .running ∧ Ended t below (.threw H.size) ∧ s.WarmedH t.vm ∧ s.sameButNew ({ t with vm := s.vm } : State) [] 1 6 ∧ t.heap[H.size]? = some ce ∧ ce.vm = .none ∧ s.vm.findClass X = some ce.cls) (F0 m pc ls rest) := by
  obtain ⟨cX, kX, hfX, hkX, -⟩ := Cond.instantiable_spec (hts _ hins)
  refine W.newcK hx hb hown (hts _ hcl) (hts _ hins) (hts _ hini) rfl hd0 (by omega) (by omega) hfX rfl fun H1 kC hkC e1 z1 o1 => ?_
  have hkk : kX = kC := Option.some.inj (hkX.symm.trans hkC)
  subst hkk
  refine lv_dup hx hb hd3 rfl ?_
  refine va_ldcS hx hb hown hq hd4 ?_
  intro T1 hT1 X1
  obtain ⟨U, h1, h2, h3, h4, h5, ce, h6, h7⟩ := X1.ctorThrowS hx (x_notr hfl X1.admits) hown hX (names := ["java/lang/RuntimeException", "java/lang/Exception"]) (by decide) (fun a ha => by
      rcases hat a ha with h | h
      · exact hts a h
      · exact x_stAny h (hst a h)) (fun x hx => by cases hx) hfX hkX (a := H.size) (by rw [hT1]; exact e1) hH (msg := .ref q) rfl
    (g := F0 m (pc + 3 + 1 + 2) ls (.ref q :: .ref H.size :: .ref H.size :: rest)) rfl (by show ls.size = _; rw [hn]; exact hsz) rfl rfl (rest := rest) rfl
    (by rw [hb]; exact hd6) (by rw [hb]; exact hd9) (fun y hy => by rw [hno] at hy; cases hy) (by show 2 + 3 < R.frames; omega) (by show 2 * 0 + (1 + (rest.map fun v => v.category).sum) + (13 * (2 + 1) + 42) ≤ R.locals; omega) hlk
  exact ⟨U, h1, ce, h2, h3, h4, h5, h6, h7.vm, h7.cls⟩
/-- 'throw new X("..")' -/
theorem x_throw (hfl : l.flags = flags0) (hC : xC p s m args meth c cc "RedactCheck" nL G (xA M0 sz)) (hno : c.exceptionTable.toList = []) (hw : xWd G (xA M0 sz) s.heap M H locs) {X tx : String} {ia ib ic : Nat}
    (hcl : Cond.classLink "RedactCheck" ia X ∈ x_tbl) (hins : Cond.instantiable X 6 ∈ x_tbl) (hini : Cond.initialized X ∈ x_tbl) (hstr : ("RedactCheck", ib, tx) ∈ x_strs) (hX : Bundle.fit X = true) (hat : ∀ a ∈ Bundle.ownAtoms "RedactCheck" ic X ["java/lang/RuntimeException", "java/lang/Exception"], a ∈ x_tbl ∨ a ∈ x_stw)
    (hd0 : decode cc pc = .ok (.new ia, 3)) (hd3 : decode cc (pc + 3) = .ok (.dup, 1)) (hd4 : decode cc (pc + 3 + 1) = .ok (.ldc ib, 2)) (hd6 : decode cc (pc + 3 + 1 + 2) = .ok (.invokespecial ic, 3)) (hd9 : decode cc (pc + 3 + 1 + 2 + 3) = .ok (.athrow, 1))
    (hsz : ls.size = nL) (hRf : 5 < R.frames) (hRl : (rest.map fun v => v.category).sum + 82 ≤ R.locals) (hRc : cells + 1 ≤ R.cells) (hRs : slots + 6 ≤ R.slots) (hp : th X M) (hc : cells + 1 ≤ mc) (hs : slots + 6 ≤ ms) :
    W p l e R s m args below meth c H locs cells slots (xMQ below G M0 sz rt th s mc ms) (F0 m pc ls rest) := by
  intro T hT X0
  have Xr := x_root X0 (by omega) (by omega)
  have hts : ∀ w ∈ x_tbl, w.before args ({ s with heap := T.heap, slotsUsed := T.slotsUsed } : State) = true := fun w h => x_tab (s := s) (U := { s with heap := T.heap, slotsUsed := T.slotsUsed }) h rfl (hC.w w h)
  have hfz := hC.z.next (U := { s with heap := T.heap, slotsUsed := T.slotsUsed }) (B := fun _ => False) (State.WarmedH.refl s) (fun q h1 h2 => by show T.heap[q]? = _; rw [hT]; exact hw.S.2.1 q h1 h2) (fun _ h => h.elim) (fun _ _ _ _ h => h)
  obtain ⟨q, hq⟩ := hfz.2.2.2.2.1 _ hstr
  have K := x_throw0 (p := p) (l := l) (e := e) (R := { R with cells := R.cells - cells, slots := R.slots - slots }) (s := { s with heap := T.heap, slotsUsed := T.slotsUsed }) (m := m) (args := args) (below := below) (meth := meth) (c := c) (H := H) (ls := ls) (rest := rest) hfl hC.x hC.b hC.o hC.n hC.lk hts hfz.2.2.2.1 hno (Nat.le_of_eq (congrArg Array.size hT)) hcl hins hini hq hX hat hd0 hd3 hd4 hd6 hd9 hsz hRf hRl (Nat.le_sub_of_add_le (by rw [Nat.add_comm]; exact hRc)) (Nat.le_sub_of_add_le (by rw [Nat.add_comm]; exact hRs))
  obtain ⟨t, st, ce, h2, h3, h4, h5, h6, h7, h8⟩ := K T hT Xr
  have hkeep : ∀ (a : Nat) (cell : Cell), H[a]? = some cell → t.heap[a]? = some cell := by
    intro a cell ha
    obtain ⟨c', g1, g2, g3, g4⟩ := h5.2.2.2.2.2 a cell (by show T.heap[a]? = _; rw [hT]; exact ha)
    have g5 : c'.slots = cell.slots := Array.ext_getElem? (fun i => g4 i (by simp))
    have g6 : c' = cell := by rw [g2, g5]
    rw [← g6]
    exact g1
  have hlt : H.size ≤ t.heap.size := by
    have := h5.2.1
    rw [← hT]
    exact this
  have hkeep2 : ∀ a : Nat, a < H.size → t.heap[a]? = H[a]? := by
    intro a ha
    rw [Array.getElem?_eq_getElem ha]
    exact hkeep a _ (Array.getElem?_eq_getElem ha)
  refine ⟨t, st, .threw H.size, h2, h3, ⟨Or.inr ⟨H.size, X, M, rfl, ⟨ce, h6, by rw [h7]; rfl, by rw [h4.alike.findClass]; exact h8⟩, hp, ?_, fun q h => hw.inA h⟩, ?_⟩, locs, ⟨h4, ?_⟩, hw.S.2.2⟩
  · obtain ⟨L, f, hM, hP, hD⟩ := hw.hp
    exact ⟨L, f, hM, hP.kept (fun k q hk => hkeep2 q.1 (hP k q hk).lt), hD⟩
  · exact ⟨Nat.le_trans hw.S.1 hlt, fun q h1 h2 => by rw [hkeep2 q (Nat.lt_of_lt_of_le h1 hw.S.1)]; exact hw.S.2.1 q h1 h2⟩
  · obtain ⟨e1, -⟩ := id X0.same
    have h9 : (T.setVm s.vm).sameButNew ({ t with vm := s.vm } : State) [] 1 6 := by
      refine ⟨?_, h5.2⟩
      rw [e1]
      show _ = ({ (s.setFrames T.frames).setFrames t.frames with heap := t.heap, slotsUsed := t.slotsUsed } : State)
      rw [State.setFrames_setFrames]
      exact h5.1
    have h10 := X0.same.trans h9
    rw [List.append_nil] at h10
    exact h10.mono hc hs
end XThrow
end
section
/-! catching: the rows of a table whose classes may not be linked yet; contracts of methods with handlers -/
section XCatch
/-- one row: its class is linked (or is being linked); it takes the object, or the search goes on -/
theorem x_row {Q : Handler → Pre} {E : CtlPost} {e : Env} {d : Bool} {acts : List Action} {S : State} {f : JFrame} {x : Addr} {h : ExceptionTableEntry} {t : List ExceptionTableEntry} {ct : ClassId} {cell : Cell} (hx : covers h f.pc = true) (h0 : h.catchType ≠ 0)
    (hl : S.vm.ClassLinks e.platform f.method.cls h.catchType ct) (hcell : S.heap[x]? = some cell) (hobj : ∀ k, cell.vm ≠ .statics k) (hk : ∃ k, S.vm.classes[cell.cls]? = some k) (hc : ∃ k, S.vm.classes[ct]? = some k) (b : Bool) (hb : S.vm.assignable cell.cls ct = b) :
    wp (findHandler.go f x (h :: t)) Q E e d acts S ↔ (if b = true then Q (.found h.handlerPc) d acts (S.setVm (S.vm.noted f.method.cls h.catchType (.cls ct))) else wp (findHandler.go f x t) Q E e d acts (S.setVm (S.vm.noted f.method.cls h.catchType (.cls ct)))) := by
  simp only [covers] at hx
  obtain ⟨ha, ht⟩ := (resolveClass_links e.toSetting hl).op (op := VmOp.resolveClass f.method.cls h.catchType) rfl
  have hal : S.vm.Alike (S.vm.noted f.method.cls h.catchType (.cls ct)) := (Vm.Alike.refl S.vm).noted _ _ _
  obtain ⟨k1, hk1⟩ := hk
  obtain ⟨k2, hk2⟩ := hc
  obtain ⟨k1', hk1', -⟩ := hal.2.2 _ _ hk1
  obtain ⟨k2', hk2', -⟩ := hal.2.2 _ _ hk2
  have hfit : (S.vm.noted f.method.cls h.catchType (.cls ct)).assignable cell.cls ct = b := by rw [hal.assignable]; exact hb
  cases b <;> simp [findHandler.go, hx, h0, ha, ht, hcell, hobj, hk1', hk2', hfit, VmOp.dirties, VmOp.acts]
/-- the search through rows that all cover the place: those ahead don't take the object, this one does -/
theorem x_search {e : Env} {s : State} {f : JFrame} {x : Addr} {cell : Cell} (hobj : ∀ k, cell.vm ≠ .statics k) (hk0 : ∃ k, s.vm.classes[cell.cls]? = some k) (h : ExceptionTableEntry) (t : List ExceptionTableEntry) (hx : covers h f.pc = true) (h0 : h.catchType ≠ 0) {ct : ClassId} (hl : s.vm.ClassLinks e.platform f.method.cls h.catchType ct) (hfit : s.vm.assignable cell.cls ct = true) :
    ∀ (pre : List ExceptionTableEntry) (S : State), s.WarmedH S.vm → S.heap[x]? = some cell → (∀ y ∈ pre, covers y f.pc = true ∧ y.catchType ≠ 0 ∧ ∃ cy, s.vm.ClassLinks e.platform f.method.cls y.catchType cy ∧ s.vm.assignable cell.cls cy = false) →
      ∃ vm', s.WarmedH vm' ∧ ∀ (Q : Handler → Pre) (E : CtlPost) (d : Bool) (acts : List Action), wp (findHandler.go f x (pre ++ h :: t)) Q E e d acts S ↔ Q (.found h.handlerPc) d acts (S.setVm vm') := by
  obtain ⟨k0, hk0⟩ := hk0
  intro pre
  induction pre with
  | nil =>
    intro S hW hcell _
    obtain ⟨k0', hk0', -⟩ := hW.alike.2.2 _ _ hk0
    obtain ⟨dk, _, _, kt, hd, _, _, _, _, hkt, _, hopen⟩ := hl.here
    obtain ⟨kt', hkt', -⟩ := hW.alike.2.2 _ _ hkt
    refine ⟨_, hW.noted hd hopen (State.rightAt_cls hl), fun Q E d acts => ?_⟩
    rw [List.nil_append, x_row hx h0 (hW.classLinks hl) hcell hobj ⟨k0', hk0'⟩ ⟨kt', hkt'⟩ true (by rw [hW.alike.assignable]; exact hfit), if_pos rfl]
  | cons y ys ih =>
    intro S hW hcell hpass
    obtain ⟨k0', hk0', -⟩ := hW.alike.2.2 _ _ hk0
    obtain ⟨hcy, hy0, cy, hly, hny⟩ := hpass y List.mem_cons_self
    obtain ⟨dk, _, _, kt, hd, _, _, _, _, hkt, _, hopen⟩ := hly.here
    obtain ⟨kt', hkt', -⟩ := hW.alike.2.2 _ _ hkt
    obtain ⟨vm', hW', hq⟩ := ih (S.setVm (S.vm.noted f.method.cls y.catchType (.cls cy))) (hW.noted hd hopen (State.rightAt_cls hly)) hcell (fun z hz => hpass z (List.mem_cons_of_mem _ hz))
    refine ⟨vm', hW', fun Q E d acts => ?_⟩
    rw [List.cons_append, x_row hcy hy0 (hW.classLinks hly) hcell hobj ⟨k0', hk0'⟩ ⟨kt', hkt'⟩ false (by rw [hW.alike.assignable]; exact hny), if_neg (by decide)]
    exact hq Q E d acts
variable {p : Program} {l : Launch} {e : Env} {R : Room} {s : State} {m : MethodId} {args : Array Value} {below : List Frame} {meth : Method} {c : Code} {H : Heap} {locs : List Loc} {cells slots : Nat} {Q : State → Prop}
variable {cc : ByteArray} {own : String} {nL : Nat} {G : xT} {pc : Nat} {ls : Array Slot} {st : List Value} {A : Nat → Prop} {M : xMem}
/-- caught: the walk goes on at the handler -/
theorem x_catch (hC : xC p s m args meth c cc own nL G A) {X Y : String} {x : Addr} (hx : xTh s H X x) (pre : List ExceptionTableEntry) (h : ExceptionTableEntry) (t : List ExceptionTableEntry) (htb : c.exceptionTable.toList = pre ++ h :: t) (hcov : covers h pc = true) (h0 : h.catchType ≠ 0) (hl : Cond.classLink own h.catchType Y ∈ x_tbl) (hfit : Cond.castable X Y ∈ x_tbl)
    (hpass : ∀ y ∈ pre, covers y pc = true ∧ y.catchType ≠ 0 ∧ ∃ Z, Cond.classLink own y.catchType Z ∈ x_tbl ∧ (X, Z) ∈ x_ncs) {hpc : Nat} (hh : h.handlerPc = hpc)
    (k : W p l e R s m args below meth c H locs cells slots Q (F0 m hpc ls [.ref x])) : xWT p l e R s m args below meth c H locs cells slots Q x (F0 m pc ls st) := by
  subst hh
  intro T hT X0
  obtain ⟨cell, q1, q2, q3⟩ := hx
  have hpl : e.platform.magicAccessors = ({} : Platform).magicAccessors := by rw [X0.admits.platform]
  obtain ⟨ct, hct, hclk⟩ := Cond.classLink_spec hC.o (hC.w _ hl) e.platform hpl
  obtain ⟨c0, t0, f1, f2, f3⟩ := Cond.castable_spec (hC.w _ hfit)
  cases q3.symm.trans f1
  cases hct.symm.trans f2
  obtain ⟨k0, hk0, -⟩ := Vm.findClass_spec q3
  obtain ⟨vm', hW', hq⟩ := x_search (e := e) (s := s) (f := F0 m pc ls st) (x := x) (cell := cell) (fun k z => by rw [z] at q2; cases q2) ⟨k0, hk0⟩ h t hcov h0 hclk f3 pre ((T.setTop (F0 m pc ls st)).pushFrame (.throwing x)) X0.warmed (by show T.heap[x]? = _; rw [hT]; exact q1) (fun y hy => by
    obtain ⟨g1, g2, Z, g3, g4⟩ := hpass y hy
    obtain ⟨cz, hcz, hcl⟩ := Cond.classLink_spec hC.o (hC.w _ g3) e.platform hpl
    obtain ⟨c1, t1, r1, r2, r3⟩ := hC.z.2.2.2.2.2.1 _ g4
    cases q3.symm.trans r1
    cases hcz.symm.trans r2
    exact ⟨g1, g2, cz, hcl, r3⟩)
  obtain ⟨t2, a1, b1⟩ := k (T.setVm vm') hT (X0.noted hW')
  refine ⟨t2, ?_, b1⟩
  have hat : At T (F0 m pc ls st).method c below := X0.here
  obtain ⟨hgo, hwi⟩ := hat.throwing x
  refine Steps.head hgo hwi ?_
  rw [stepThread_throwing (frames_entered hat.top _)]
  obtain ⟨g₀, hg0⟩ := Option.isSome_iff_exists.mp hat.top
  obtain ⟨r, hr⟩ := State.topJava?_eq_some.mp hg0
  have hf : ∀ (Q : Handler → Pre) (E : CtlPost) (d : Bool) (acts : List Action), wp (findHandler (F0 m pc ls st) x) Q E e d acts ((T.setTop (F0 m pc ls st)).pushFrame (.throwing x)) ↔ Q (.found h.handlerPc) d acts (((T.setTop (F0 m pc ls st)).pushFrame (.throwing x)).setVm vm') := by
    intro Q E d acts
    rw [W.findHandler_eq X0.method' X0.code, htb]
    exact hq Q E d acts
  have hstep : (stepThrowing e ((T.setTop (F0 m pc ls st)).pushFrame (.throwing x)) x (.java (F0 m pc ls st) :: T.frames.tail)).1 = (((T.setTop (F0 m pc ls st)).pushFrame (.throwing x)).setVm vm').setFrames (.java { F0 m pc ls st with pc := h.handlerPc, stack := [.ref x] } :: T.frames.tail) := by
    simp only [stepThrowing, searchFrame, vmDo]
    generalize hres : Sem.go _ e false [] ((T.setTop (F0 m pc ls st)).pushFrame (.throwing x)) = res
    obtain ⟨as, rfl, ha⟩ := Sem.eq_ok_of hres (a := Handler.found h.handlerPc) (s' := ((T.setTop (F0 m pc ls st)).pushFrame (.throwing x)).setVm vm') (acts' := []) (by simp [hf _ _ _ _])
    rfl
  rw [hstep]
  have he : (((T.setTop (F0 m pc ls st)).pushFrame (.throwing x)).setVm vm').setFrames (.java { F0 m pc ls st with pc := h.handlerPc, stack := [.ref x] } :: T.frames.tail) = (T.setVm vm').setTop (F0 m h.handlerPc ls [.ref x]) := by
    have hr' : (T.setVm vm').frames = .java g₀ :: r := hr
    rw [State.setTop_of_frames _ hr', hr]
    rw [State.pushFrame, State.setTop_of_frames _ hr, State.setFrames_setFrames]
    show ((T.setVm vm').setFrames _).setFrames _ = _
    rw [State.setFrames_setFrames]
    rfl
  rw [he]
  exact a1
end XCatch
section XMH
variable {l : Launch} {G : xT} {y : MethodName} {cc : ByteArray} {maxL : Nat} {ret : Option FieldType} {hh : List (Nat × Nat × Nat × Nat)} {rm : Room} {av : List Value} {M : xMem} {sz : Nat} {rt : Option Value → xMem → Prop} {th : String → xMem → Prop}
/-- a contract from a walk of the body of a method with handlers -/
theorem xMet.ofH (hy : plainName y.cls = true) (hlen : (lg_sl av).length ≤ maxL)
    (body : ∀ (p : Program) (e : Env) (s : State) (m : MethodId) (below : List Frame) (meth : Method) (c : Code) (ls : Array Slot), xC p s m av.toArray meth c cc y.cls maxL G (xA M sz) → meth.sig.returnType = ret → meth.name = y.name → c.exceptionTable.toList = tableOf hh → sz = s.heap.size → xWd G (xA M sz) s.heap M s.heap [] → lv_has ls maxL (lv_args 0 av) →
      W p l e rm s m av.toArray below meth c s.heap [] 0 0 (xMQ below G M sz rt th s rm.cells rm.slots) (F0 m 0 ls [])) : xMet l G y (Cond.codeWith y cc maxL ret hh :: x_tbl) rm av M sz rt th := by
  refine MetFree.of_bodyS (code := cc) (maxLocals := maxL) (ret := ret) hy ?_ ?_
  · intro args s m h hn
    obtain ⟨m9, meth, c, hn9, h1, h2, h3, h4, -, h5, h6, -⟩ := Cond.codeWith_spec (atoms_spec (ws := Cond.codeWith y cc maxL ret hh :: x_tbl) h _ List.mem_cons_self)
    cases hn.symm.trans hn9
    exact ⟨meth, c, h1, h2, h3, h4, h5, h6⟩
  · intro p e s m args below meth c s₁ B hml hP _
    obtain ⟨rfl, hsz, hH, hK, hfz⟩ := hP
    subst hsz
    have hh0 : s₁.heap = s.heap := by rw [B.state]; rfl
    have hts0 := atoms_spec (ws := Cond.codeWith y cc maxL ret hh :: x_tbl) B.pre
    have htb : c.exceptionTable.toList = tableOf hh := by
      obtain ⟨m9, meth9, c9, hn9, h1, h2, -, -, h5, -⟩ := Cond.codeWith_spec (hts0 _ List.mem_cons_self)
      cases B.named.symm.trans hn9
      cases B.method.symm.trans h1
      cases (Stand.of_body B).code.symm.trans h2
      rw [← h5, table_eq]
    have hw : xWd G (xA M s.heap.size) s.heap M s.heap [] := xWd.of hH (fun q h => Or.inl h) va_S.rf (fun q h => Or.inr h)
    have hl := lv_entry av (n := maxL) hlen
    have K := body p e s m below meth c _ ⟨B.exec, B.bytes, findClass_of_methodNamed B.named, fun w h => hts0 w (List.mem_cons_of_mem _ h), hK, hml, B.notSynchronized, hfz⟩ B.returns (name_of_methodNamed B.named B.method).1 htb rfl hw hl
    rw [← lg_entry_eq] at K
    obtain ⟨t, a1, o, b1, b2, b3⟩ := K s₁ hh0 (Stand.of_body B)
    exact ⟨t, o, a1, b1, b2, b3⟩
end XMH
end
section
set_option maxHeartbeats 4000000 in
set_option maxRecDepth 100000 in
/-- Codes.add -/
theorem c_C_add (l : Launch) (G : xT) (M : xMem) (sz : Nat) (q v n : Nat) (f : Nat → Int32) (x : Int32) (hn : n < 60) (h_q : M q = some (.inr (2, [.ref v, .int (nI n)]))) (h_v : M v = some (.inl (G.2.1 0, 60, .inl f))) : xMet l G y_C_add (Cond.code y_C_add b_C_add 2 none :: x_tbl) { frames := 0, cells := 0, slots := 0, locals := 0 } [.ref q, .int x] M sz (fun r M' => r = none ∧ M' q = some (.inr (2, [.ref v, .int (nI (n + 1))])) ∧ M' v = some (.inl (G.2.1 0, 60, .inl (va_up f n x))) ∧ xfr M M' [q, v]) (fun _ _ => False) := by
  refine xMet.of (by decide) (Nat.le_of_ble_eq_true rfl) ?_
  intro p e s m below meth c ls hC hr hnm hno hsz hw hl
  obtain ⟨hx, hb, hown, hts, hK, hml, hlk, hz⟩ := id hC
  have hl : lv_has ls 2 [(0, .ref q), (1, .int x)] := hl
  have hF : xfr M M [q, v] := xfr.rf
  refine lv_aload_n hx hb d_C_add_0 rfl (lv_at hl 0 rfl) ?_
  refine x_get hC hw h_q rfl 1 (by decide) (hts _ k_88) (u_same (hts _ k_89)) rfl d_C_add_1 ?_
  refine lv_if_lt (tgt := 39) hx hb d_C_add_4 (by decide) (fun c_4 => ?_) (fun c_4 => ?_)
  · exact absurd c_4 (nI_pos (by omega))
  · refine lv_aload_n hx hb d_C_add_7 rfl (lv_at hl 0 rfl) ?_
    refine x_get hC hw h_q rfl 1 (by decide) (hts _ k_88) (u_same (hts _ k_89)) rfl d_C_add_8 ?_
    refine lv_aload_n hx hb d_C_add_11 rfl (lv_at hl 0 rfl) ?_
    refine x_get hC hw h_q rfl 0 (by decide) (hts _ k_85) (fun _ h9 => h9) rfl d_C_add_12 ?_
    refine x_alen (v := nI 60) hC hw h_v (t0 := 0) rfl rfl d_C_add_15 ?_
    refine lv_icmp_ge (tgt := 39) hx hb d_C_add_16 (by decide) (fun c_16 => ?_) (fun c_16 => ?_)
    · have c_16 := (nI_leI (by omega) (by omega)).mp c_16
      omega
    · have c_16 := Nat.not_le.mp ((not_congr (nI_leI (by omega) (by omega))).mp c_16)
      refine lv_aload_n hx hb d_C_add_19 rfl (lv_at hl 0 rfl) ?_
      refine x_get hC hw h_q rfl 0 (by decide) (hts _ k_85) (fun _ h9 => h9) rfl d_C_add_20 ?_
      refine lv_aload_n hx hb d_C_add_23 rfl (lv_at hl 0 rfl) ?_
      refine x_get hC hw h_q rfl 1 (by decide) (hts _ k_88) (u_same (hts _ k_89)) rfl d_C_add_24 ?_
      refine lv_iload_n hx hb d_C_add_27 rfl (lv_at hl 1 rfl) ?_
      refine x_iast (j := n) hC hw h_v rfl (rfl) (by omega) (by omega) d_C_add_28 (fun M1 H locs em fr hw => ?_)
      have h_q := (fr _ (x_ne h_q h_v (by intro z; cases z))).trans h_q
      have h_v := em
      have hF := hF.put em fr (Or.inl (by simp))
      refine lv_aload_n hx hb d_C_add_29 rfl (lv_at hl 0 rfl) ?_
      refine lv_dup hx hb d_C_add_30 rfl ?_
      refine x_get hC hw h_q rfl 1 (by decide) (hts _ k_88) (u_same (hts _ k_89)) rfl d_C_add_31 ?_
      refine lv_iconst (v := nI 1) hx hb d_C_add_34 (by decide) ?_
      refine lv_iadd hx hb d_C_add_35 ?_
      refine x_vi (y := nI (n + 1)) (nI_add _ _) ?_
      refine x_put (ty := .int) hC hw h_q rfl 1 (by decide) (hts _ k_88) (u_same (hts _ k_89)) rfl (by decide +kernel) rfl rfl (Nat.le_of_ble_eq_true rfl) d_C_add_36 (fun M2 H locs em fr hw => ?_)
      have em : M2 q = some (.inr (2, [.ref v, .int (nI (n + 1))])) := em
      have h_v := (fr _ (x_ne h_v h_q (by intro z; cases z))).trans h_v
      have h_q := em
      have hF := hF.put em fr (Or.inl (by simp))
      exact x_vret hC hr hw (⟨rfl, h_q, h_v, hF⟩) (Nat.le_of_ble_eq_true rfl) (Nat.le_of_ble_eq_true rfl) d_C_add_39

set_option maxHeartbeats 4000000 in
set_option maxRecDepth 100000 in
/-- Codes.value, within -/
theorem c_C_value (l : Launch) (G : xT) (M : xMem) (sz : Nat) (q v n j : Nat) (f : Nat → Int32) (hn : n ≤ 60) (hj : j < n) (h_q : M q = some (.inr (2, [.ref v, .int (nI n)]))) (h_v : M v = some (.inl (G.2.1 0, 60, .inl f))) : xMet l G y_C_value (Cond.code y_C_value b_C_value 2 (Option.some Jvm.ClassFile.FieldType.int) :: x_tbl) { frames := 0, cells := 0, slots := 0, locals := 0 } [.ref q, .int (nI j)] M sz (fun r M' => r = some (.int (f j)) ∧ M' = M) (fun _ _ => False) := by
  refine xMet.of (by decide) (Nat.le_of_ble_eq_true rfl) ?_
  intro p e s m below meth c ls hC hr hnm hno hsz hw hl
  obtain ⟨hx, hb, hown, hts, hK, hml, hlk, hz⟩ := id hC
  have hl : lv_has ls 2 [(0, .ref q), (1, .int (nI j))] := hl
  refine lv_iload_n hx hb d_C_value_0 rfl (lv_at hl 1 rfl) ?_
  refine lv_if_lt (tgt := 30) hx hb d_C_value_1 (by decide) (fun c_1 => ?_) (fun c_1 => ?_)
  · exact absurd c_1 (nI_pos (by omega))
  · refine lv_iload_n hx hb d_C_value_4 rfl (lv_at hl 1 rfl) ?_
    refine lv_aload_n hx hb d_C_value_5 rfl (lv_at hl 0 rfl) ?_
    refine x_get hC hw h_q rfl 1 (by decide) (hts _ k_88) (u_same (hts _ k_89)) rfl d_C_value_6 ?_
    refine lv_icmp_ge (tgt := 30) hx hb d_C_value_9 (by decide) (fun c_9 => ?_) (fun c_9 => ?_)
    · have c_9 := (nI_leI (by omega) (by omega)).mp c_9
      omega
    · have c_9 := Nat.not_le.mp ((not_congr (nI_leI (by omega) (by omega))).mp c_9)
      refine lv_iload_n hx hb d_C_value_12 rfl (lv_at hl 1 rfl) ?_
      refine lv_aload_n hx hb d_C_value_13 rfl (lv_at hl 0 rfl) ?_
      refine x_get hC hw h_q rfl 0 (by decide) (hts _ k_85) (fun _ h9 => h9) rfl d_C_value_14 ?_
      refine x_alen (v := nI 60) hC hw h_v (t0 := 0) rfl rfl d_C_value_17 ?_
      refine lv_icmp_ge (tgt := 30) hx hb d_C_value_18 (by decide) (fun c_18 => ?_) (fun c_18 => ?_)
      · have c_18 := (nI_leI (by omega) (by omega)).mp c_18
        omega
      · have c_18 := Nat.not_le.mp ((not_congr (nI_leI (by omega) (by omega))).mp c_18)
        refine lv_aload_n hx hb d_C_value_21 rfl (lv_at hl 0 rfl) ?_
        refine x_get hC hw h_q rfl 0 (by decide) (hts _ k_85) (fun _ h9 => h9) rfl d_C_value_22 ?_
        refine lv_iload_n hx hb d_C_value_25 rfl (lv_at hl 1 rfl) ?_
        refine x_iald (j := j) hC hw h_v rfl (rfl) (by omega) (by omega) d_C_value_26 ?_
        refine lv_goto (tgt := 31) hx hb d_C_value_27 (by decide) ?_
        exact x_iret hC hr hw (⟨rfl, rfl⟩) (Nat.le_of_ble_eq_true rfl) (Nat.le_of_ble_eq_true rfl) d_C_value_31

set_option maxHeartbeats 4000000 in
set_option maxRecDepth 100000 in
/-- Codes.put -/
theorem c_C_put (l : Launch) (G : xT) (M : xMem) (sz : Nat) (q v j : Nat) (n x : Int32) (f : Nat → Int32) (hj : j < 60) (h_q : M q = some (.inr (2, [.ref v, .int n]))) (h_v : M v = some (.inl (G.2.1 0, 60, .inl f))) : xMet l G y_C_put (Cond.code y_C_put b_C_put 3 none :: x_tbl) { frames := 0, cells := 0, slots := 0, locals := 0 } [.ref q, .int (nI j), .int x] M sz (fun r M' => r = none ∧ M' q = some (.inr (2, [.ref v, .int n])) ∧ M' v = some (.inl (G.2.1 0, 60, .inl (va_up f j x))) ∧ xfr M M' [q, v]) (fun _ _ => False) := by
  refine xMet.of (by decide) (Nat.le_of_ble_eq_true rfl) ?_
  intro p e s m below meth c ls hC hr hnm hno hsz hw hl
  obtain ⟨hx, hb, hown, hts, hK, hml, hlk, hz⟩ := id hC
  have hl : lv_has ls 3 [(0, .ref q), (1, .int (nI j)), (2, .int x)] := hl
  have hF : xfr M M [q, v] := xfr.rf
  refine lv_iload_n hx hb d_C_put_0 rfl (lv_at hl 1 rfl) ?_
  refine lv_if_lt (tgt := 20) hx hb d_C_put_1 (by decide) (fun c_1 => ?_) (fun c_1 => ?_)
  · exact absurd c_1 (nI_pos (by omega))
  · refine lv_iload_n hx hb d_C_put_4 rfl (lv_at hl 1 rfl) ?_
    refine lv_aload_n hx hb d_C_put_5 rfl (lv_at hl 0 rfl) ?_
    refine x_get hC hw h_q rfl 0 (by decide) (hts _ k_85) (fun _ h9 => h9) rfl d_C_put_6 ?_
    refine x_alen (v := nI 60) hC hw h_v (t0 := 0) rfl rfl d_C_put_9 ?_
    refine lv_icmp_ge (tgt := 20) hx hb d_C_put_10 (by decide) (fun c_10 => ?_) (fun c_10 => ?_)
    · have c_10 := (nI_leI (by omega) (by omega)).mp c_10
      omega
    · have c_10 := Nat.not_le.mp ((not_congr (nI_leI (by omega) (by omega))).mp c_10)
      refine lv_aload_n hx hb d_C_put_13 rfl (lv_at hl 0 rfl) ?_
      refine x_get hC hw h_q rfl 0 (by decide) (hts _ k_85) (fun _ h9 => h9) rfl d_C_put_14 ?_
      refine lv_iload_n hx hb d_C_put_17 rfl (lv_at hl 1 rfl) ?_
      refine lv_iload_n hx hb d_C_put_18 rfl (lv_at hl 2 rfl) ?_
      refine x_iast (j := j) hC hw h_v rfl (rfl) (by omega) (by omega) d_C_put_19 (fun M1 H locs em fr hw => ?_)
      have h_q := (fr _ (x_ne h_q h_v (by intro z; cases z))).trans h_q
      have h_v := em
      have hF := hF.put em fr (Or.inl (by simp))
      exact x_vret hC hr hw (⟨rfl, h_q, h_v, hF⟩) (Nat.le_of_ble_eq_true rfl) (Nat.le_of_ble_eq_true rfl) d_C_put_20

set_option maxHeartbeats 4000000 in
set_option maxRecDepth 100000 in
/-- C_keep -/
theorem c_C_keep (l : Launch) (G : xT) (M : xMem) (sz : Nat) (q v n i j : Nat) (f : Nat → Int32) (hn : n ≤ 60) (hi : i < n) (hj : j ≤ i) (h_q : M q = some (.inr (2, [.ref v, .int (nI n)]))) (h_v : M v = some (.inl (G.2.1 0, 60, .inl f))) : xMet l G y_C_keep (Cond.code y_C_keep b_C_keep 3 none :: x_tbl) { frames := 1, cells := 0, slots := 0, locals := 22 } [.ref q, .int (nI i), .int (nI j)] M sz (fun r M' => r = none ∧ M' q = some (.inr (2, [.ref v, .int (nI n)])) ∧ M' v = some (.inl (G.2.1 0, 60, .inl (va_up f j (f i)))) ∧ xfr M M' [q, v]) (fun _ _ => False) := by
  refine xMet.of (by decide) (Nat.le_of_ble_eq_true rfl) ?_
  intro p e s m below meth c ls hC hr hnm hno hsz hw hl
  obtain ⟨hx, hb, hown, hts, hK, hml, hlk, hz⟩ := id hC
  have hl : lv_has ls 3 [(0, .ref q), (1, .int (nI i)), (2, .int (nI j))] := hl
  refine lv_aload_n hx hb d_C_keep_0 rfl (lv_at hl 0 rfl) ?_
  refine lv_iload_n hx hb d_C_keep_1 rfl (lv_at hl 2 rfl) ?_
  refine lv_aload_n hx hb d_C_keep_2 rfl (lv_at hl 0 rfl) ?_
  refine lv_iload_n hx hb d_C_keep_3 rfl (lv_at hl 1 rfl) ?_
  refine x_callG hC (c_C_value l G M (Array.size s.heap) q v n i f hn hi h_q h_v) k_251 k_7 ⟨Nat.le_of_ble_eq_true rfl, Nat.le_of_ble_eq_true rfl⟩ ⟨Nat.le_of_ble_eq_true rfl, Nat.le_of_ble_eq_true rfl⟩ hw hl.1 (Nat.le_of_ble_eq_true rfl) d_C_keep_4 (x_ivV hC k_251 k_628 k_249 k_250 (show _ ∧ _ ∧ _ = some 1 from by decide +kernel) (x_recv hC hw h_q rfl) rfl d_C_keep_4) (fun rv M1 H locs hq hw => ?_) (fun _ _ _ _ _ h _ _ => h.elim)
  obtain ⟨rfl, hM⟩ := hq
  subst M1
  refine W.eq (g2 := F0 m 7 ls [.int (f i), .int (nI j), .ref q]) rfl ?_
  refine x_callG hC (c_C_put l G M (Array.size H) q v j (nI n) (f i) f (by omega) h_q h_v) k_632 k_7 ⟨Nat.le_of_ble_eq_true rfl, Nat.le_of_ble_eq_true rfl⟩ ⟨Nat.le_of_ble_eq_true rfl, Nat.le_of_ble_eq_true rfl⟩ hw hl.1 (Nat.le_of_ble_eq_true rfl) d_C_keep_7 (x_ivV hC k_632 k_629 k_631 kp_17 (show _ ∧ _ ∧ _ = some 2 from by decide +kernel) (x_recv hC hw h_q rfl) rfl d_C_keep_7) (fun rv M2 H locs hq hw => ?_) (fun _ _ _ _ _ h _ _ => h.elim)
  obtain ⟨rfl, h_q, h_v, fr⟩ := hq
  refine W.eq (g2 := F0 m 10 ls []) rfl ?_
  exact x_vret hC hr hw (⟨rfl, h_q, h_v, fr⟩) (Nat.le_of_ble_eq_true rfl) (Nat.le_of_ble_eq_true rfl) d_C_keep_10

set_option maxHeartbeats 4000000 in
set_option maxRecDepth 100000 in
/-- C_blot -/
theorem c_C_blot (l : Launch) (G : xT) (M : xMem) (sz : Nat) (q v n i j : Nat) (f : Nat → Int32) (hn : n ≤ 60) (hi : i < n) (hj : j ≤ i) (h_q : M q = some (.inr (2, [.ref v, .int (nI n)]))) (h_v : M v = some (.inl (G.2.1 0, 60, .inl f))) : xMet l G y_C_blot (Cond.code y_C_blot b_C_blot 3 none :: x_tbl) { frames := 1, cells := 0, slots := 0, locals := 22 } [.ref q, .int (nI i), .int (nI j)] M sz (fun r M' => r = none ∧ M' q = some (.inr (2, [.ref v, .int (nI n)])) ∧ M' v = some (.inl (G.2.1 0, 60, .inl (va_up f j (nI 42)))) ∧ xfr M M' [q, v]) (fun _ _ => False) := by
  refine xMet.of (by decide) (Nat.le_of_ble_eq_true rfl) ?_
  intro p e s m below meth c ls hC hr hnm hno hsz hw hl
  obtain ⟨hx, hb, hown, hts, hK, hml, hlk, hz⟩ := id hC
  have hl : lv_has ls 3 [(0, .ref q), (1, .int (nI i)), (2, .int (nI j))] := hl
  refine lv_aload_n hx hb d_C_blot_0 rfl (lv_at hl 0 rfl) ?_
  refine lv_iload_n hx hb d_C_blot_1 rfl (lv_at hl 2 rfl) ?_
  refine lv_bipush (v := nI 42) hx hb d_C_blot_2 (by decide) ?_
  refine x_callG hC (c_C_put l G M (Array.size s.heap) q v j (nI n) (nI 42) f (by omega) h_q h_v) k_632 k_7 ⟨Nat.le_of_ble_eq_true rfl, Nat.le_of_ble_eq_true rfl⟩ ⟨Nat.le_of_ble_eq_true rfl, Nat.le_of_ble_eq_true rfl⟩ hw hl.1 (Nat.le_of_ble_eq_true rfl) d_C_blot_4 (x_ivV hC k_632 k_629 k_631 kp_17 (show _ ∧ _ ∧ _ = some 2 from by decide +kernel) (x_recv hC hw h_q rfl) rfl d_C_blot_4) (fun rv M1 H locs hq hw => ?_) (fun _ _ _ _ _ h _ _ => h.elim)
  obtain ⟨rfl, h_q, h_v, fr⟩ := hq
  refine W.eq (g2 := F0 m 7 ls []) rfl ?_
  exact x_vret hC hr hw (⟨rfl, h_q, h_v, fr⟩) (Nat.le_of_ble_eq_true rfl) (Nat.le_of_ble_eq_true rfl) d_C_blot_7
end
section
def rowUp (f : Nat → Int32) (i : Nat) (a b c d : Int32) : Nat → Int32 := va_up (va_up (va_up (va_up f (i * 4 + 0) a) (i * 4 + 1) b) (i * 4 + 2) c) (i * 4 + 3) d
set_option maxHeartbeats 4000000 in
set_option maxRecDepth 100000 in
/-- SignRow.part, within -/
theorem c_S_part (l : Launch) (G : xT) (M : xMem) (sz : Nat) (r pa i w : Nat) (n num : Int32) (f : Nat → Int32) (hi : i < 40) (hw4 : w < 4) (h_r : M r = some (.inr (1, [.int num, .ref pa, .int n]))) (h_p : M pa = some (.inl (G.2.1 0, 160, .inl f))) : xMet l G y_S_part (Cond.code y_S_part b_S_part 3 (Option.some Jvm.ClassFile.FieldType.int) :: x_tbl) { frames := 0, cells := 0, slots := 0, locals := 0 } [.ref r, .int (nI i), .int (nI w)] M sz (fun v M' => v = some (.int (f (i * 4 + w))) ∧ M' = M) (fun _ _ => False) := by
  refine xMet.of (by decide) (Nat.le_of_ble_eq_true rfl) ?_
  intro p e s m below meth c ls hC hr hnm hno hsz hw hl
  obtain ⟨hx, hb, hown, hts, hK, hml, hlk, hz⟩ := id hC
  have hl : lv_has ls 3 [(0, .ref r), (1, .int (nI i)), (2, .int (nI w))] := hl
  refine lv_iload_n hx hb d_S_part_0 rfl (lv_at hl 1 rfl) ?_
  refine lv_if_lt (tgt := 19) hx hb d_S_part_1 (by decide) (fun c_1 => ?_) (fun c_1 => ?_)
  · exact absurd c_1 (nI_pos (by omega))
  · refine lv_iload_n hx hb d_S_part_4 rfl (lv_at hl 1 rfl) ?_
    refine lv_bipush (v := nI 40) hx hb d_S_part_5 (by decide) ?_
    refine lv_icmp_ge (tgt := 19) hx hb d_S_part_7 (by decide) (fun c_7 => ?_) (fun c_7 => ?_)
    · have c_7 := (nI_leI (by omega) (by omega)).mp c_7
      omega
    · have c_7 := Nat.not_le.mp ((not_congr (nI_leI (by omega) (by omega))).mp c_7)
      refine lv_iload_n hx hb d_S_part_10 rfl (lv_at hl 2 rfl) ?_
      refine lv_if_lt (tgt := 19) hx hb d_S_part_11 (by decide) (fun c_11 => ?_) (fun c_11 => ?_)
      · exact absurd c_11 (nI_pos (by omega))
      · refine lv_iload_n hx hb d_S_part_14 rfl (lv_at hl 2 rfl) ?_
        refine lv_iconst (v := nI 4) hx hb d_S_part_15 (by decide) ?_
        refine lv_icmp_lt (tgt := 21) hx hb d_S_part_16 (by decide) (fun c_16 => ?_) (fun c_16 => ?_)
        · have c_16 := (nI_ltI (by omega) (by omega)).mp c_16
          refine lv_aload_n hx hb d_S_part_21 rfl (lv_at hl 0 rfl) ?_
          refine x_get hC hw h_r rfl 1 (by decide) (hts _ k_109) (fun _ h9 => h9) rfl d_S_part_22 ?_
          refine lv_iload_n hx hb d_S_part_25 rfl (lv_at hl 1 rfl) ?_
          refine lv_iconst (v := nI 4) hx hb d_S_part_26 (by decide) ?_
          refine lv_imul hx hb d_S_part_27 ?_
          refine x_vi (y := nI (i * 4)) (pk_mul _ _) ?_
          refine lv_iload_n hx hb d_S_part_28 rfl (lv_at hl 2 rfl) ?_
          refine lv_iadd hx hb d_S_part_29 ?_
          refine x_vi (y := nI ((i * 4) + w)) (nI_add _ _) ?_
          refine x_iald (j := ((i * 4) + w)) hC hw h_p rfl (rfl) (by omega) (by omega) d_S_part_30 ?_
          exact x_iret hC hr hw (⟨rfl, rfl⟩) (Nat.le_of_ble_eq_true rfl) (Nat.le_of_ble_eq_true rfl) d_S_part_31
        · have c_16 := Nat.not_lt.mp ((not_congr (nI_ltI (by omega) (by omega))).mp c_16)
          omega

set_option maxHeartbeats 4000000 in
set_option maxRecDepth 100000 in
/-- SignRow.put, within -/
theorem c_S_put (l : Launch) (G : xT) (M : xMem) (sz : Nat) (r pa i : Nat) (n num a0 a1 a2 a3 : Int32) (f : Nat → Int32) (hi : i < 40) (h_r : M r = some (.inr (1, [.int num, .ref pa, .int n]))) (h_p : M pa = some (.inl (G.2.1 0, 160, .inl f))) : xMet l G y_S_put (Cond.code y_S_put b_S_put 7 none :: x_tbl) { frames := 0, cells := 0, slots := 0, locals := 0 } [.ref r, .int (nI i), .int a0, .int a1, .int a2, .int a3] M sz (fun v M' => v = none ∧ M' r = some (.inr (1, [.int num, .ref pa, .int n])) ∧ M' pa = some (.inl (G.2.1 0, 160, .inl (rowUp f i a0 a1 a2 a3))) ∧ xfr M M' [r, pa]) (fun _ _ => False) := by
  refine xMet.of (by decide) (Nat.le_of_ble_eq_true rfl) ?_
  intro p e s m below meth c ls hC hr hnm hno hsz hw hl
  obtain ⟨hx, hb, hown, hts, hK, hml, hlk, hz⟩ := id hC
  have hl : lv_has ls 7 [(0, .ref r), (1, .int (nI i)), (2, .int a0), (3, .int a1), (4, .int a2), (5, .int a3)] := hl
  have hF : xfr M M [r, pa] := xfr.rf
  refine lv_iload_n hx hb d_S_put_0 rfl (lv_at hl 1 rfl) ?_
  refine lv_if_lt (tgt := 10) hx hb d_S_put_1 (by decide) (fun c_1 => ?_) (fun c_1 => ?_)
  · exact absurd c_1 (nI_pos (by omega))
  · refine lv_iload_n hx hb d_S_put_4 rfl (lv_at hl 1 rfl) ?_
    refine lv_bipush (v := nI 40) hx hb d_S_put_5 (by decide) ?_
    refine lv_icmp_lt (tgt := 11) hx hb d_S_put_7 (by decide) (fun c_7 => ?_) (fun c_7 => ?_)
    · have c_7 := (nI_ltI (by omega) (by omega)).mp c_7
      refine lv_iload_n hx hb d_S_put_11 rfl (lv_at hl 1 rfl) ?_
      refine lv_iconst (v := nI 4) hx hb d_S_put_12 (by decide) ?_
      refine lv_imul hx hb d_S_put_13 ?_
      refine x_vi (y := nI (i * 4)) (pk_mul _ _) ?_
      refine lv_istore (lv' := [(6, .int (nI (i * 4))), (0, .ref r), (1, .int (nI i)), (2, .int a0), (3, .int a1), (4, .int a2), (5, .int a3)]) hx hb d_S_put_14 hl (by decide) rfl (fun ls hl => ?_)
      refine lv_aload_n hx hb d_S_put_16 rfl (lv_at hl 1 rfl) ?_
      refine x_get hC hw h_r rfl 1 (by decide) (hts _ k_109) (fun _ h9 => h9) rfl d_S_put_17 ?_
      refine lv_iload hx hb d_S_put_20 (lv_at hl 0 rfl) ?_
      refine lv_iconst (v := nI 0) hx hb d_S_put_22 (by decide) ?_
      refine lv_iadd hx hb d_S_put_23 ?_
      refine x_vi (y := nI ((i * 4) + 0)) (nI_add _ _) ?_
      refine lv_iload_n hx hb d_S_put_24 rfl (lv_at hl 3 rfl) ?_
      refine x_iast (j := ((i * 4) + 0)) hC hw h_p rfl (rfl) (by omega) (by omega) d_S_put_25 (fun M1 H locs em fr hw => ?_)
      have h_r := (fr _ (x_ne h_r h_p (by intro z; cases z))).trans h_r
      have h_p := em
      have hF := hF.put em fr (Or.inl (by simp))
      refine lv_aload_n hx hb d_S_put_26 rfl (lv_at hl 1 rfl) ?_
      refine x_get hC hw h_r rfl 1 (by decide) (hts _ k_109) (fun _ h9 => h9) rfl d_S_put_27 ?_
      refine lv_iload hx hb d_S_put_30 (lv_at hl 0 rfl) ?_
      refine lv_iconst (v := nI 1) hx hb d_S_put_32 (by decide) ?_
      refine lv_iadd hx hb d_S_put_33 ?_
      refine x_vi (y := nI ((i * 4) + 1)) (nI_add _ _) ?_
      refine lv_iload_n hx hb d_S_put_34 rfl (lv_at hl 4 rfl) ?_
      refine x_iast (j := ((i * 4) + 1)) hC hw h_p rfl (rfl) (by omega) (by omega) d_S_put_35 (fun M2 H locs em fr hw => ?_)
      have h_r := (fr _ (x_ne h_r h_p (by intro z; cases z))).trans h_r
      have h_p := em
      have hF := hF.put em fr (Or.inl (by simp))
      refine lv_aload_n hx hb d_S_put_36 rfl (lv_at hl 1 rfl) ?_
      refine x_get hC hw h_r rfl 1 (by decide) (hts _ k_109) (fun _ h9 => h9) rfl d_S_put_37 ?_
      refine lv_iload hx hb d_S_put_40 (lv_at hl 0 rfl) ?_
      refine lv_iconst (v := nI 2) hx hb d_S_put_42 (by decide) ?_
      refine lv_iadd hx hb d_S_put_43 ?_
      refine x_vi (y := nI ((i * 4) + 2)) (nI_add _ _) ?_
      refine lv_iload hx hb d_S_put_44 (lv_at hl 5 rfl) ?_
      refine x_iast (j := ((i * 4) + 2)) hC hw h_p rfl (rfl) (by omega) (by omega) d_S_put_46 (fun M3 H locs em fr hw => ?_)
      have h_r := (fr _ (x_ne h_r h_p (by intro z; cases z))).trans h_r
      have h_p := em
      have hF := hF.put em fr (Or.inl (by simp))
      refine lv_aload_n hx hb d_S_put_47 rfl (lv_at hl 1 rfl) ?_
      refine x_get hC hw h_r rfl 1 (by decide) (hts _ k_109) (fun _ h9 => h9) rfl d_S_put_48 ?_
      refine lv_iload hx hb d_S_put_51 (lv_at hl 0 rfl) ?_
      refine lv_iconst (v := nI 3) hx hb d_S_put_53 (by decide) ?_
      refine lv_iadd hx hb d_S_put_54 ?_
      refine x_vi (y := nI ((i * 4) + 3)) (nI_add _ _) ?_
      refine lv_iload hx hb d_S_put_55 (lv_at hl 6 rfl) ?_
      refine x_iast (j := ((i * 4) + 3)) hC hw h_p rfl (rfl) (by omega) (by omega) d_S_put_57 (fun M4 H locs em fr hw => ?_)
      have h_r := (fr _ (x_ne h_r h_p (by intro z; cases z))).trans h_r
      have h_p := em
      have hF := hF.put em fr (Or.inl (by simp))
      exact x_vret hC hr hw (⟨rfl, h_r, h_p, hF⟩) (Nat.le_of_ble_eq_true rfl) (Nat.le_of_ble_eq_true rfl) d_S_put_58
    · have c_7 := Nat.not_lt.mp ((not_congr (nI_ltI (by omega) (by omega))).mp c_7)
      omega

set_option maxHeartbeats 4000000 in
set_option maxRecDepth 100000 in
/-- SignRow.add, with room -/
theorem c_S_add (l : Launch) (G : xT) (M : xMem) (sz : Nat) (r pa n : Nat) (num a0 a1 a2 a3 : Int32) (f : Nat → Int32) (hn : n < 40) (h_r : M r = some (.inr (1, [.int num, .ref pa, .int (nI n)]))) (h_p : M pa = some (.inl (G.2.1 0, 160, .inl f))) : xMet l G y_S_add (Cond.code y_S_add b_S_add 5 none :: x_tbl) { frames := 1, cells := 0, slots := 0, locals := 26 } [.ref r, .int a0, .int a1, .int a2, .int a3] M sz (fun v M' => v = none ∧ M' r = some (.inr (1, [.int num, .ref pa, .int (nI (n + 1))])) ∧ M' pa = some (.inl (G.2.1 0, 160, .inl (rowUp f n a0 a1 a2 a3))) ∧ xfr M M' [r, pa]) (fun _ _ => False) := by
  refine xMet.of (by decide) (Nat.le_of_ble_eq_true rfl) ?_
  intro p e s m below meth c ls hC hr hnm hno hsz hw hl
  obtain ⟨hx, hb, hown, hts, hK, hml, hlk, hz⟩ := id hC
  have hl : lv_has ls 5 [(0, .ref r), (1, .int a0), (2, .int a1), (3, .int a2), (4, .int a3)] := hl
  have hF : xfr M M [r, pa] := xfr.rf
  refine lv_aload_n hx hb d_S_add_0 rfl (lv_at hl 0 rfl) ?_
  refine x_get hC hw h_r rfl 2 (by decide) (hts _ k_86) (u_same (hts _ k_87)) rfl d_S_add_1 ?_
  refine lv_bipush (v := nI 40) hx hb d_S_add_4 (by decide) ?_
  refine lv_icmp_ge (tgt := 32) hx hb d_S_add_6 (by decide) (fun c_6 => ?_) (fun c_6 => ?_)
  · have c_6 := (nI_leI (by omega) (by omega)).mp c_6
    omega
  · have c_6 := Nat.not_le.mp ((not_congr (nI_leI (by omega) (by omega))).mp c_6)
    refine lv_aload_n hx hb d_S_add_9 rfl (lv_at hl 0 rfl) ?_
    refine lv_aload_n hx hb d_S_add_10 rfl (lv_at hl 0 rfl) ?_
    refine x_get hC hw h_r rfl 2 (by decide) (hts _ k_86) (u_same (hts _ k_87)) rfl d_S_add_11 ?_
    refine lv_iload_n hx hb d_S_add_14 rfl (lv_at hl 1 rfl) ?_
    refine lv_iload_n hx hb d_S_add_15 rfl (lv_at hl 2 rfl) ?_
    refine lv_iload_n hx hb d_S_add_16 rfl (lv_at hl 3 rfl) ?_
    refine lv_iload hx hb d_S_add_17 (lv_at hl 4 rfl) ?_
    refine x_callG hC (c_S_put l G M (Array.size s.heap) r pa n (nI n) num a0 a1 a2 a3 f (by omega) h_r h_p) k_415 k_8 ⟨Nat.le_of_ble_eq_true rfl, Nat.le_of_ble_eq_true rfl⟩ ⟨Nat.le_of_ble_eq_true rfl, Nat.le_of_ble_eq_true rfl⟩ hw hl.1 (Nat.le_of_ble_eq_true rfl) d_S_add_19 (x_ivV hC k_415 k_412 k_414 kp_7 (show _ ∧ _ ∧ _ = some 5 from by decide +kernel) (x_recv hC hw h_r rfl) rfl d_S_add_19) (fun rv M1 H locs hq hw => ?_) (fun _ _ _ _ _ h _ _ => h.elim)
    obtain ⟨rfl, h_r, h_p, fr⟩ := hq
    have hF := fr
    refine W.eq (g2 := F0 m 22 ls []) rfl ?_
    refine lv_aload_n hx hb d_S_add_22 rfl (lv_at hl 0 rfl) ?_
    refine lv_dup hx hb d_S_add_23 rfl ?_
    refine x_get hC hw h_r rfl 2 (by decide) (hts _ k_86) (u_same (hts _ k_87)) rfl d_S_add_24 ?_
    refine lv_iconst (v := nI 1) hx hb d_S_add_27 (by decide) ?_
    refine lv_iadd hx hb d_S_add_28 ?_
    refine x_vi (y := nI (n + 1)) (nI_add _ _) ?_
    refine x_put (ty := .int) hC hw h_r rfl 2 (by decide) (hts _ k_86) (u_same (hts _ k_87)) rfl (by decide +kernel) rfl rfl (Nat.le_of_ble_eq_true rfl) d_S_add_29 (fun M2 H locs em fr hw => ?_)
    have em : M2 r = some (.inr (1, [.int num, .ref pa, .int (nI (n + 1))])) := em
    have h_p := (fr _ (x_ne h_p h_r (by intro z; cases z))).trans h_p
    have h_r := em
    have hF := hF.put em fr (Or.inl (by simp))
    exact x_vret hC hr hw (⟨rfl, h_r, h_p, hF⟩) (Nat.le_of_ble_eq_true rfl) (Nat.le_of_ble_eq_true rfl) d_S_add_32

set_option maxHeartbeats 4000000 in
set_option maxRecDepth 100000 in
/-- S_keep -/
theorem c_S_keep (l : Launch) (G : xT) (M : xMem) (sz : Nat) (r pa n i j : Nat) (num : Int32) (f : Nat → Int32) (hn : n ≤ 40) (hi : i < n) (hj : j ≤ i) (h_r : M r = some (.inr (1, [.int num, .ref pa, .int (nI n)]))) (h_p : M pa = some (.inl (G.2.1 0, 160, .inl f))) : xMet l G y_S_keep (Cond.code y_S_keep b_S_keep 3 none :: x_tbl) { frames := 1, cells := 0, slots := 0, locals := 26 } [.ref r, .int (nI i), .int (nI j)] M sz (fun v M' => v = none ∧ M' r = some (.inr (1, [.int num, .ref pa, .int (nI n)])) ∧ M' pa = some (.inl (G.2.1 0, 160, .inl (rowUp f j (f (i * 4 + 0)) (f (i * 4 + 1)) (f (i * 4 + 2)) (f (i * 4 + 3))))) ∧ xfr M M' [r, pa]) (fun _ _ => False) := by
  refine xMet.of (by decide) (Nat.le_of_ble_eq_true rfl) ?_
  intro p e s m below meth c ls hC hr hnm hno hsz hw hl
  obtain ⟨hx, hb, hown, hts, hK, hml, hlk, hz⟩ := id hC
  have hl : lv_has ls 3 [(0, .ref r), (1, .int (nI i)), (2, .int (nI j))] := hl
  refine lv_aload_n hx hb d_S_keep_0 rfl (lv_at hl 0 rfl) ?_
  refine lv_iload_n hx hb d_S_keep_1 rfl (lv_at hl 2 rfl) ?_
  refine lv_aload_n hx hb d_S_keep_2 rfl (lv_at hl 0 rfl) ?_
  refine lv_iload_n hx hb d_S_keep_3 rfl (lv_at hl 1 rfl) ?_
  refine lv_iconst (v := nI 0) hx hb d_S_keep_4 (by decide) ?_
  refine x_callG hC (c_S_part l G M (Array.size s.heap) r pa i 0 (nI n) num f (by omega) (by omega) h_r h_p) k_234 k_8 ⟨Nat.le_of_ble_eq_true rfl, Nat.le_of_ble_eq_true rfl⟩ ⟨Nat.le_of_ble_eq_true rfl, Nat.le_of_ble_eq_true rfl⟩ hw hl.1 (Nat.le_of_ble_eq_true rfl) d_S_keep_5 (x_ivV hC k_234 k_231 k_232 k_233 (show _ ∧ _ ∧ _ = some 2 from by decide +kernel) (x_recv hC hw h_r rfl) rfl d_S_keep_5) (fun rv M1 H locs hq hw => ?_) (fun _ _ _ _ _ h _ _ => h.elim)
  obtain ⟨rfl, hM⟩ := hq
  subst M1
  refine W.eq (g2 := F0 m 8 ls [.int (f (i * 4 + 0)), .int (nI j), .ref r]) rfl ?_
  refine lv_aload_n hx hb d_S_keep_8 rfl (lv_at hl 0 rfl) ?_
  refine lv_iload_n hx hb d_S_keep_9 rfl (lv_at hl 1 rfl) ?_
  refine lv_iconst (v := nI 1) hx hb d_S_keep_10 (by decide) ?_
  refine x_callG hC (c_S_part l G M (Array.size H) r pa i 1 (nI n) num f (by omega) (by omega) h_r h_p) k_234 k_8 ⟨Nat.le_of_ble_eq_true rfl, Nat.le_of_ble_eq_true rfl⟩ ⟨Nat.le_of_ble_eq_true rfl, Nat.le_of_ble_eq_true rfl⟩ hw hl.1 (Nat.le_of_ble_eq_true rfl) d_S_keep_11 (x_ivV hC k_234 k_231 k_232 k_233 (show _ ∧ _ ∧ _ = some 2 from by decide +kernel) (x_recv hC hw h_r rfl) rfl d_S_keep_11) (fun rv M2 H locs hq hw => ?_) (fun _ _ _ _ _ h _ _ => h.elim)
  obtain ⟨rfl, hM⟩ := hq
  subst M2
  refine W.eq (g2 := F0 m 14 ls [.int (f (i * 4 + 1)), .int (f (i * 4 + 0)), .int (nI j), .ref r]) rfl ?_
  refine lv_aload_n hx hb d_S_keep_14 rfl (lv_at hl 0 rfl) ?_
  refine lv_iload_n hx hb d_S_keep_15 rfl (lv_at hl 1 rfl) ?_
  refine lv_iconst (v := nI 2) hx hb d_S_keep_16 (by decide) ?_
  refine x_callG hC (c_S_part l G M (Array.size H) r pa i 2 (nI n) num f (by omega) (by omega) h_r h_p) k_234 k_8 ⟨Nat.le_of_ble_eq_true rfl, Nat.le_of_ble_eq_true rfl⟩ ⟨Nat.le_of_ble_eq_true rfl, Nat.le_of_ble_eq_true rfl⟩ hw hl.1 (Nat.le_of_ble_eq_true rfl) d_S_keep_17 (x_ivV hC k_234 k_231 k_232 k_233 (show _ ∧ _ ∧ _ = some 2 from by decide +kernel) (x_recv hC hw h_r rfl) rfl d_S_keep_17) (fun rv M3 H locs hq hw => ?_) (fun _ _ _ _ _ h _ _ => h.elim)
  obtain ⟨rfl, hM⟩ := hq
  subst M3
  refine W.eq (g2 := F0 m 20 ls [.int (f (i * 4 + 2)), .int (f (i * 4 + 1)), .int (f (i * 4 + 0)), .int (nI j), .ref r]) rfl ?_
  refine lv_aload_n hx hb d_S_keep_20 rfl (lv_at hl 0 rfl) ?_
  refine lv_iload_n hx hb d_S_keep_21 rfl (lv_at hl 1 rfl) ?_
  refine lv_iconst (v := nI 3) hx hb d_S_keep_22 (by decide) ?_
  refine x_callG hC (c_S_part l G M (Array.size H) r pa i 3 (nI n) num f (by omega) (by omega) h_r h_p) k_234 k_8 ⟨Nat.le_of_ble_eq_true rfl, Nat.le_of_ble_eq_true rfl⟩ ⟨Nat.le_of_ble_eq_true rfl, Nat.le_of_ble_eq_true rfl⟩ hw hl.1 (Nat.le_of_ble_eq_true rfl) d_S_keep_23 (x_ivV hC k_234 k_231 k_232 k_233 (show _ ∧ _ ∧ _ = some 2 from by decide +kernel) (x_recv hC hw h_r rfl) rfl d_S_keep_23) (fun rv M4 H locs hq hw => ?_) (fun _ _ _ _ _ h _ _ => h.elim)
  obtain ⟨rfl, hM⟩ := hq
  subst M4
  refine W.eq (g2 := F0 m 26 ls [.int (f (i * 4 + 3)), .int (f (i * 4 + 2)), .int (f (i * 4 + 1)), .int (f (i * 4 + 0)), .int (nI j), .ref r]) rfl ?_
  refine x_callG hC (c_S_put l G M (Array.size H) r pa j (nI n) num (f (i * 4 + 0)) (f (i * 4 + 1)) (f (i * 4 + 2)) (f (i * 4 + 3)) f (by omega) h_r h_p) k_415 k_8 ⟨Nat.le_of_ble_eq_true rfl, Nat.le_of_ble_eq_true rfl⟩ ⟨Nat.le_of_ble_eq_true rfl, Nat.le_of_ble_eq_true rfl⟩ hw hl.1 (Nat.le_of_ble_eq_true rfl) d_S_keep_26 (x_ivV hC k_415 k_412 k_414 kp_7 (show _ ∧ _ ∧ _ = some 5 from by decide +kernel) (x_recv hC hw h_r rfl) rfl d_S_keep_26) (fun rv M5 H locs hq hw => ?_) (fun _ _ _ _ _ h _ _ => h.elim)
  obtain ⟨rfl, h_r, h_p, fr⟩ := hq
  refine W.eq (g2 := F0 m 29 ls []) rfl ?_
  exact x_vret hC hr hw (⟨rfl, h_r, h_p, fr⟩) (Nat.le_of_ble_eq_true rfl) (Nat.le_of_ble_eq_true rfl) d_S_keep_29

set_option maxHeartbeats 4000000 in
set_option maxRecDepth 100000 in
/-- S_blot -/
theorem c_S_blot (l : Launch) (G : xT) (M : xMem) (sz : Nat) (r pa n i j : Nat) (num : Int32) (f : Nat → Int32) (hn : n ≤ 40) (hi : i < n) (hj : j ≤ i) (h_r : M r = some (.inr (1, [.int num, .ref pa, .int (nI n)]))) (h_p : M pa = some (.inl (G.2.1 0, 160, .inl f))) : xMet l G y_S_blot (Cond.code y_S_blot b_S_blot 3 none :: x_tbl) { frames := 1, cells := 0, slots := 0, locals := 26 } [.ref r, .int (nI i), .int (nI j)] M sz (fun v M' => v = none ∧ M' r = some (.inr (1, [.int num, .ref pa, .int (nI n)])) ∧ M' pa = some (.inl (G.2.1 0, 160, .inl (rowUp f j (nI 0) (f (i * 4 + 1)) (f (i * 4 + 2)) (nI 100)))) ∧ xfr M M' [r, pa]) (fun _ _ => False) := by
  refine xMet.of (by decide) (Nat.le_of_ble_eq_true rfl) ?_
  intro p e s m below meth c ls hC hr hnm hno hsz hw hl
  obtain ⟨hx, hb, hown, hts, hK, hml, hlk, hz⟩ := id hC
  have hl : lv_has ls 3 [(0, .ref r), (1, .int (nI i)), (2, .int (nI j))] := hl
  refine lv_aload_n hx hb d_S_blot_0 rfl (lv_at hl 0 rfl) ?_
  refine lv_iload_n hx hb d_S_blot_1 rfl (lv_at hl 2 rfl) ?_
  refine lv_iconst (v := nI 0) hx hb d_S_blot_2 (by decide) ?_
  refine lv_aload_n hx hb d_S_blot_3 rfl (lv_at hl 0 rfl) ?_
  refine lv_iload_n hx hb d_S_blot_4 rfl (lv_at hl 1 rfl) ?_
  refine lv_iconst (v := nI 1) hx hb d_S_blot_5 (by decide) ?_
  refine x_callG hC (c_S_part l G M (Array.size s.heap) r pa i 1 (nI n) num f (by omega) (by omega) h_r h_p) k_234 k_8 ⟨Nat.le_of_ble_eq_true rfl, Nat.le_of_ble_eq_true rfl⟩ ⟨Nat.le_of_ble_eq_true rfl, Nat.le_of_ble_eq_true rfl⟩ hw hl.1 (Nat.le_of_ble_eq_true rfl) d_S_blot_6 (x_ivV hC k_234 k_231 k_232 k_233 (show _ ∧ _ ∧ _ = some 2 from by decide +kernel) (x_recv hC hw h_r rfl) rfl d_S_blot_6) (fun rv M1 H locs hq hw => ?_) (fun _ _ _ _ _ h _ _ => h.elim)
  obtain ⟨rfl, hM⟩ := hq
  subst M1
  refine W.eq (g2 := F0 m 9 ls [.int (f (i * 4 + 1)), .int (nI 0), .int (nI j), .ref r]) rfl ?_
  refine lv_aload_n hx hb d_S_blot_9 rfl (lv_at hl 0 rfl) ?_
  refine lv_iload_n hx hb d_S_blot_10 rfl (lv_at hl 1 rfl) ?_
  refine lv_iconst (v := nI 2) hx hb d_S_blot_11 (by decide) ?_
  refine x_callG hC (c_S_part l G M (Array.size H) r pa i 2 (nI n) num f (by omega) (by omega) h_r h_p) k_234 k_8 ⟨Nat.le_of_ble_eq_true rfl, Nat.le_of_ble_eq_true rfl⟩ ⟨Nat.le_of_ble_eq_true rfl, Nat.le_of_ble_eq_true rfl⟩ hw hl.1 (Nat.le_of_ble_eq_true rfl) d_S_blot_12 (x_ivV hC k_234 k_231 k_232 k_233 (show _ ∧ _ ∧ _ = some 2 from by decide +kernel) (x_recv hC hw h_r rfl) rfl d_S_blot_12) (fun rv M2 H locs hq hw => ?_) (fun _ _ _ _ _ h _ _ => h.elim)
  obtain ⟨rfl, hM⟩ := hq
  subst M2
  refine W.eq (g2 := F0 m 15 ls [.int (f (i * 4 + 2)), .int (f (i * 4 + 1)), .int (nI 0), .int (nI j), .ref r]) rfl ?_
  refine lv_bipush (v := nI 100) hx hb d_S_blot_15 (by decide) ?_
  refine x_callG hC (c_S_put l G M (Array.size H) r pa j (nI n) num (nI 0) (f (i * 4 + 1)) (f (i * 4 + 2)) (nI 100) f (by omega) h_r h_p) k_415 k_8 ⟨Nat.le_of_ble_eq_true rfl, Nat.le_of_ble_eq_true rfl⟩ ⟨Nat.le_of_ble_eq_true rfl, Nat.le_of_ble_eq_true rfl⟩ hw hl.1 (Nat.le_of_ble_eq_true rfl) d_S_blot_17 (x_ivV hC k_415 k_412 k_414 kp_7 (show _ ∧ _ ∧ _ = some 5 from by decide +kernel) (x_recv hC hw h_r rfl) rfl d_S_blot_17) (fun rv M3 H locs hq hw => ?_) (fun _ _ _ _ _ h _ _ => h.elim)
  obtain ⟨rfl, h_r, h_p, fr⟩ := hq
  refine W.eq (g2 := F0 m 20 ls []) rfl ?_
  exact x_vret hC hr hw (⟨rfl, h_r, h_p, fr⟩) (Nat.le_of_ble_eq_true rfl) (Nat.le_of_ble_eq_true rfl) d_S_blot_20

theorem x_upto {f g : Nat → Int32} {i : Nat} {y : Int32} (h : ∀ j, j < i → g j = f j) (hy : y = f i) : ∀ j, j < i + 1 → va_up g i y j = f j := by
  intro j hj
  by_cases hz : j = i
  · subst hz
    rw [va_up_self, hy]
  · rw [va_up_ne _ _ hz]
    exact h j (by omega)
set_option maxHeartbeats 4000000 in
set_option maxRecDepth 100000 in
/-- SignRow.readInto -/
theorem c_S_readInto (l : Launch) (G : xT) (M : xMem) (sz : Nat) (r pa q v n : Nat) (num k0 : Int32) (f g0 : Nat → Int32) (hn : n ≤ 40) (hne : pa ≠ v) (h_r : M r = some (.inr (1, [.int num, .ref pa, .int (nI n)]))) (h_p : M pa = some (.inl (G.2.1 0, 160, .inl f))) (h_q : M q = some (.inr (2, [.ref v, .int k0]))) (h_v : M v = some (.inl (G.2.1 0, 60, .inl g0))) : xMet l G y_S_readInto (Cond.code y_S_readInto b_S_readInto 3 none :: x_tbl) { frames := 1, cells := 0, slots := 0, locals := 22 } [.ref r, .ref q] M sz (fun u M' => u = none ∧ (∃ g, (∀ j, j < n → g j = f (j * 4 + 0)) ∧ M' q = some (.inr (2, [.ref v, .int (nI n)])) ∧ M' v = some (.inl (G.2.1 0, 60, .inl g))) ∧ xfr M M' [q, v]) (fun _ _ => False) := by
  refine xMet.of (by decide) (Nat.le_of_ble_eq_true rfl) ?_
  intro p e s m below meth c ls hC hr hnm hno hsz hw hl
  obtain ⟨hx, hb, hown, hts, hK, hml, hlk, hz⟩ := id hC
  have hl : lv_has ls 3 [(0, .ref r), (1, .ref q)] := hl
  have hF : xfr M M [q, v] := xfr.rf
  refine lv_aload_n hx hb d_S_readInto_0 rfl (lv_at hl 1 rfl) ?_
  refine lv_iconst (v := nI 0) hx hb d_S_readInto_1 (by decide) ?_
  refine x_put (ty := .int) hC hw h_q rfl 1 (by decide) (hts _ k_91) (u_same (hts _ k_89)) rfl (by decide +kernel) rfl rfl (Nat.le_of_ble_eq_true rfl) d_S_readInto_2 (fun M1 H locs em fr hw => ?_)
  have em : M1 q = some (.inr (2, [.ref v, .int (nI 0)])) := em
  have h_r := (fr _ (x_ne h_r h_q (by intro z; cases z))).trans h_r
  have h_p := (fr _ (x_ne h_p h_q (by intro z; cases z))).trans h_p
  have h_v := (fr _ (x_ne h_v h_q (by intro z; cases z))).trans h_v
  have h_q := em
  have hF := hF.put em fr (Or.inl (by simp))
  refine lv_iconst (v := nI 0) hx hb d_S_readInto_5 (by decide) ?_
  refine lv_istore_n (lv' := [(2, .int (nI 0)), (0, .ref r), (1, .ref q)]) hx hb d_S_readInto_6 rfl hl (by decide) rfl (fun ls hl => ?_)
  have HL7 : ∀ (z i : Nat) (g : Nat → Int32), i ≤ n → n + 1 ≤ i + z → (∀ j, j < i → g j = f (j * 4 + 0)) → ∀ (M1 : xMem) (H : Heap) (locs : List Loc) (ls : Array Slot), M1 r = some (.inr (1, [.int num, .ref pa, .int (nI n)])) → M1 pa = some (.inl (G.2.1 0, 160, .inl f)) → M1 q = some (.inr (2, [.ref v, .int (nI i)])) → M1 v = some (.inl (G.2.1 0, 60, .inl g)) → xfr M M1 [q, v] → xWd G (xA M sz) s.heap M1 H locs → lv_has ls 3 [(0, .ref r), (1, .ref q), (2, .int (nI i))] → W p l e { frames := 1, cells := 0, slots := 0, locals := 22 } s m ([.ref r, .ref q] : List Value).toArray below meth c H locs 0 0 (xMQ below G M sz (fun u M' => u = none ∧ (∃ g, (∀ j, j < n → g j = f (j * 4 + 0)) ∧ M' q = some (.inr (2, [.ref v, .int (nI n)])) ∧ M' v = some (.inl (G.2.1 0, 60, .inl g))) ∧ xfr M M' [q, v]) (fun _ _ => False) s 0 0) (F0 m 7 ls []) := by
    intro z
    induction z with
    | zero =>
      intro i g h1 h2
      omega
    | succ z ih =>
      intro i g hi hz hg M1 H locs ls h_r h_p h_q h_v hF hw hl
      refine lv_iload_n hx hb d_S_readInto_7 rfl (lv_at hl 2 rfl) ?_
      refine lv_aload_n hx hb d_S_readInto_8 rfl (lv_at hl 0 rfl) ?_
      refine x_get hC hw h_r rfl 2 (by decide) (hts _ k_86) (u_same (hts _ k_87)) rfl d_S_readInto_9 ?_
      refine lv_icmp_ge (tgt := 31) hx hb d_S_readInto_12 (by decide) (fun c_12 => ?_) (fun c_12 => ?_)
      · have c_12 := (nI_leI (by omega) (by omega)).mp c_12
        exact x_vret hC hr hw (⟨rfl, ⟨g, (fun j hj => hg j (by omega)), (by rw [show n = i by omega]; exact h_q), h_v⟩, hF⟩) (Nat.le_of_ble_eq_true rfl) (Nat.le_of_ble_eq_true rfl) d_S_readInto_31
      · have c_12 := Nat.not_le.mp ((not_congr (nI_leI (by omega) (by omega))).mp c_12)
        refine lv_aload_n hx hb d_S_readInto_15 rfl (lv_at hl 1 rfl) ?_
        refine lv_aload_n hx hb d_S_readInto_16 rfl (lv_at hl 0 rfl) ?_
        refine lv_iload_n hx hb d_S_readInto_17 rfl (lv_at hl 2 rfl) ?_
        refine lv_iconst (v := nI 0) hx hb d_S_readInto_18 (by decide) ?_
        refine x_callG hC (c_S_part l G M1 (Array.size H) r pa i 0 (nI n) num f (by omega) (by omega) h_r h_p) k_234 k_8 ⟨Nat.le_of_ble_eq_true rfl, Nat.le_of_ble_eq_true rfl⟩ ⟨Nat.le_of_ble_eq_true rfl, Nat.le_of_ble_eq_true rfl⟩ hw hl.1 (Nat.le_of_ble_eq_true rfl) d_S_readInto_19 (x_ivV hC k_234 k_231 k_232 k_233 (show _ ∧ _ ∧ _ = some 2 from by decide +kernel) (x_recv hC hw h_r rfl) rfl d_S_readInto_19) (fun rv M2 H locs hq hw => ?_) (fun _ _ _ _ _ h _ _ => h.elim)
        obtain ⟨rfl, hM⟩ := hq
        subst M2
        refine W.eq (g2 := F0 m 22 ls [.int (f (i * 4 + 0)), .ref q]) rfl ?_
        have ne_h_r_h_q : r ≠ q := x_ne h_r h_q (by intro z; cases z)
        have ne_h_r_h_v : r ≠ v := x_ne h_r h_v (by intro z; cases z)
        have ne_h_p_h_q : pa ≠ q := x_ne h_p h_q (by intro z; cases z)
        refine x_callG hC (c_C_add l G M1 (Array.size H) q v i g (f (i * 4 + 0)) (by omega) h_q h_v) k_238 k_7 ⟨Nat.le_of_ble_eq_true rfl, Nat.le_of_ble_eq_true rfl⟩ ⟨Nat.le_of_ble_eq_true rfl, Nat.le_of_ble_eq_true rfl⟩ hw hl.1 (Nat.le_of_ble_eq_true rfl) d_S_readInto_22 (x_ivV hC k_238 k_235 k_236 k_237 (show _ ∧ _ ∧ _ = some 1 from by decide +kernel) (x_recv hC hw h_q rfl) rfl d_S_readInto_22) (fun rv M3 H locs hq hw => ?_) (fun _ _ _ _ _ h _ _ => h.elim)
        obtain ⟨rfl, h_q, h_v, fr⟩ := hq
        have hF := hF.trans fr (by intro a ha; exact Or.inl ha)
        have h_r := fr.get h_r (by simp [ne_h_r_h_q, ne_h_r_h_v])
        have h_p := fr.get h_p (by simp [ne_h_p_h_q, hne])
        refine W.eq (g2 := F0 m 25 ls []) rfl ?_
        refine lv_iinc (v := nI (i + 1)) (lv' := [(2, .int (nI (i + 1))), (0, .ref r), (1, .ref q)]) hx hb d_S_readInto_25 hl (k := 2) rfl (by exact nI_1 _) (by decide) rfl (fun ls hl => ?_)
        refine lv_goto (tgt := 7) hx hb d_S_readInto_28 (by decide) ?_
        exact ih (i + 1) (va_up g i (f (i * 4 + 0))) (by omega) (by omega) (x_upto hg rfl) _ _ _ _ h_r h_p h_q h_v hF hw (lv_sub hl [1, 2, 0] rfl)
  exact HL7 (n + 1) (0) (g0) (by omega) (by omega) (fun j hj => absurd hj (Nat.not_lt_zero j)) _ _ _ _ h_r h_p h_q h_v hF hw (lv_sub hl [1, 2, 0] rfl)
end
section
/-! the reference's object: its fields and arrays as two functions of (field, place) -/
noncomputable def zI (P : Prop) : Int32 := @ite Int32 P (Classical.propDecidable P) (nI 1) (nI 0)
theorem zI_t {P : Prop} (h : P) : zI P = nI 1 := by unfold zI; rw [if_pos h]
theorem zI_f {P : Prop} (h : ¬ P) : zI P = nI 0 := by unfold zI; rw [if_neg h]
theorem zI_0 {P : Prop} : zI P = 0 ↔ ¬ P := by
  constructor
  · intro h hp
    rw [zI_t hp] at h
    exact absurd h (by decide +kernel)
  · intro h
    rw [zI_f h]
    exact nI_0
theorem zI_1 {P : Prop} : ¬ zI P = 0 ↔ P := by
  rw [zI_0]
  exact Classical.not_not
theorem zI_c {P Q : Prop} (h : P ↔ Q) : zI P = zI Q := by
  by_cases hp : P
  · rw [zI_t hp, zI_t (h.mp hp)]
  · rw [zI_f hp, zI_f (fun q => hp (h.mpr q))]
theorem zI_j {P Q : Prop} (h : zI P = zI Q) : P ↔ Q := by
  by_cases hq : Q
  · rw [zI_t hq] at h
    have h1 : ¬ zI P = 0 := by rw [h]; decide +kernel
    exact ⟨fun _ => hq, fun _ => zI_1.mp h1⟩
  · rw [zI_f hq] at h
    have h1 : zI P = 0 := by rw [h]; decide +kernel
    exact ⟨fun z => absurd z (zI_0.mp h1), fun z => absurd z hq⟩
theorem zI_nar (P : Prop) : vp_nar .boolean (zI P) = zI P := by
  by_cases hp : P
  · rw [zI_t hp]
    decide +kernel
  · rw [zI_f hp]
    decide +kernel
theorem zI_narV (P : Prop) : narrow .boolean (.int (zI P)) = .int (zI P) := by
  by_cases hp : P
  · rw [zI_t hp]
    decide +kernel
  · rw [zI_f hp]
    decide +kernel
def mIsN (k : Nat) : Bool := k == 1 || k == 9 || k == 13 || k == 23
def mIsZ (k : Nat) : Bool := k == 27 || k == 31
def mIsI (k : Nat) : Bool := k == 2 || k == 3 || k == 4 || k == 5 || k == 8 || k == 10 || k == 11 || k == 14 || k == 16 || k == 17 || k == 18 || k == 19 || k == 20 || k == 22 || k == 24 || k == 26 || k == 28 || k == 30
def mIsA (k : Nat) : Bool := mIsN k || mIsZ k || mIsI k
def mlen (k : Nat) : Nat := match k with
  | 1 => 24
  | 2 => 960
  | 3 => 960
  | 4 => 960
  | 5 => 960
  | 8 => 12
  | 9 => 12
  | 10 => 12
  | 11 => 12
  | 13 => 4
  | 14 => 32
  | 16 => 8
  | 17 => 8
  | 18 => 8
  | 19 => 8
  | 20 => 8
  | 22 => 8
  | 23 => 8
  | 24 => 480
  | 26 => 500
  | 27 => 640
  | 28 => 12
  | 30 => 60
  | _ => 60
def mfs (am : Nat → Nat) (nu : Nat → Nat → Nat) : List Value := [.int (nI (nu 0 0)), .ref (am 1), .ref (am 2), .ref (am 3), .ref (am 4), .ref (am 5), .int (nI (nu 6 0)), .int (nI (nu 7 0)), .ref (am 8), .ref (am 9), .ref (am 10), .ref (am 11), .int (nI (nu 12 0)), .ref (am 13), .ref (am 14), .int (nI (nu 15 0)), .ref (am 16), .ref (am 17), .ref (am 18), .ref (am 19), .ref (am 20), .int (nI (nu 21 0)), .ref (am 22), .ref (am 23), .ref (am 24), .int (nI (nu 25 0)), .ref (am 26), .ref (am 27), .ref (am 28), .int (nI (nu 29 0)), .ref (am 30), .ref (am 31)]
def mfun (nu : Nat → Nat → Nat) (sg : Nat → Nat → Int32) (k : Nat) : Nat → Int32 := if mIsN k = true then fun j => nI (nu k j) else sg k
def mRep (G : xT) (M : xMem) (md : Nat) (am : Nat → Nat) (nu : Nat → Nat → Nat) (sg : Nat → Nat → Int32) : Prop :=
  M md = some (.inr (9, mfs am nu)) ∧ (∀ k, mIsA k = true → M (am k) = some (.inl (G.2.1 (if mIsZ k = true then 4 else 0), mlen k, .inl (mfun nu sg k)))) ∧ ∀ k j, mIsA k = true → mIsA j = true → am k = am j → k = j
def mS (md : Nat) (am : Nat → Nat) : List Nat := [md, am 1, am 2, am 3, am 4, am 5, am 8, am 9, am 10, am 11, am 13, am 14, am 16, am 17, am 18, am 19, am 20, am 22, am 23, am 24, am 26, am 27, am 28, am 30, am 31]
theorem mS_in (md : Nat) (am : Nat → Nat) {k : Nat} (h : mIsA k = true) : am k ∈ mS md am := by
  have hk : k = 1 ∨ k = 2 ∨ k = 3 ∨ k = 4 ∨ k = 5 ∨ k = 8 ∨ k = 9 ∨ k = 10 ∨ k = 11 ∨ k = 13 ∨ k = 14 ∨ k = 16 ∨ k = 17 ∨ k = 18 ∨ k = 19 ∨ k = 20 ∨ k = 22 ∨ k = 23 ∨ k = 24 ∨ k = 26 ∨ k = 27 ∨ k = 28 ∨ k = 30 ∨ k = 31 := by
    simp only [mIsA, mIsN, mIsZ, mIsI, Bool.or_eq_true, beq_iff_eq] at h
    omega
  rcases hk with rfl | rfl | rfl | rfl | rfl | rfl | rfl | rfl | rfl | rfl | rfl | rfl | rfl | rfl | rfl | rfl | rfl | rfl | rfl | rfl | rfl | rfl | rfl | rfl <;> simp [mS]
theorem mIsN_A {k : Nat} (h : mIsN k = true) : mIsA k = true ∧ mIsZ k = false := by
  simp only [mIsA, mIsN, mIsZ, mIsI, Bool.or_eq_true, beq_iff_eq, Bool.or_eq_false_iff] at h ⊢
  refine ⟨by omega, ?_⟩
  rcases h with ((h | h) | h) | h <;> subst h <;> decide
theorem mIsI_A {k : Nat} (h : mIsI k = true) : mIsA k = true ∧ mIsZ k = false ∧ mIsN k = false := by
  simp only [mIsA, mIsI, Bool.or_eq_true, beq_iff_eq] at h ⊢
  refine ⟨by omega, ?_, ?_⟩
  · rw [← Bool.not_eq_true]
    simp only [mIsZ, Bool.or_eq_true, beq_iff_eq]
    omega
  · rw [← Bool.not_eq_true]
    simp only [mIsN, Bool.or_eq_true, beq_iff_eq]
    omega
theorem mIsZ_A {k : Nat} (h : mIsZ k = true) : mIsA k = true ∧ mIsN k = false := by
  simp only [mIsA, mIsZ, Bool.or_eq_true, beq_iff_eq] at h ⊢
  refine ⟨by omega, ?_⟩
  rw [← Bool.not_eq_true]
  simp only [mIsN, Bool.or_eq_true, beq_iff_eq]
  omega
/-- g is f but for the places in L -/
def eqx {α : Type} (L : List Nat) (f g : Nat → α) : Prop := ∀ k, k ∉ L → g k = f k
theorem eqx.rf {α : Type} {L : List Nat} {f : Nat → α} : eqx L f f := fun _ _ => rfl
theorem eqx.up {α : Type} (f : Nat → α) (k : Nat) (v : α) : eqx [k] f (va_up f k v) := fun j hj => va_up_ne _ _ (fun z => hj (by rw [z]; exact List.mem_cons_self))
theorem eqx.trans {α : Type} {L1 L2 L : List Nat} {f g h : Nat → α} (h1 : eqx L1 f g) (h2 : eqx L2 g h) (s1 : ∀ k ∈ L1, k ∈ L) (s2 : ∀ k ∈ L2, k ∈ L) : eqx L f h := fun k hk => (h2 k (fun z => hk (s2 k z))).trans (h1 k (fun z => hk (s1 k z)))
theorem eqx.wide {α : Type} {L1 L : List Nat} {f g : Nat → α} (h1 : eqx L1 f g) (s1 : ∀ k ∈ L1, k ∈ L) : eqx L f g := fun k hk => h1 k (fun z => hk (s1 k z))
section MR
variable {G : xT} {M M1 M0 : xMem} {md : Nat} {am : Nat → Nat} {nu : Nat → Nat → Nat} {sg : Nat → Nat → Int32}
theorem mRep.rN (h : mRep G M md am nu sg) {k : Nat} (hk : mIsN k = true) : M (am k) = some (.inl (G.2.1 0, mlen k, .inl (fun j => nI (nu k j)))) := by
  have e := h.2.1 k (mIsN_A hk).1
  rw [if_neg (by rw [(mIsN_A hk).2]; decide), mfun, if_pos hk] at e
  exact e
theorem mRep.rI (h : mRep G M md am nu sg) {k : Nat} (hk : mIsI k = true) : M (am k) = some (.inl (G.2.1 0, mlen k, .inl (sg k))) := by
  have e := h.2.1 k (mIsI_A hk).1
  rw [if_neg (by rw [(mIsI_A hk).2.1]; decide), mfun, if_neg (by rw [(mIsI_A hk).2.2]; decide)] at e
  exact e
theorem mRep.rZ (h : mRep G M md am nu sg) {k : Nat} (hk : mIsZ k = true) : M (am k) = some (.inl (G.2.1 4, mlen k, .inl (sg k))) := by
  have e := h.2.1 k (mIsZ_A hk).1
  rw [if_pos hk, mfun, if_neg (by rw [(mIsZ_A hk).2]; decide)] at e
  exact e
theorem mRep.ne (h : mRep G M md am nu sg) {k : Nat} (hk : mIsA k = true) : am k ≠ md := x_ne (h.2.1 k hk) h.1 (by intro z; cases z)
theorem mRep.frame {S : List Nat} (h : mRep G M md am nu sg) (hf : xfr M M1 S) (hn : ∀ q ∈ mS md am, q ∉ S) : mRep G M1 md am nu sg :=
  ⟨hf.get h.1 (hn _ List.mem_cons_self), fun k hk => hf.get (h.2.1 k hk) (hn _ (mS_in md am hk)), h.2.2⟩
theorem mRep.setI (h : mRep G M md am nu sg) {k : Nat} (hk : mIsA k = true) (hN : mIsN k = false) {g : Nat → Int32} (em : M1 (am k) = some (.inl (G.2.1 (if mIsZ k = true then 4 else 0), mlen k, .inl g))) (fr : ∀ b, b ≠ am k → M1 b = M b) : mRep G M1 md am nu (va_up sg k g) := by
  refine ⟨(fr md (Ne.symm (h.ne hk))).trans h.1, fun j hj => ?_, h.2.2⟩
  by_cases hz : j = k
  · subst hz
    have e : mfun nu (va_up sg j g) j = g := by
      unfold mfun
      rw [if_neg (by rw [hN]; decide), va_up_self]
    rw [e]
    exact em
  · rw [fr (am j) (fun z => hz (h.2.2 j k hj hk z)), h.2.1 j hj]
    unfold mfun
    rw [va_up_ne _ _ hz]
theorem mRep.setN (h : mRep G M md am nu sg) {k : Nat} (hk : mIsN k = true) {g : Nat → Nat} (em : M1 (am k) = some (.inl (G.2.1 0, mlen k, .inl (fun j => nI (g j))))) (fr : ∀ b, b ≠ am k → M1 b = M b) : mRep G M1 md am (va_up nu k g) sg := by
  have hA := (mIsN_A hk).1
  have h0 : ∀ j, mIsN j = false → va_up nu k g j = nu j := fun j hj => va_up_ne _ _ (fun z => by rw [z, hk] at hj; cases hj)
  refine ⟨?_, fun j hj => ?_, h.2.2⟩
  · rw [fr md (Ne.symm (h.ne hA)), h.1]
    unfold mfs
    rw [h0 0 rfl, h0 6 rfl, h0 7 rfl, h0 12 rfl, h0 15 rfl, h0 21 rfl, h0 25 rfl, h0 29 rfl]
  · by_cases hz : j = k
    · subst hz
      rw [em, if_neg (by rw [(mIsN_A hk).2]; decide), mfun, if_pos hk, va_up_self]
    · rw [fr (am j) (fun z => hz (h.2.2 j k hj hA z)), h.2.1 j hj]
      unfold mfun
      rw [va_up_ne _ _ hz]
theorem mRep.setF (h : mRep G M md am nu sg) {k : Nat} (hk : mIsA k = false) {g : Nat → Nat} (em : M1 md = some (.inr (9, mfs am (va_up nu k g)))) (fr : ∀ b, b ≠ md → M1 b = M b) : mRep G M1 md am (va_up nu k g) sg := by
  refine ⟨em, fun j hj => ?_, h.2.2⟩
  rw [fr (am j) (h.ne hj), h.2.1 j hj]
  unfold mfun
  rw [va_up_ne _ _ (fun z => by rw [z, hk] at hj; cases hj)]
theorem va_up_nI (f : Nat → Nat) (j v : Nat) : va_up (fun i => nI (f i)) j (nI v) = fun i => nI (va_up f j v i) := by
  funext i
  unfold va_up
  by_cases h : i = j
  · rw [if_pos h, if_pos h]
  · rw [if_neg h, if_neg h]
end MR
section MW
variable {p : Program} {l : Launch} {e : Env} {R : Room} {s : State} {m : MethodId} {args : Array Value} {below : List Frame} {meth : Method} {c : Code} {H : Heap} {locs : List Loc} {cells slots : Nat} {Q : State → Prop}
variable {cc : ByteArray} {own : String} {nL : Nat} {G : xT} {pc : Nat} {ls : Array Slot} {rest : List Value} {A : Nat → Prop} {M M0 : xMem} {H0 : Heap}
variable {md : Nat} {am : Nat → Nat} {nu : Nat → Nat → Nat} {sg : Nat → Nat → Int32}
theorem m_ldN (hC : xC p s m args meth c cc own nL G A) (hw : xWd G A H0 M H locs) (hR : mRep G M md am nu sg) (k j : Nat) (hk : mIsN k = true) {i : Int32} (hi : i = nI j) (hj : j < mlen k) (hn : mlen k < 2 ^ 31) (hdg : decode cc pc = .ok (.iaload, 1))
    (kk : W p l e R s m args below meth c H locs cells slots Q (F0 m (pc + 1) ls (.int (nI (nu k j)) :: rest))) : W p l e R s m args below meth c H locs cells slots Q (F0 m pc ls (.int i :: .ref (am k) :: rest)) :=
  x_iald hC hw (hR.rN hk) rfl hi hj hn hdg kk
theorem m_ldI (hC : xC p s m args meth c cc own nL G A) (hw : xWd G A H0 M H locs) (hR : mRep G M md am nu sg) (k j : Nat) (hk : mIsI k = true) {i : Int32} (hi : i = nI j) (hj : j < mlen k) (hn : mlen k < 2 ^ 31) (hdg : decode cc pc = .ok (.iaload, 1))
    (kk : W p l e R s m args below meth c H locs cells slots Q (F0 m (pc + 1) ls (.int (sg k j) :: rest))) : W p l e R s m args below meth c H locs cells slots Q (F0 m pc ls (.int i :: .ref (am k) :: rest)) :=
  x_iald hC hw (hR.rI hk) rfl hi hj hn hdg kk
theorem m_ldZ (hC : xC p s m args meth c cc own nL G A) (hw : xWd G A H0 M H locs) (hR : mRep G M md am nu sg) (k j : Nat) (hk : mIsZ k = true) {i : Int32} (hi : i = nI j) (hj : j < mlen k) (hn : mlen k < 2 ^ 31) (hdg : decode cc pc = .ok (.baload, 1))
    (kk : W p l e R s m args below meth c H locs cells slots Q (F0 m (pc + 1) ls (.int (sg k j) :: rest))) : W p l e R s m args below meth c H locs cells slots Q (F0 m pc ls (.int i :: .ref (am k) :: rest)) :=
  x_zald hC hw (hR.rZ hk) rfl hi hj hn hdg kk
theorem m_stN (hC : xC p s m args meth c cc own nL G A) (hw : xWd G A H0 M H locs) (hR : mRep G M md am nu sg) (hF : xfr M0 M (mS md am)) (k j v : Nat) (hk : mIsN k = true) {i x : Int32} (hi : i = nI j) (hv : x = nI v) (hj : j < mlen k) (hn : mlen k < 2 ^ 31) (hdg : decode cc pc = .ok (.iastore, 1))
    (kk : ∀ (M1 : xMem) (H1 : Heap) (locs1 : List Loc) (nu1 : Nat → Nat → Nat), eqx [k] nu nu1 → nu1 k = va_up (nu k) j v → mRep G M1 md am nu1 sg → xfr M0 M1 (mS md am) → xWd G A H0 M1 H1 locs1 → W p l e R s m args below meth c H1 locs1 cells slots Q (F0 m (pc + 1) ls rest)) : W p l e R s m args below meth c H locs cells slots Q (F0 m pc ls (.int x :: .int i :: .ref (am k) :: rest)) := by
  refine x_iast hC hw (hR.rN hk) rfl hi hj hn hdg (fun M1 H1 locs1 em fr hw1 => ?_)
  rw [hv, va_up_nI] at em
  exact kk M1 H1 locs1 _ (eqx.up nu k _) (va_up_self _ _ _) (hR.setN hk em fr) (hF.put em fr (Or.inl (mS_in md am (mIsN_A hk).1))) hw1
theorem m_stI (hC : xC p s m args meth c cc own nL G A) (hw : xWd G A H0 M H locs) (hR : mRep G M md am nu sg) (hF : xfr M0 M (mS md am)) (k j : Nat) (hk : mIsI k = true) {i x : Int32} (hi : i = nI j) (hj : j < mlen k) (hn : mlen k < 2 ^ 31) (hdg : decode cc pc = .ok (.iastore, 1))
    (kk : ∀ (M1 : xMem) (H1 : Heap) (locs1 : List Loc) (sg1 : Nat → Nat → Int32), eqx [k] sg sg1 → sg1 k = va_up (sg k) j x → mRep G M1 md am nu sg1 → xfr M0 M1 (mS md am) → xWd G A H0 M1 H1 locs1 → W p l e R s m args below meth c H1 locs1 cells slots Q (F0 m (pc + 1) ls rest)) : W p l e R s m args below meth c H locs cells slots Q (F0 m pc ls (.int x :: .int i :: .ref (am k) :: rest)) := by
  refine x_iast hC hw (hR.rI hk) rfl hi hj hn hdg (fun M1 H1 locs1 em fr hw1 => ?_)
  exact kk M1 H1 locs1 _ (eqx.up sg k _) (va_up_self _ _ _) (hR.setI (mIsI_A hk).1 (mIsI_A hk).2.2 (by rw [if_neg (by rw [(mIsI_A hk).2.1]; decide)]; exact em) fr) (hF.put em fr (Or.inl (mS_in md am (mIsI_A hk).1))) hw1
theorem m_stZ (hC : xC p s m args meth c cc own nL G A) (hw : xWd G A H0 M H locs) (hR : mRep G M md am nu sg) (hF : xfr M0 M (mS md am)) (k j : Nat) (hk : mIsZ k = true) (P : Prop) {i x : Int32} (hx : x = zI P) (hi : i = nI j) (hj : j < mlen k) (hn : mlen k < 2 ^ 31) (hdg : decode cc pc = .ok (.bastore, 1))
    (kk : ∀ (M1 : xMem) (H1 : Heap) (locs1 : List Loc) (sg1 : Nat → Nat → Int32), eqx [k] sg sg1 → sg1 k = va_up (sg k) j (zI P) → mRep G M1 md am nu sg1 → xfr M0 M1 (mS md am) → xWd G A H0 M1 H1 locs1 → W p l e R s m args below meth c H1 locs1 cells slots Q (F0 m (pc + 1) ls rest)) : W p l e R s m args below meth c H locs cells slots Q (F0 m pc ls (.int x :: .int i :: .ref (am k) :: rest)) := by
  refine x_zast hC hw (hR.rZ hk) rfl hi hj hn hdg (fun M1 H1 locs1 em fr hw1 => ?_)
  rw [hx, zI_nar] at em
  exact kk M1 H1 locs1 _ (eqx.up sg k _) (va_up_self _ _ _) (hR.setI (mIsZ_A hk).1 (mIsZ_A hk).2 (by rw [if_pos hk]; exact em) fr) (hF.put em fr (Or.inl (mS_in md am (mIsZ_A hk).1))) hw1
theorem m_put (hC : xC p s m args meth c cc own nL G A) (hw : xWd G A H0 M H locs) (hR : mRep G M md am nu sg) (hF : xfr M0 M (mS md am)) (k v : Nat) {ref : String} {index : Nat} (hkA : mIsA k = false) (hk : k < 32) (hlink : (Cond.fieldLink own index ref (F_M k).2.1 (F_M k).2.2.1).before args s = true) (hsame : ∀ x, s.fieldFound? (F_M k).1 (F_M k).2.1 (F_M k).2.2.1 = some x → s.fieldFound? ref (F_M k).2.1 (F_M k).2.2.1 = some x) (hfin : (F_M k).2.2.2 = false) (hd : parseFieldDescriptor (F_M k).2.2.1 = some .int) {x : Int32} (hv : x = nI v)
    (hset : (mfs am nu).set k (.int (nI v)) = mfs am (va_up nu k (fun _ => v))) (hdg : decode cc pc = .ok (.putfield index, 3))
    (kk : ∀ (M1 : xMem) (H1 : Heap) (locs1 : List Loc) (nu1 : Nat → Nat → Nat), eqx [k] nu nu1 → nu1 k = (fun _ => v) → mRep G M1 md am nu1 sg → xfr M0 M1 (mS md am) → xWd G A H0 M1 H1 locs1 → W p l e R s m args below meth c H1 locs1 cells slots Q (F0 m (pc + 3) ls rest)) : W p l e R s m args below meth c H locs cells slots Q (F0 m pc ls (.int x :: .ref md :: rest)) := by
  subst hv
  refine x_put (ty := .int) hC hw hR.1 rfl k hk hlink hsame hfin hd rfl rfl hk hdg (fun M1 H1 locs1 em fr hw1 => ?_)
  rw [hset] at em
  exact kk M1 H1 locs1 _ (eqx.up nu k _) (va_up_self _ _ _) (hR.setF hkA em fr) (hF.put em fr (Or.inl List.mem_cons_self)) hw1
end MW
theorem x_eq0 {n : Nat} (h : n < 2 ^ 31) : nI n = 0 ↔ n = 0 := by
  rw [← nI_0]
  exact nI_eq h (by omega)
theorem x_le0 {n : Nat} (h : n < 2 ^ 31) : nI n ≤ 0 ↔ n = 0 := by
  rw [← nI_0, nI_leI h (by omega)]
  omega
theorem x_gt0 {n : Nat} (h : n < 2 ^ 31) : nI n > 0 ↔ 0 < n := by
  rw [← nI_0]
  exact nI_ltI (by omega) h
def inP (v lo hi : Int32) : Prop := ¬ v < lo ∧ ¬ v > hi
def stP (nu : Nat → Nat → Nat) (sg : Nat → Nat → Int32) (row : Nat → Int32) (rs w p : Nat) : Prop := 0 < nu 13 w ∧ p + nu 13 w ≤ rs ∧ ∀ k, k < nu 13 w → row (p + k) = sg 14 (8 * w + k)
theorem x_all1 {P : Nat → Prop} {k : Nat} (h : ∀ j, j < k → P j) (hk : P k) : ∀ j, j < k + 1 → P j := fun j hj => by
  by_cases hz : j = k
  · rw [hz]
    exact hk
  · exact h j (by omega)
theorem x_upS {f : Nat → Int32} {g g1 : Nat → Int32} {i : Nat} {y : Int32} (h : ∀ j, j < i → g j = f j) (e : g1 = va_up g i y) (hy : y = f i) : ∀ j, j < i + 1 → g1 j = f j := by
  rw [e]
  intro j hj
  by_cases hz : j = i
  · subst hz
    rw [va_up_self, hy]
  · rw [va_up_ne _ _ hz]
    exact h j (by omega)
end
section
/-! what both sides compute, as plain mathematics -/
theorem x_sub {x y : Nat} (h : y ≤ x) : nI x - nI y = nI (x - y) := by
  have e : nI x = nI (x - y) + nI y := by rw [nI_add, Nat.sub_add_cancel h]
  rw [e, Int32.add_sub_cancel]
theorem x_div {a b : Nat} (ha : a < 2 ^ 31) (hb : b < 2 ^ 31) : nI a / nI b = nI (a / b) := by
  have h1 : nI b ≠ -1 := by
    intro z
    have := congrArg Int32.toInt z
    rw [nI_toInt hb] at this
    have h2 : (-1 : Int32).toInt = -1 := by decide +kernel
    rw [h2] at this
    omega
  have h3 : a / b < 2 ^ 31 := Nat.lt_of_le_of_lt (Nat.div_le_self a b) ha
  exact Int32.toInt_inj.mp (by rw [Int32.toInt_div_of_ne_right _ _ h1, nI_toInt ha, nI_toInt hb, nI_toInt h3]; rfl)
theorem x_rem {a b : Nat} (ha : a < 2 ^ 31) (hb : b < 2 ^ 31) : nI a - nI a / nI b * nI b = nI (a % b) := by
  rw [x_div ha hb, pk_mul, x_sub (Nat.div_mul_le_self a b)]
  congr 1
  have := Nat.div_add_mod a b
  rw [Nat.mul_comm] at this
  omega
/-- how many of the first n -/
noncomputable def cnt (P : Nat → Prop) : Nat → Nat
  | 0 => 0
  | n + 1 => cnt P n + @ite Nat (P n) (Classical.propDecidable _) 1 0
theorem cnt_t {P : Nat → Prop} {n : Nat} (h : P n) : cnt P (n + 1) = cnt P n + 1 := by
  show cnt P n + _ = _
  rw [if_pos h]
theorem cnt_f {P : Nat → Prop} {n : Nat} (h : ¬ P n) : cnt P (n + 1) = cnt P n := by
  show cnt P n + _ = _
  rw [if_neg h]
  rfl
theorem cnt_le (P : Nat → Prop) (n : Nat) : cnt P n ≤ n := by
  induction n with
  | zero => exact Nat.le_refl 0
  | succ n ih =>
    by_cases h : P n
    · rw [cnt_t h]
      omega
    · rw [cnt_f h]
      omega
theorem cnt_c {P Q : Nat → Prop} {n : Nat} (h : ∀ k, k < n → (P k ↔ Q k)) : cnt P n = cnt Q n := by
  induction n with
  | zero => rfl
  | succ n ih =>
    have e := ih (fun k hk => h k (by omega))
    by_cases hq : Q n
    · rw [cnt_t hq, cnt_t ((h n (by omega)).mpr hq), e]
    · rw [cnt_f hq, cnt_f (fun z => hq ((h n (by omega)).mp z)), e]
theorem cnt_tail {P : Nat → Prop} {n m : Nat} (hnm : n ≤ m) (h : ∀ k, n ≤ k → k < m → ¬ P k) : cnt P m = cnt P n := by
  induction m with
  | zero =>
    have : n = 0 := by omega
    rw [this]
  | succ m ih =>
    by_cases hz : n = m + 1
    · rw [hz]
    · rw [cnt_f (h m (by omega) (by omega))]
      exact ih (by omega) (fun k h1 h2 => h k h1 (by omega))
/-- whether place i of a row leaves something behind, and how many of the first n do -/
def em (P : Nat → Prop) (i : Nat) : Prop := ¬ P i ∨ i = 0 ∨ ¬ P (i - 1)
noncomputable def kp (P : Nat → Prop) : Nat → Nat := cnt (em P)
theorem kp_t {P : Nat → Prop} {n : Nat} (h : em P n) : kp P (n + 1) = kp P n + 1 := cnt_t h
theorem kp_f {P : Nat → Prop} {n : Nat} (h : ¬ em P n) : kp P (n + 1) = kp P n := cnt_f h
theorem kp_le (P : Nat → Prop) (n : Nat) : kp P n ≤ n := cnt_le _ n
theorem cnt_mono (P : Nat → Prop) {n m : Nat} (h : n ≤ m) : cnt P n ≤ cnt P m := by
  induction m with
  | zero =>
    have : n = 0 := by omega
    rw [this]
    exact Nat.le_refl _
  | succ m ih =>
    by_cases hz : n = m + 1
    · rw [hz]
      exact Nat.le_refl _
    · refine Nat.le_trans (ih (by omega)) ?_
      by_cases hp : P m
      · rw [cnt_t hp]
        omega
      · rw [cnt_f hp]
        omega
theorem kp_lt {P : Nat → Prop} {i n : Nat} (h : em P i) (hi : i < n) : kp P i < kp P n := by
  have h1 : kp P (i + 1) ≤ kp P n := cnt_mono _ hi
  rw [kp_t h] at h1
  omega
theorem em_c {P Q : Nat → Prop} {i : Nat} (h : ∀ k, k ≤ i → (P k ↔ Q k)) : em P i ↔ em Q i := by
  unfold em
  rw [h i (Nat.le_refl _), h (i - 1) (by omega)]
theorem kp_c {P Q : Nat → Prop} {n : Nat} (h : ∀ k, k < n → (P k ↔ Q k)) : kp P n = kp Q n := cnt_c (fun k hk => em_c (fun j hj => h j (by omega)))
/-- f' is f, but that from place b on the row of what is kept of the first k of v has been written -/
def cutI (P : Nat → Prop) (b k : Nat) (v f f' : Nat → Int32) : Prop := (∀ i, i < k → em P i → f' (b + kp P i) = v i) ∧ ∀ j, j < b ∨ b + kp P k ≤ j → f' j = f j
theorem cutI.zero {P : Nat → Prop} {b : Nat} {v f : Nat → Int32} : cutI P b 0 v f f := ⟨fun i hi => absurd hi (Nat.not_lt_zero i), fun _ _ => rfl⟩
theorem cutI.yes {P : Nat → Prop} {b k : Nat} {v f f' f1 : Nat → Int32} {x : Int32} (h : cutI P b k v f f') (he : em P k) (e : f1 = va_up f' (b + kp P k) x) (hx : x = v k) : cutI P b (k + 1) v f f1 := by
  rw [e]
  refine ⟨fun i hi hem => ?_, fun j hj => ?_⟩
  · by_cases hz : i = k
    · rw [hz, va_up_self, hx]
    · have := kp_lt hem (show i < k by omega)
      rw [va_up_ne _ _ (by omega)]
      exact h.1 i (by omega) hem
  · rw [kp_t he] at hj
    rw [va_up_ne _ _ (by omega)]
    exact h.2 j (by omega)
theorem cutI.no {P : Nat → Prop} {b k : Nat} {v f f' : Nat → Int32} (h : cutI P b k v f f') (he : ¬ em P k) : cutI P b (k + 1) v f f' := by
  refine ⟨fun i hi hem => ?_, fun j hj => ?_⟩
  · by_cases hz : i = k
    · rw [hz] at hem
      exact absurd hem he
    · exact h.1 i (by omega) hem
  · rw [kp_f he] at hj
    exact h.2 j hj
theorem stP_c {nu : Nat → Nat → Nat} {sg : Nat → Nat → Int32} {row row' : Nat → Int32} {rs w p : Nat} (h : ∀ j, j < rs → row j = row' j) : stP nu sg row rs w p ↔ stP nu sg row' rs w p := by
  unfold stP
  constructor
  · intro ⟨h1, h2, h3⟩
    exact ⟨h1, h2, fun k hk => by rw [← h (p + k) (by omega)]; exact h3 k hk⟩
  · intro ⟨h1, h2, h3⟩
    exact ⟨h1, h2, fun k hk => by rw [h (p + k) (by omega)]; exact h3 k hk⟩
theorem stP_n {nu nu' : Nat → Nat → Nat} {sg sg' : Nat → Nat → Int32} {row : Nat → Int32} {rs w p : Nat} (h : nu' 13 = nu 13) (h2 : sg' 14 = sg 14) : stP nu' sg' row rs w p ↔ stP nu sg row rs w p := by
  unfold stP
  rw [h, h2]
/-- place k is in a word, of those ahead of place p of word w -/
def iwU (nu : Nat → Nat → Nat) (sg : Nat → Nat → Int32) (row : Nat → Int32) (rs w p k : Nat) : Prop := ∃ w' p', (w' < w ∨ w' = w ∧ p' < p) ∧ p' < rs ∧ stP nu sg row rs w' p' ∧ p' ≤ k ∧ k < p' + nu 13 w'
def iwP (nu : Nat → Nat → Nat) (sg : Nat → Nat → Int32) (row : Nat → Int32) (rs k : Nat) : Prop := ∃ w p, w < nu 12 0 ∧ stP nu sg row rs w p ∧ p ≤ k ∧ k < p + nu 13 w
def arP (sg : Nat → Nat → Int32) (page x y wd : Int32) (a : Nat) : Prop := sg 16 a = page ∧ (¬ sg 19 a ≤ 0 ∧ ¬ sg 20 a ≤ 0) ∧ (¬ x ≥ sg 17 a + sg 19 a ∧ ¬ sg 17 a ≥ x + wd) ∧ (¬ y ≥ sg 18 a + sg 20 a ∧ ¬ sg 18 a ≥ y + nI 10)
def meP (sg : Nat → Nat → Int32) (page x y wd : Int32) (n : Nat) : Prop := ∃ a, a < n ∧ arP sg page x y wd a
/-- sign k of row r, laid on a page at (dx, dy), is marked -/
def mkP (nu : Nat → Nat → Nat) (sg : Nat → Nat → Int32) (r : Nat) (page dx dy : Int32) (k : Nat) : Prop :=
  k < nu 1 r ∧ ¬ sg 2 (40 * r + k) = 0 ∧ (iwP nu sg (fun j => sg 2 (40 * r + j)) (nu 1 r) k ∨ meP sg page (sg 3 (40 * r + k) + dx) (sg 4 (40 * r + k) + dy) (sg 5 (40 * r + k)) (nu 15 0))
theorem iwU_0 {nu : Nat → Nat → Nat} {sg : Nat → Nat → Int32} {row : Nat → Int32} {rs k : Nat} : ¬ iwU nu sg row rs 0 0 k := by
  intro ⟨w, p, h, _⟩
  omega
theorem iwU_row {nu : Nat → Nat → Nat} {sg : Nat → Nat → Int32} {row : Nat → Int32} {rs w k : Nat} : iwU nu sg row rs w rs k ↔ iwU nu sg row rs (w + 1) 0 k := by
  constructor
  · intro ⟨w', p', h1, h2⟩
    exact ⟨w', p', by omega, h2⟩
  · intro ⟨w', p', h1, h2, h3⟩
    exact ⟨w', p', by omega, h2, h3⟩
theorem iwU_next {nu : Nat → Nat → Nat} {sg : Nat → Nat → Int32} {row : Nat → Int32} {rs w p k : Nat} (hp : p < rs) : (iwU nu sg row rs w p k ∨ (stP nu sg row rs w p ∧ p ≤ k ∧ k < p + nu 13 w)) ↔ iwU nu sg row rs w (p + 1) k := by
  constructor
  · rintro (⟨w', p', h1, h2⟩ | h)
    · exact ⟨w', p', by omega, h2⟩
    · exact ⟨w, p, Or.inr ⟨rfl, by omega⟩, hp, h⟩
  · intro ⟨w', p', h1, h2, h3⟩
    by_cases hz : w' = w ∧ p' = p
    · obtain ⟨rfl, rfl⟩ := hz
      exact Or.inr h3
    · exact Or.inl ⟨w', p', by omega, h2, h3⟩
theorem iwU_end {nu : Nat → Nat → Nat} {sg : Nat → Nat → Int32} {row : Nat → Int32} {rs k : Nat} : iwU nu sg row rs (nu 12 0) 0 k ↔ iwP nu sg row rs k := by
  constructor
  · intro ⟨w, p, h1, h2, h3, h4⟩
    exact ⟨w, p, by omega, h3, h4⟩
  · intro ⟨w, p, h1, h3, h4⟩
    have a := h3.1
    have b := h3.2.1
    exact ⟨w, p, by omega, by omega, h3, h4⟩
theorem iwP_c {nu : Nat → Nat → Nat} {sg : Nat → Nat → Int32} {row row' : Nat → Int32} {rs k : Nat} (h : ∀ j, j < rs → row j = row' j) : iwP nu sg row rs k ↔ iwP nu sg row' rs k := by
  unfold iwP
  constructor
  · intro ⟨w, p, h1, h2, h3⟩
    exact ⟨w, p, h1, (stP_c h).mp h2, h3⟩
  · intro ⟨w, p, h1, h2, h3⟩
    exact ⟨w, p, h1, (stP_c h).mpr h2, h3⟩
theorem iwP_n {nu nu' : Nat → Nat → Nat} {sg sg' : Nat → Nat → Int32} {row : Nat → Int32} {rs k : Nat} (h12 : nu' 12 = nu 12) (h : nu' 13 = nu 13) (h2 : sg' 14 = sg 14) : iwP nu' sg' row rs k ↔ iwP nu sg row rs k := by
  unfold iwP stP
  rw [h, h2, h12]
theorem iwP_lt {nu : Nat → Nat → Nat} {sg : Nat → Nat → Int32} {row : Nat → Int32} {rs k : Nat} (h : iwP nu sg row rs k) : k < rs := by
  obtain ⟨w, p, h1, h2, h3, h4⟩ := h
  have := h2.2.1
  omega
/-- digits -/
def dgI (b : Int32) : Int32 := if ¬ b < nI 48 ∧ ¬ b > nI 57 then b - nI 48 else if ¬ b < nI 65 ∧ ¬ b > nI 70 then b - nI 65 + nI 10 else if ¬ b < nI 97 ∧ ¬ b > nI 102 then b - nI 97 + nI 10 else -1
def hxN (d : Nat) : Nat := if d < 10 then 48 + d else 55 + d
def goodP (en : Nat) (a b : Int32) : Prop := en = 0 ∨ en = 1 ∧ a = 0 ∨ en = 2 ∧ b = 0 ∨ en = 3 ∧ ¬ dgI a < 0 ∧ ¬ dgI b < 0
def codV (en : Nat) (a b : Int32) : Int32 := match en with
  | 0 => a
  | 1 => b
  | 2 => a
  | _ => nI 16 * dgI a + dgI b
def stp (en : Nat) : Nat := match en with
  | 0 => 1
  | _ => 2
def wellP (f : Nat → Int32) (en b n : Nat) : Prop := (en = 0 ∨ n % 2 = 0) ∧ ∀ i, stp en * i < n → goodP en (f (b + stp en * i)) (f (b + stp en * i + 1))
end
section
set_option maxHeartbeats 4000000 in
set_option maxRecDepth 100000 in
/-- in -/
theorem c_M_in (l : Launch) (G : xT) (M : xMem) (sz : Nat)  (v0 v1 v2 : Int32) : xMet l G y_M_in (Cond.code y_M_in b_M_in 3 (Option.some Jvm.ClassFile.FieldType.boolean) :: x_tbl) { frames := 0, cells := 0, slots := 0, locals := 0 } [.int v0, .int v1, .int v2] M sz (fun v M' => v = some (.int (zI (inP v0 v1 v2))) ∧ M' = M) (fun _ _ => False) := by
  refine xMet.of (by decide) (Nat.le_of_ble_eq_true rfl) ?_
  intro p e s m below meth c ls hC hr hnm hno hsz hw hl
  obtain ⟨hx, hb, hown, hts, hK, hml, hlk, hz⟩ := id hC
  have hl : lv_has ls 3 [(0, .int v0), (1, .int v1), (2, .int v2)] := hl
  have J15 : ∀ (H : Heap) (locs : List Loc) (ls : Array Slot), xWd G (xA M sz) s.heap M H locs → lv_has ls 3 [(0, .int v0), (1, .int v1), (2, .int v2)] → W p l e { frames := 0, cells := 0, slots := 0, locals := 0 } s m ([.int v0, .int v1, .int v2] : List Value).toArray below meth c H locs 0 0 (xMQ below G M sz (fun v M' => v = some (.int (zI (inP v0 v1 v2))) ∧ M' = M) (fun _ _ => False) s 0 0) (F0 m 15 ls [.int (zI (inP v0 v1 v2))]) := by
    intro H locs ls hw hl
    exact x_zret hC hr hw (by first | exact zI_narV _ | rfl | assumption | decide +kernel) (⟨rfl, rfl⟩) (Nat.le_of_ble_eq_true rfl) (Nat.le_of_ble_eq_true rfl) d_M_in_15
  refine lv_iload_n hx hb d_M_in_0 rfl (lv_at hl 0 rfl) ?_
  refine lv_iload_n hx hb d_M_in_1 rfl (lv_at hl 1 rfl) ?_
  refine lv_icmp_lt (tgt := 14) hx hb d_M_in_2 (by decide) (fun c_2 => ?_) (fun c_2 => ?_)
  · refine lv_iconst (v := nI 0) hx hb d_M_in_14 (by decide) ?_
    refine x_vi (y := zI (inP v0 v1 v2)) ((zI_f (fun h => h.1 c_2)).symm) ?_
    exact J15 _ _ _ hw (lv_sub hl [0, 1, 2] rfl)
  · refine lv_iload_n hx hb d_M_in_5 rfl (lv_at hl 0 rfl) ?_
    refine lv_iload_n hx hb d_M_in_6 rfl (lv_at hl 2 rfl) ?_
    refine lv_icmp_gt (tgt := 14) hx hb d_M_in_7 (by decide) (fun c_7 => ?_) (fun c_7 => ?_)
    · refine lv_iconst (v := nI 0) hx hb d_M_in_14 (by decide) ?_
      refine x_vi (y := zI (inP v0 v1 v2)) ((zI_f (fun h => h.2 c_7)).symm) ?_
      exact J15 _ _ _ hw (lv_sub hl [0, 1, 2] rfl)
    · refine lv_iconst (v := nI 1) hx hb d_M_in_10 (by decide) ?_
      refine lv_goto (tgt := 15) hx hb d_M_in_11 (by decide) ?_
      refine x_vi (y := zI (inP v0 v1 v2)) ((zI_t ⟨c_2, c_7⟩).symm) ?_
      exact J15 _ _ _ hw (lv_sub hl [0, 1, 2] rfl)

set_option maxHeartbeats 4000000 in
set_option maxRecDepth 100000 in
/-- markPlace -/
theorem c_M_markPlace (l : Launch) (G : xT) (M : xMem) (sz : Nat)  (u : Nat) : xMet l G y_M_markPlace (Cond.code y_M_markPlace b_M_markPlace 1 (Option.some Jvm.ClassFile.FieldType.int) :: x_tbl) { frames := 0, cells := 0, slots := 0, locals := 0 } [.int (nI u)] M sz (fun v M' => v = some (.int (nI (160 + 40 * u))) ∧ M' = M) (fun _ _ => False) := by
  refine xMet.of (by decide) (Nat.le_of_ble_eq_true rfl) ?_
  intro p e s m below meth c ls hC hr hnm hno hsz hw hl
  obtain ⟨hx, hb, hown, hts, hK, hml, hlk, hz⟩ := id hC
  have hl : lv_has ls 1 [(0, .int (nI u))] := hl
  refine lv_sipush (v := nI 160) hx hb d_M_markPlace_0 (by decide) ?_
  refine lv_bipush (v := nI 40) hx hb d_M_markPlace_3 (by decide) ?_
  refine lv_iload_n hx hb d_M_markPlace_5 rfl (lv_at hl 0 rfl) ?_
  refine lv_imul hx hb d_M_markPlace_6 ?_
  refine x_vi (y := nI (40 * u)) (pk_mul _ _) ?_
  refine lv_iadd hx hb d_M_markPlace_7 ?_
  refine x_vi (y := nI (160 + (40 * u))) (nI_add _ _) ?_
  exact x_iret hC hr hw (⟨rfl, rfl⟩) (Nat.le_of_ble_eq_true rfl) (Nat.le_of_ble_eq_true rfl) d_M_markPlace_8

set_option maxHeartbeats 4000000 in
set_option maxRecDepth 100000 in
/-- lay -/
theorem c_M_lay (l : Launch) (G : xT) (M : xMem) (sz : Nat) (md : Nat) (am : Nat → Nat) (nu : Nat → Nat → Nat) (sg : Nat → Nat → Int32) (hR : mRep G M md am nu sg) (r : Nat) (a0 a1 a2 a3 : Int32) (hr24 : r < 24) (hs : nu 1 r < 40) : xMet l G y_M_lay (Cond.code y_M_lay b_M_lay 7 none :: x_tbl) { frames := 0, cells := 0, slots := 0, locals := 0 } [.ref md, .int (nI r), .int a0, .int a1, .int a2, .int a3] M sz (fun v M' => v = none ∧ ∃ (nu' : Nat → Nat → Nat) (sg' : Nat → Nat → Int32), mRep G M' md am nu' sg' ∧ eqx [1] nu nu' ∧ eqx [2, 3, 4, 5] sg sg' ∧ xfr M M' (mS md am) ∧ nu' 1 = va_up (nu 1) r (nu 1 r + 1) ∧ sg' 2 = va_up (sg 2) (40 * r + nu 1 r) a0 ∧ sg' 3 = va_up (sg 3) (40 * r + nu 1 r) a1 ∧ sg' 4 = va_up (sg 4) (40 * r + nu 1 r) a2 ∧ sg' 5 = va_up (sg 5) (40 * r + nu 1 r) a3) (fun _ _ => False) := by
  refine xMet.of (by decide) (Nat.le_of_ble_eq_true rfl) ?_
  intro p e s m below meth c ls hC hr hnm hno hsz hw hl
  obtain ⟨hx, hb, hown, hts, hK, hml, hlk, hz⟩ := id hC
  have hl : lv_has ls 7 [(0, .ref md), (1, .int (nI r)), (2, .int a0), (3, .int a1), (4, .int a2), (5, .int a3)] := hl
  have hF : xfr M M (mS md am) := xfr.rf
  refine lv_bipush (v := nI 40) hx hb d_M_lay_0 (by decide) ?_
  refine lv_iload_n hx hb d_M_lay_2 rfl (lv_at hl 1 rfl) ?_
  refine lv_imul hx hb d_M_lay_3 ?_
  refine x_vi (y := nI (40 * r)) (pk_mul _ _) ?_
  refine lv_aload_n hx hb d_M_lay_4 rfl (lv_at hl 0 rfl) ?_
  refine x_get hC hw hR.1 rfl 1 (by decide) (hts _ k_735) (fun _ h9 => h9) rfl d_M_lay_5 ?_
  refine lv_iload_n hx hb d_M_lay_8 rfl (lv_at hl 1 rfl) ?_
  refine m_ldN hC hw hR 1 r rfl (rfl) (by show _ < 24; omega) (by decide) d_M_lay_9 ?_
  refine lv_iadd hx hb d_M_lay_10 ?_
  refine x_vi (y := nI ((40 * r) + (nu 1 r))) (nI_add _ _) ?_
  refine lv_istore (lv' := [(6, .int (nI ((40 * r) + (nu 1 r)))), (0, .ref md), (1, .int (nI r)), (2, .int a0), (3, .int a1), (4, .int a2), (5, .int a3)]) hx hb d_M_lay_11 hl (by decide) rfl (fun ls hl => ?_)
  refine lv_aload_n hx hb d_M_lay_13 rfl (lv_at hl 1 rfl) ?_
  refine x_get hC hw hR.1 rfl 2 (by decide) (hts _ k_736) (fun _ h9 => h9) rfl d_M_lay_14 ?_
  refine lv_iload hx hb d_M_lay_17 (lv_at hl 0 rfl) ?_
  refine lv_iload_n hx hb d_M_lay_19 rfl (lv_at hl 3 rfl) ?_
  refine m_stI hC hw hR hF 2 ((40 * r) + (nu 1 r)) rfl (rfl) (by show _ < 960; omega) (by decide) d_M_lay_20 (fun M1 H locs sg2 hsg2 esg2 hR hF hw => ?_)
  refine lv_aload_n hx hb d_M_lay_21 rfl (lv_at hl 1 rfl) ?_
  refine x_get hC hw hR.1 rfl 3 (by decide) (hts _ k_737) (fun _ h9 => h9) rfl d_M_lay_22 ?_
  refine lv_iload hx hb d_M_lay_25 (lv_at hl 0 rfl) ?_
  refine lv_iload_n hx hb d_M_lay_27 rfl (lv_at hl 4 rfl) ?_
  refine m_stI hC hw hR hF 3 ((40 * r) + (nu 1 r)) rfl (rfl) (by show _ < 960; omega) (by decide) d_M_lay_28 (fun M3 H locs sg4 hsg4 esg4 hR hF hw => ?_)
  refine lv_aload_n hx hb d_M_lay_29 rfl (lv_at hl 1 rfl) ?_
  refine x_get hC hw hR.1 rfl 4 (by decide) (hts _ k_738) (fun _ h9 => h9) rfl d_M_lay_30 ?_
  refine lv_iload hx hb d_M_lay_33 (lv_at hl 0 rfl) ?_
  refine lv_iload hx hb d_M_lay_35 (lv_at hl 5 rfl) ?_
  refine m_stI hC hw hR hF 4 ((40 * r) + (nu 1 r)) rfl (rfl) (by show _ < 960; omega) (by decide) d_M_lay_37 (fun M5 H locs sg6 hsg6 esg6 hR hF hw => ?_)
  refine lv_aload_n hx hb d_M_lay_38 rfl (lv_at hl 1 rfl) ?_
  refine x_get hC hw hR.1 rfl 5 (by decide) (hts _ k_739) (fun _ h9 => h9) rfl d_M_lay_39 ?_
  refine lv_iload hx hb d_M_lay_42 (lv_at hl 0 rfl) ?_
  refine lv_iload hx hb d_M_lay_44 (lv_at hl 6 rfl) ?_
  refine m_stI hC hw hR hF 5 ((40 * r) + (nu 1 r)) rfl (rfl) (by show _ < 960; omega) (by decide) d_M_lay_46 (fun M7 H locs sg8 hsg8 esg8 hR hF hw => ?_)
  refine lv_aload_n hx hb d_M_lay_47 rfl (lv_at hl 1 rfl) ?_
  refine x_get hC hw hR.1 rfl 1 (by decide) (hts _ k_735) (fun _ h9 => h9) rfl d_M_lay_48 ?_
  refine lv_iload_n hx hb d_M_lay_51 rfl (lv_at hl 2 rfl) ?_
  refine lv_dup2_11 hx hb d_M_lay_52 rfl rfl ?_
  refine m_ldN hC hw hR 1 r rfl (rfl) (by show _ < 24; omega) (by decide) d_M_lay_53 ?_
  refine lv_iconst (v := nI 1) hx hb d_M_lay_54 (by decide) ?_
  refine lv_iadd hx hb d_M_lay_55 ?_
  refine x_vi (y := nI ((nu 1 r) + 1)) (nI_add _ _) ?_
  refine m_stN hC hw hR hF 1 r ((nu 1 r) + 1) rfl (rfl) rfl (by show _ < 24; omega) (by decide) d_M_lay_56 (fun M9 H locs nu10 hnu10 enu10 hR hF hw => ?_)
  exact x_vret hC hr hw (⟨rfl, nu10, sg8, hR, (eqx.trans (L := [1]) (eqx.rf (L := [1])) hnu10 (by decide) (by decide)), (eqx.trans (L := [2, 3, 4, 5]) (eqx.trans (L := [2, 3, 4, 5]) (eqx.trans (L := [2, 3, 4, 5]) (eqx.trans (L := [2, 3, 4, 5]) (eqx.rf (L := [2, 3, 4, 5])) hsg2 (by decide) (by decide)) hsg4 (by decide) (by decide)) hsg6 (by decide) (by decide)) hsg8 (by decide) (by decide)), hF, (by rw [enu10]), (by rw [hsg8 2 (by decide), hsg6 2 (by decide), hsg4 2 (by decide), esg2]), (by rw [hsg8 3 (by decide), hsg6 3 (by decide), esg4, hsg2 3 (by decide)]), (by rw [hsg8 4 (by decide), esg6, hsg4 4 (by decide), hsg2 4 (by decide)]), (by rw [esg8, hsg6 5 (by decide), hsg4 5 (by decide), hsg2 5 (by decide)])⟩) (Nat.le_of_ble_eq_true rfl) (Nat.le_of_ble_eq_true rfl) d_M_lay_57

set_option maxHeartbeats 4000000 in
set_option maxRecDepth 100000 in
/-- takeRow -/
theorem c_M_takeRow (l : Launch) (G : xT) (M : xMem) (sz : Nat) (md : Nat) (am : Nat → Nat) (nu : Nat → Nat → Nat) (sg : Nat → Nat → Int32) (hR : mRep G M md am nu sg) (r : Nat) (hr24 : r < 24) (hs : nu 1 r ≤ 40) : xMet l G y_M_takeRow (Cond.code y_M_takeRow b_M_takeRow 3 none :: x_tbl) { frames := 0, cells := 0, slots := 0, locals := 0 } [.ref md, .int (nI r)] M sz (fun v M' => v = none ∧ ∃ (nu' : Nat → Nat → Nat) (sg' : Nat → Nat → Int32), mRep G M' md am nu' sg' ∧ eqx [29] nu nu' ∧ eqx [30] sg sg' ∧ xfr M M' (mS md am) ∧ nu' 29 = (fun _ => nu 1 r) ∧ ∀ j, j < nu 1 r → sg' 30 j = sg 2 (40 * r + j)) (fun _ _ => False) := by
  refine xMet.of (by decide) (Nat.le_of_ble_eq_true rfl) ?_
  intro p e s m below meth c ls hC hr hnm hno hsz hw hl
  obtain ⟨hx, hb, hown, hts, hK, hml, hlk, hz⟩ := id hC
  have hl : lv_has ls 3 [(0, .ref md), (1, .int (nI r))] := hl
  have hF : xfr M M (mS md am) := xfr.rf
  refine lv_aload_n hx hb d_M_takeRow_0 rfl (lv_at hl 0 rfl) ?_
  refine lv_aload_n hx hb d_M_takeRow_1 rfl (lv_at hl 0 rfl) ?_
  refine x_get hC hw hR.1 rfl 1 (by decide) (hts _ k_735) (fun _ h9 => h9) rfl d_M_takeRow_2 ?_
  refine lv_iload_n hx hb d_M_takeRow_5 rfl (lv_at hl 1 rfl) ?_
  refine m_ldN hC hw hR 1 r rfl (rfl) (by show _ < 24; omega) (by decide) d_M_takeRow_6 ?_
  refine m_put hC hw hR hF 29 (nu 1 r) rfl (by decide) (hts _ k_763) (fun _ h9 => h9) rfl (by decide +kernel) rfl rfl d_M_takeRow_7 (fun M2 H locs nu1 hnu1 enu1 hR hF hw => ?_)
  refine lv_iconst (v := nI 0) hx hb d_M_takeRow_10 (by decide) ?_
  refine lv_istore_n (lv' := [(2, .int (nI 0)), (0, .ref md), (1, .int (nI r))]) hx hb d_M_takeRow_11 rfl hl (by decide) rfl (fun ls hl => ?_)
  have HL12 : ∀ (z12 k : Nat) (nuL3 : Nat → Nat → Nat) (sgL4 : Nat → Nat → Int32), k ≤ nu 1 r → nu 1 r + 1 ≤ k + z12 → (∀ j, j < k → sgL4 30 j = sg 2 (40 * r + j)) → ∀ (M1 : xMem), mRep G M1 md am nuL3 sgL4 → eqx [] nu1 nuL3 → eqx [30] sg sgL4 → xfr M M1 (mS md am) → ∀ (H : Heap) (locs : List Loc) (ls : Array Slot), xWd G (xA M sz) s.heap M1 H locs → lv_has ls 3 [(0, .ref md), (1, .int (nI r)), (2, .int (nI k))] → W p l e { frames := 0, cells := 0, slots := 0, locals := 0 } s m ([.ref md, .int (nI r)] : List Value).toArray below meth c H locs 0 0 (xMQ below G M sz (fun v M' => v = none ∧ ∃ (nu' : Nat → Nat → Nat) (sg' : Nat → Nat → Int32), mRep G M' md am nu' sg' ∧ eqx [29] nu nu' ∧ eqx [30] sg sg' ∧ xfr M M' (mS md am) ∧ nu' 29 = (fun _ => nu 1 r) ∧ ∀ j, j < nu 1 r → sg' 30 j = sg 2 (40 * r + j)) (fun _ _ => False) s 0 0) (F0 m 12 ls []) := by
    intro z12
    induction z12 with
    | zero =>
      intro k  nuL3 sgL4 h1 h2
      omega
    | succ z12 ih12 =>
      intro k  nuL3 sgL4 hi12 hz12 hg M1 hR hnuL3 hsgL4 hF H locs ls hw hl
      refine lv_iload_n hx hb d_M_takeRow_12 rfl (lv_at hl 2 rfl) ?_
      refine lv_aload_n hx hb d_M_takeRow_13 rfl (lv_at hl 0 rfl) ?_
      refine x_get hC hw hR.1 rfl 29 (by decide) (hts _ k_763) (fun _ h9 => h9) rfl d_M_takeRow_14 ?_
      refine x_vi (y := nI (nu 1 r)) (by rw [hnuL3 29 (by decide), enu1]) ?_
      refine lv_icmp_ge (tgt := 43) hx hb d_M_takeRow_17 (by decide) (fun c_17 => ?_) (fun c_17 => ?_)
      · have c_17 := (nI_leI (by omega) (by omega)).mp c_17
        exact x_vret hC hr hw (⟨rfl, nuL3, sgL4, hR, (eqx.trans (L := [29]) (eqx.trans (L := [29]) (eqx.rf (L := [29])) hnu1 (by decide) (by decide)) hnuL3 (by decide) (by decide)), (eqx.trans (L := [30]) (eqx.rf (L := [30])) hsgL4 (by decide) (by decide)), hF, (by rw [hnuL3 29 (by decide), enu1]), fun j hj => hg j (by omega)⟩) (Nat.le_of_ble_eq_true rfl) (Nat.le_of_ble_eq_true rfl) d_M_takeRow_43
      · have c_17 := Nat.not_le.mp ((not_congr (nI_leI (by omega) (by omega))).mp c_17)
        refine lv_aload_n hx hb d_M_takeRow_20 rfl (lv_at hl 0 rfl) ?_
        refine x_get hC hw hR.1 rfl 30 (by decide) (hts _ k_764) (fun _ h9 => h9) rfl d_M_takeRow_21 ?_
        refine lv_iload_n hx hb d_M_takeRow_24 rfl (lv_at hl 2 rfl) ?_
        refine lv_aload_n hx hb d_M_takeRow_25 rfl (lv_at hl 0 rfl) ?_
        refine x_get hC hw hR.1 rfl 2 (by decide) (hts _ k_736) (fun _ h9 => h9) rfl d_M_takeRow_26 ?_
        refine lv_bipush (v := nI 40) hx hb d_M_takeRow_29 (by decide) ?_
        refine lv_iload_n hx hb d_M_takeRow_31 rfl (lv_at hl 1 rfl) ?_
        refine lv_imul hx hb d_M_takeRow_32 ?_
        refine x_vi (y := nI (40 * r)) (pk_mul _ _) ?_
        refine lv_iload_n hx hb d_M_takeRow_33 rfl (lv_at hl 2 rfl) ?_
        refine lv_iadd hx hb d_M_takeRow_34 ?_
        refine x_vi (y := nI ((40 * r) + k)) (nI_add _ _) ?_
        refine m_ldI hC hw hR 2 ((40 * r) + k) rfl (rfl) (by show _ < 960; omega) (by decide) d_M_takeRow_35 ?_
        refine x_vi (y := sg 2 ((40 * r) + k)) (by rw [hsgL4 2 (by decide)]) ?_
        refine m_stI hC hw hR hF 30 k rfl (rfl) (by show _ < 60; omega) (by decide) d_M_takeRow_36 (fun M5 H locs sg6 hsg6 esg6 hR hF hw => ?_)
        refine lv_iinc (v := nI (k + 1)) (lv' := [(2, .int (nI (k + 1))), (0, .ref md), (1, .int (nI r))]) hx hb d_M_takeRow_37 hl (k := 2) rfl (by exact nI_1 _) (by decide) rfl (fun ls hl => ?_)
        refine lv_goto (tgt := 12) hx hb d_M_takeRow_40 (by decide) ?_
        exact ih12 (k + 1)  nuL3 sg6 (by omega) (by omega) (x_upS hg esg6 rfl) _ hR (eqx.trans (L := []) (eqx.rf (L := [])) hnuL3 (by decide) (by decide)) (eqx.trans (L := [30]) (eqx.trans (L := [30]) (eqx.rf (L := [30])) hsgL4 (by decide) (by decide)) hsg6 (by decide) (by decide)) hF _ _ _ hw (lv_sub hl [1, 2, 0] rfl)
  exact HL12 (nu 1 r + 1) (0)  nu1 sg (by omega) (by omega) (fun j hj => absurd hj (Nat.not_lt_zero j)) _ hR eqx.rf eqx.rf hF _ _ _ hw (lv_sub hl [1, 2, 0] rfl)

set_option maxHeartbeats 4000000 in
set_option maxRecDepth 100000 in
/-- stands -/
theorem c_M_stands (l : Launch) (G : xT) (M : xMem) (sz : Nat) (md : Nat) (am : Nat → Nat) (nu : Nat → Nat → Nat) (sg : Nat → Nat → Int32) (hR : mRep G M md am nu sg) (w q : Nat) (hw4 : w < 4) (h8 : nu 13 w ≤ 8) (hq60 : q < 60) (hs : nu 29 0 ≤ 60) : xMet l G y_M_stands (Cond.code y_M_stands b_M_stands 6 (Option.some Jvm.ClassFile.FieldType.boolean) :: x_tbl) { frames := 0, cells := 0, slots := 0, locals := 0 } [.ref md, .int (nI w), .int (nI q)] M sz (fun v M' => v = some (.int (zI (stP nu sg (sg 30) (nu 29 0) w q))) ∧ M' = M) (fun _ _ => False) := by
  refine xMet.of (by decide) (Nat.le_of_ble_eq_true rfl) ?_
  intro p e s m below meth c ls hC hr hnm hno hsz hw hl
  obtain ⟨hx, hb, hown, hts, hK, hml, hlk, hz⟩ := id hC
  have hl : lv_has ls 6 [(0, .ref md), (1, .int (nI w)), (2, .int (nI q))] := hl
  have hF : xfr M M (mS md am) := xfr.rf
  refine lv_aload_n hx hb d_M_stands_0 rfl (lv_at hl 0 rfl) ?_
  refine x_get hC hw hR.1 rfl 13 (by decide) (hts _ k_747) (fun _ h9 => h9) rfl d_M_stands_1 ?_
  refine lv_iload_n hx hb d_M_stands_4 rfl (lv_at hl 1 rfl) ?_
  refine m_ldN hC hw hR 13 w rfl (rfl) (by show _ < 4; omega) (by decide) d_M_stands_5 ?_
  refine lv_istore_n (lv' := [(3, .int (nI (nu 13 w))), (0, .ref md), (1, .int (nI w)), (2, .int (nI q))]) hx hb d_M_stands_6 rfl hl (by decide) rfl (fun ls hl => ?_)
  have J26 : ∀ (H : Heap) (locs : List Loc) (ls : Array Slot), xWd G (xA M sz) s.heap M H locs → lv_has ls 6 [(3, .int (nI (nu 13 w))), (0, .ref md), (1, .int (nI w)), (2, .int (nI q))] → W p l e { frames := 0, cells := 0, slots := 0, locals := 0 } s m ([.ref md, .int (nI w), .int (nI q)] : List Value).toArray below meth c H locs 0 0 (xMQ below G M sz (fun v M' => v = some (.int (zI (stP nu sg (sg 30) (nu 29 0) w q))) ∧ M' = M) (fun _ _ => False) s 0 0) (F0 m 26 ls [.int (zI (0 < nu 13 w ∧ q + nu 13 w ≤ nu 29 0 ∧ ∀ j, j < 0 → sg 30 (q + j) = sg 14 (8 * w + j)))]) := by
    intro H locs ls hw hl
    refine lv_istore (lv' := [(4, .int (zI (0 < nu 13 w ∧ q + nu 13 w ≤ nu 29 0 ∧ ∀ j, j < 0 → sg 30 (q + j) = sg 14 (8 * w + j)))), (3, .int (nI (nu 13 w))), (0, .ref md), (1, .int (nI w)), (2, .int (nI q))]) hx hb d_M_stands_26 hl (by decide) rfl (fun ls hl => ?_)
    refine lv_iconst (v := nI 0) hx hb d_M_stands_28 (by decide) ?_
    refine lv_istore (lv' := [(5, .int (nI 0)), (4, .int (zI (0 < nu 13 w ∧ q + nu 13 w ≤ nu 29 0 ∧ ∀ j, j < 0 → sg 30 (q + j) = sg 14 (8 * w + j)))), (3, .int (nI (nu 13 w))), (0, .ref md), (1, .int (nI w)), (2, .int (nI q))]) hx hb d_M_stands_29 hl (by decide) rfl (fun ls hl => ?_)
    have HL31 : ∀ (z31 k : Nat), k ≤ nu 13 w → nu 13 w + 1 ≤ k + z31 → ∀ (H : Heap) (locs : List Loc) (ls : Array Slot), xWd G (xA M sz) s.heap M H locs → lv_has ls 6 [(0, .ref md), (1, .int (nI w)), (2, .int (nI q)), (3, .int (nI (nu 13 w))), (4, .int (zI (0 < nu 13 w ∧ q + nu 13 w ≤ nu 29 0 ∧ ∀ j, j < k → sg 30 (q + j) = sg 14 (8 * w + j)))), (5, .int (nI k))] → W p l e { frames := 0, cells := 0, slots := 0, locals := 0 } s m ([.ref md, .int (nI w), .int (nI q)] : List Value).toArray below meth c H locs 0 0 (xMQ below G M sz (fun v M' => v = some (.int (zI (stP nu sg (sg 30) (nu 29 0) w q))) ∧ M' = M) (fun _ _ => False) s 0 0) (F0 m 31 ls []) := by
      intro z31
      induction z31 with
      | zero =>
        intro k  h1 h2
        omega
      | succ z31 ih31 =>
        intro k  hi31 hz31  H locs ls hw hl
        refine lv_iload hx hb d_M_stands_31 (lv_at hl 4 rfl) ?_
        refine lv_if_eq (tgt := 79) hx hb d_M_stands_33 (by decide) (fun c_33 => ?_) (fun c_33 => ?_)
        · have c_33 := zI_0.mp c_33
          refine lv_iload hx hb d_M_stands_79 (lv_at hl 4 rfl) ?_
          exact x_zret hC hr hw (by first | exact zI_narV _ | rfl | assumption | decide +kernel) (⟨congrArg (fun z => some (Value.int z)) (zI_c ⟨fun h => absurd h c_33, fun h => absurd (show _ from ⟨h.1, h.2.1, fun j hj => h.2.2 j (by omega)⟩) c_33⟩), rfl⟩) (Nat.le_of_ble_eq_true rfl) (Nat.le_of_ble_eq_true rfl) d_M_stands_81
        · have c_33 := zI_1.mp c_33
          have b1 := c_33.2.1
          refine lv_iload hx hb d_M_stands_36 (lv_at hl 5 rfl) ?_
          refine lv_iload_n hx hb d_M_stands_38 rfl (lv_at hl 3 rfl) ?_
          refine lv_icmp_ge (tgt := 79) hx hb d_M_stands_39 (by decide) (fun c_39 => ?_) (fun c_39 => ?_)
          · have c_39 := (nI_leI (by omega) (by omega)).mp c_39
            refine lv_iload hx hb d_M_stands_79 (lv_at hl 4 rfl) ?_
            exact x_zret hC hr hw (by first | exact zI_narV _ | rfl | assumption | decide +kernel) (⟨congrArg (fun z => some (Value.int z)) (zI_c ⟨fun h => ⟨h.1, h.2.1, fun j hj => h.2.2 j (by omega)⟩, fun h => ⟨h.1, h.2.1, fun j hj => h.2.2 j (by omega)⟩⟩), rfl⟩) (Nat.le_of_ble_eq_true rfl) (Nat.le_of_ble_eq_true rfl) d_M_stands_81
          · have c_39 := Nat.not_le.mp ((not_congr (nI_leI (by omega) (by omega))).mp c_39)
            have J71 : ∀ (H : Heap) (locs : List Loc) (ls : Array Slot), xWd G (xA M sz) s.heap M H locs → lv_has ls 6 [(0, .ref md), (1, .int (nI w)), (2, .int (nI q)), (3, .int (nI (nu 13 w))), (4, .int (zI (0 < nu 13 w ∧ q + nu 13 w ≤ nu 29 0 ∧ ∀ j, j < k → sg 30 (q + j) = sg 14 (8 * w + j)))), (5, .int (nI k))] → W p l e { frames := 0, cells := 0, slots := 0, locals := 0 } s m ([.ref md, .int (nI w), .int (nI q)] : List Value).toArray below meth c H locs 0 0 (xMQ below G M sz (fun v M' => v = some (.int (zI (stP nu sg (sg 30) (nu 29 0) w q))) ∧ M' = M) (fun _ _ => False) s 0 0) (F0 m 71 ls [.int (zI (0 < nu 13 w ∧ q + nu 13 w ≤ nu 29 0 ∧ ∀ j, j < (k + 1) → sg 30 (q + j) = sg 14 (8 * w + j)))]) := by
              intro H locs ls hw hl
              refine lv_istore (lv' := [(4, .int (zI (0 < nu 13 w ∧ q + nu 13 w ≤ nu 29 0 ∧ ∀ j, j < (k + 1) → sg 30 (q + j) = sg 14 (8 * w + j)))), (0, .ref md), (1, .int (nI w)), (2, .int (nI q)), (3, .int (nI (nu 13 w))), (5, .int (nI k))]) hx hb d_M_stands_71 hl (by decide) rfl (fun ls hl => ?_)
              refine lv_iinc (v := nI (k + 1)) (lv' := [(5, .int (nI (k + 1))), (4, .int (zI (0 < nu 13 w ∧ q + nu 13 w ≤ nu 29 0 ∧ ∀ j, j < (k + 1) → sg 30 (q + j) = sg 14 (8 * w + j)))), (0, .ref md), (1, .int (nI w)), (2, .int (nI q)), (3, .int (nI (nu 13 w)))]) hx hb d_M_stands_73 hl (k := 5) rfl (by exact nI_1 _) (by decide) rfl (fun ls hl => ?_)
              refine lv_goto (tgt := 31) hx hb d_M_stands_76 (by decide) ?_
              exact ih31 (k + 1)  (by omega) (by omega)  _ _ _ hw (lv_sub hl [2, 3, 4, 5, 1, 0] rfl)
            refine lv_aload_n hx hb d_M_stands_42 rfl (lv_at hl 0 rfl) ?_
            refine x_get hC hw hR.1 rfl 30 (by decide) (hts _ k_764) (fun _ h9 => h9) rfl d_M_stands_43 ?_
            refine lv_iload_n hx hb d_M_stands_46 rfl (lv_at hl 2 rfl) ?_
            refine lv_iload hx hb d_M_stands_47 (lv_at hl 5 rfl) ?_
            refine lv_iadd hx hb d_M_stands_49 ?_
            refine x_vi (y := nI (q + k)) (nI_add _ _) ?_
            refine m_ldI hC hw hR 30 (q + k) rfl (rfl) (by show _ < 60; omega) (by decide) d_M_stands_50 ?_
            refine lv_aload_n hx hb d_M_stands_51 rfl (lv_at hl 0 rfl) ?_
            refine x_get hC hw hR.1 rfl 14 (by decide) (hts _ k_748) (fun _ h9 => h9) rfl d_M_stands_52 ?_
            refine lv_bipush (v := nI 8) hx hb d_M_stands_55 (by decide) ?_
            refine lv_iload_n hx hb d_M_stands_57 rfl (lv_at hl 1 rfl) ?_
            refine lv_imul hx hb d_M_stands_58 ?_
            refine x_vi (y := nI (8 * w)) (pk_mul _ _) ?_
            refine lv_iload hx hb d_M_stands_59 (lv_at hl 5 rfl) ?_
            refine lv_iadd hx hb d_M_stands_61 ?_
            refine x_vi (y := nI ((8 * w) + k)) (nI_add _ _) ?_
            refine m_ldI hC hw hR 14 ((8 * w) + k) rfl (rfl) (by show _ < 32; omega) (by decide) d_M_stands_62 ?_
            refine lv_icmp_ne (tgt := 70) hx hb d_M_stands_63 (by decide) (fun c_63 => ?_) (fun c_63 => ?_)
            · refine lv_iconst (v := nI 0) hx hb d_M_stands_70 (by decide) ?_
              refine x_vi (y := zI (0 < nu 13 w ∧ q + nu 13 w ≤ nu 29 0 ∧ ∀ j, j < (k + 1) → sg 30 (q + j) = sg 14 (8 * w + j))) ((zI_f (fun h => c_63 (h.2.2 k (by omega)))).symm) ?_
              exact J71 _ _ _ hw (lv_sub hl [0, 1, 2, 3, 4, 5] rfl)
            · refine lv_iconst (v := nI 1) hx hb d_M_stands_66 (by decide) ?_
              refine lv_goto (tgt := 71) hx hb d_M_stands_67 (by decide) ?_
              refine x_vi (y := zI (0 < nu 13 w ∧ q + nu 13 w ≤ nu 29 0 ∧ ∀ j, j < (k + 1) → sg 30 (q + j) = sg 14 (8 * w + j))) ((zI_t ⟨c_33.1, c_33.2.1, x_all1 c_33.2.2 c_63⟩).symm) ?_
              exact J71 _ _ _ hw (lv_sub hl [0, 1, 2, 3, 4, 5] rfl)
    exact HL31 (nu 13 w + 1) (0)  (by omega) (by omega)  _ _ _ hw (lv_sub hl [3, 4, 5, 2, 1, 0] rfl)
  refine lv_iload_n hx hb d_M_stands_7 rfl (lv_at hl 0 rfl) ?_
  refine lv_if_le (tgt := 25) hx hb d_M_stands_8 (by decide) (fun c_8 => ?_) (fun c_8 => ?_)
  · have c_8 := (x_le0 (by omega)).mp c_8
    refine lv_iconst (v := nI 0) hx hb d_M_stands_25 (by decide) ?_
    refine x_vi (y := zI (0 < nu 13 w ∧ q + nu 13 w ≤ nu 29 0 ∧ ∀ j, j < 0 → sg 30 (q + j) = sg 14 (8 * w + j))) ((zI_f (fun h => by omega)).symm) ?_
    exact J26 _ _ _ hw (lv_sub hl [0, 1, 2, 3] rfl)
  · have c_8 := (not_congr (x_le0 (by omega))).mp c_8
    refine lv_iload_n hx hb d_M_stands_11 rfl (lv_at hl 3 rfl) ?_
    refine lv_iload_n hx hb d_M_stands_12 rfl (lv_at hl 0 rfl) ?_
    refine lv_iadd hx hb d_M_stands_13 ?_
    refine x_vi (y := nI (q + (nu 13 w))) (nI_add _ _) ?_
    refine lv_aload_n hx hb d_M_stands_14 rfl (lv_at hl 1 rfl) ?_
    refine x_get hC hw hR.1 rfl 29 (by decide) (hts _ k_763) (fun _ h9 => h9) rfl d_M_stands_15 ?_
    refine lv_icmp_gt (tgt := 25) hx hb d_M_stands_18 (by decide) (fun c_18 => ?_) (fun c_18 => ?_)
    · have c_18 := (nI_ltI (by omega) (by omega)).mp c_18
      refine lv_iconst (v := nI 0) hx hb d_M_stands_25 (by decide) ?_
      refine x_vi (y := zI (0 < nu 13 w ∧ q + nu 13 w ≤ nu 29 0 ∧ ∀ j, j < 0 → sg 30 (q + j) = sg 14 (8 * w + j))) ((zI_f (fun h => by omega)).symm) ?_
      exact J26 _ _ _ hw (lv_sub hl [0, 1, 2, 3] rfl)
    · have c_18 := Nat.not_lt.mp ((not_congr (nI_ltI (by omega) (by omega))).mp c_18)
      refine lv_iconst (v := nI 1) hx hb d_M_stands_21 (by decide) ?_
      refine lv_goto (tgt := 26) hx hb d_M_stands_22 (by decide) ?_
      refine x_vi (y := zI (0 < nu 13 w ∧ q + nu 13 w ≤ nu 29 0 ∧ ∀ j, j < 0 → sg 30 (q + j) = sg 14 (8 * w + j))) ((zI_t ⟨by omega, by omega, fun j hj => absurd hj (Nat.not_lt_zero j)⟩).symm) ?_
      exact J26 _ _ _ hw (lv_sub hl [0, 1, 2, 3] rfl)
end
section
theorem x_fw4 {nu : Nat → Nat → Nat} {sg : Nat → Nat → Int32} {row : Nat → Int32} {rs w q k : Nat} {g g1 : Nat → Int32} (h : ∀ j, j < rs → g j = zI (iwU nu sg row rs w q j ∨ (stP nu sg row rs w q ∧ q ≤ j ∧ j < q + k))) (e : g1 = va_up g (q + k) (zI True)) (hs : stP nu sg row rs w q) : ∀ j, j < rs → g1 j = zI (iwU nu sg row rs w q j ∨ (stP nu sg row rs w q ∧ q ≤ j ∧ j < q + (k + 1))) := by
  intro j hj
  rw [e]
  by_cases hz : j = q + k
  · rw [hz, va_up_self]
    exact zI_c ⟨fun _ => Or.inr ⟨hs, by omega, by omega⟩, fun _ => trivial⟩
  · rw [va_up_ne _ _ hz, h j hj]
    exact zI_c (or_congr Iff.rfl (and_congr Iff.rfl (by omega)))
set_option maxHeartbeats 4000000 in
set_option maxRecDepth 100000 in
/-- findWords -/
theorem c_M_findWords (l : Launch) (G : xT) (M : xMem) (sz : Nat) (md : Nat) (am : Nat → Nat) (nu : Nat → Nat → Nat) (sg : Nat → Nat → Int32) (hR : mRep G M md am nu sg) (h4 : nu 12 0 ≤ 4) (h8 : ∀ w, w < nu 12 0 → nu 13 w ≤ 8) (hs : nu 29 0 ≤ 60) : xMet l G y_M_findWords (Cond.code y_M_findWords b_M_findWords 4 none :: x_tbl) { frames := 1, cells := 0, slots := 0, locals := 25 } [.ref md] M sz (fun v M' => v = none ∧ ∃ (nu' : Nat → Nat → Nat) (sg' : Nat → Nat → Int32), mRep G M' md am nu' sg' ∧ eqx [] nu nu' ∧ eqx [31] sg sg' ∧ xfr M M' (mS md am) ∧ ∀ k, k < nu 29 0 → sg' 31 k = zI (iwP nu sg (sg 30) (nu 29 0) k)) (fun _ _ => False) := by
  refine xMet.of (by decide) (Nat.le_of_ble_eq_true rfl) ?_
  intro p e s m below meth c ls hC hr hnm hno hsz hw hl
  obtain ⟨hx, hb, hown, hts, hK, hml, hlk, hz⟩ := id hC
  have hl : lv_has ls 4 [(0, .ref md)] := hl
  have hF : xfr M M (mS md am) := xfr.rf
  refine lv_iconst (v := nI 0) hx hb d_M_findWords_0 (by decide) ?_
  refine lv_istore_n (lv' := [(1, .int (nI 0)), (0, .ref md)]) hx hb d_M_findWords_1 rfl hl (by decide) rfl (fun ls hl => ?_)
  have HL2 : ∀ (z2 k : Nat) (nuL1 : Nat → Nat → Nat) (sgL2 : Nat → Nat → Int32), k ≤ nu 29 0 → nu 29 0 + 1 ≤ k + z2 → (∀ j, j < k → sgL2 31 j = zI (iwU nu sg (sg 30) (nu 29 0) 0 0 j)) → ∀ (M1 : xMem), mRep G M1 md am nuL1 sgL2 → eqx [] nu nuL1 → eqx [31] sg sgL2 → xfr M M1 (mS md am) → ∀ (H : Heap) (locs : List Loc) (ls : Array Slot), xWd G (xA M sz) s.heap M1 H locs → lv_has ls 4 [(0, .ref md), (1, .int (nI k))] → W p l e { frames := 1, cells := 0, slots := 0, locals := 25 } s m ([.ref md] : List Value).toArray below meth c H locs 0 0 (xMQ below G M sz (fun v M' => v = none ∧ ∃ (nu' : Nat → Nat → Nat) (sg' : Nat → Nat → Int32), mRep G M' md am nu' sg' ∧ eqx [] nu nu' ∧ eqx [31] sg sg' ∧ xfr M M' (mS md am) ∧ ∀ k, k < nu 29 0 → sg' 31 k = zI (iwP nu sg (sg 30) (nu 29 0) k)) (fun _ _ => False) s 0 0) (F0 m 2 ls []) := by
    intro z2
    induction z2 with
    | zero =>
      intro k  nuL1 sgL2 h1 h2
      omega
    | succ z2 ih2 =>
      intro k  nuL1 sgL2 hi2 hz2 hg M1 hR hnuL1 hsgL2 hF H locs ls hw hl
      refine lv_iload_n hx hb d_M_findWords_2 rfl (lv_at hl 1 rfl) ?_
      refine lv_aload_n hx hb d_M_findWords_3 rfl (lv_at hl 0 rfl) ?_
      refine x_get hC hw hR.1 rfl 29 (by decide) (hts _ k_763) (fun _ h9 => h9) rfl d_M_findWords_4 ?_
      refine x_vi (y := nI (nu 29 0)) (by rw [hnuL1 29 (by decide)]) ?_
      refine lv_icmp_ge (tgt := 23) hx hb d_M_findWords_7 (by decide) (fun c_7 => ?_) (fun c_7 => ?_)
      · have c_7 := (nI_leI (by omega) (by omega)).mp c_7
        refine lv_iconst (v := nI 0) hx hb d_M_findWords_23 (by decide) ?_
        refine lv_istore_n (lv' := [(1, .int (nI 0)), (0, .ref md)]) hx hb d_M_findWords_24 rfl hl (by decide) rfl (fun ls hl => ?_)
        have HL25 : ∀ (z25 w : Nat) (nuL3 : Nat → Nat → Nat) (sgL4 : Nat → Nat → Int32), w ≤ nu 12 0 → nu 12 0 + 1 ≤ w + z25 → (∀ j, j < nu 29 0 → sgL4 31 j = zI (iwU nu sg (sg 30) (nu 29 0) w 0 j)) → ∀ (M1 : xMem), mRep G M1 md am nuL3 sgL4 → eqx [] nuL1 nuL3 → eqx [31] sgL2 sgL4 → xfr M M1 (mS md am) → ∀ (H : Heap) (locs : List Loc) (ls : Array Slot), xWd G (xA M sz) s.heap M1 H locs → lv_has ls 4 [(0, .ref md), (1, .int (nI w))] → W p l e { frames := 1, cells := 0, slots := 0, locals := 25 } s m ([.ref md] : List Value).toArray below meth c H locs 0 0 (xMQ below G M sz (fun v M' => v = none ∧ ∃ (nu' : Nat → Nat → Nat) (sg' : Nat → Nat → Int32), mRep G M' md am nu' sg' ∧ eqx [] nu nu' ∧ eqx [31] sg sg' ∧ xfr M M' (mS md am) ∧ ∀ k, k < nu 29 0 → sg' 31 k = zI (iwP nu sg (sg 30) (nu 29 0) k)) (fun _ _ => False) s 0 0) (F0 m 25 ls []) := by
          intro z25
          induction z25 with
          | zero =>
            intro w  nuL3 sgL4 h1 h2
            omega
          | succ z25 ih25 =>
            intro w  nuL3 sgL4 hi25 hz25 hg M1 hR hnuL3 hsgL4 hF H locs ls hw hl
            refine lv_iload_n hx hb d_M_findWords_25 rfl (lv_at hl 1 rfl) ?_
            refine lv_aload_n hx hb d_M_findWords_26 rfl (lv_at hl 0 rfl) ?_
            refine x_get hC hw hR.1 rfl 12 (by decide) (hts _ k_746) (fun _ h9 => h9) rfl d_M_findWords_27 ?_
            refine x_vi (y := nI (nu 12 0)) (by rw [hnuL3 12 (by decide), hnuL1 12 (by decide)]) ?_
            refine lv_icmp_ge (tgt := 91) hx hb d_M_findWords_30 (by decide) (fun c_30 => ?_) (fun c_30 => ?_)
            · have c_30 := (nI_leI (by omega) (by omega)).mp c_30
              exact x_vret hC hr hw (⟨rfl, nuL3, sgL4, hR, (eqx.trans (L := []) (eqx.trans (L := []) (eqx.rf (L := [])) hnuL1 (by decide) (by decide)) hnuL3 (by decide) (by decide)), (eqx.trans (L := [31]) (eqx.trans (L := [31]) (eqx.rf (L := [31])) hsgL2 (by decide) (by decide)) hsgL4 (by decide) (by decide)), hF, fun j hj => (hg j hj).trans (zI_c (by rw [show w = nu 12 0 by omega]; exact iwU_end))⟩) (Nat.le_of_ble_eq_true rfl) (Nat.le_of_ble_eq_true rfl) d_M_findWords_91
            · have c_30 := Nat.not_le.mp ((not_congr (nI_leI (by omega) (by omega))).mp c_30)
              refine lv_iconst (v := nI 0) hx hb d_M_findWords_33 (by decide) ?_
              refine lv_istore_n (lv' := [(2, .int (nI 0)), (0, .ref md), (1, .int (nI w))]) hx hb d_M_findWords_34 rfl hl (by decide) rfl (fun ls hl => ?_)
              have HL35 : ∀ (z35 q : Nat) (nuL5 : Nat → Nat → Nat) (sgL6 : Nat → Nat → Int32), q ≤ nu 29 0 → nu 29 0 + 1 ≤ q + z35 → (∀ j, j < nu 29 0 → sgL6 31 j = zI (iwU nu sg (sg 30) (nu 29 0) w q j)) → ∀ (M1 : xMem), mRep G M1 md am nuL5 sgL6 → eqx [] nuL3 nuL5 → eqx [31] sgL4 sgL6 → xfr M M1 (mS md am) → ∀ (H : Heap) (locs : List Loc) (ls : Array Slot), xWd G (xA M sz) s.heap M1 H locs → lv_has ls 4 [(0, .ref md), (1, .int (nI w)), (2, .int (nI q))] → W p l e { frames := 1, cells := 0, slots := 0, locals := 25 } s m ([.ref md] : List Value).toArray below meth c H locs 0 0 (xMQ below G M sz (fun v M' => v = none ∧ ∃ (nu' : Nat → Nat → Nat) (sg' : Nat → Nat → Int32), mRep G M' md am nu' sg' ∧ eqx [] nu nu' ∧ eqx [31] sg sg' ∧ xfr M M' (mS md am) ∧ ∀ k, k < nu 29 0 → sg' 31 k = zI (iwP nu sg (sg 30) (nu 29 0) k)) (fun _ _ => False) s 0 0) (F0 m 35 ls []) := by
                intro z35
                induction z35 with
                | zero =>
                  intro q  nuL5 sgL6 h1 h2
                  omega
                | succ z35 ih35 =>
                  intro q  nuL5 sgL6 hi35 hz35 hg M1 hR hnuL5 hsgL6 hF H locs ls hw hl
                  refine lv_iload_n hx hb d_M_findWords_35 rfl (lv_at hl 2 rfl) ?_
                  refine lv_aload_n hx hb d_M_findWords_36 rfl (lv_at hl 0 rfl) ?_
                  refine x_get hC hw hR.1 rfl 29 (by decide) (hts _ k_763) (fun _ h9 => h9) rfl d_M_findWords_37 ?_
                  refine x_vi (y := nI (nu 29 0)) (by rw [hnuL5 29 (by decide), hnuL3 29 (by decide), hnuL1 29 (by decide)]) ?_
                  refine lv_icmp_ge (tgt := 85) hx hb d_M_findWords_40 (by decide) (fun c_40 => ?_) (fun c_40 => ?_)
                  · have c_40 := (nI_leI (by omega) (by omega)).mp c_40
                    refine lv_iinc (v := nI (w + 1)) (lv' := [(1, .int (nI (w + 1))), (0, .ref md), (2, .int (nI q))]) hx hb d_M_findWords_85 hl (k := 1) rfl (by exact nI_1 _) (by decide) rfl (fun ls hl => ?_)
                    refine lv_goto (tgt := 25) hx hb d_M_findWords_88 (by decide) ?_
                    exact ih25 (w + 1)  nuL5 sgL6 (by omega) (by omega) (fun j hj => (hg j hj).trans (zI_c (by rw [show q = nu 29 0 by omega]; exact iwU_row))) _ hR (eqx.trans (L := []) (eqx.trans (L := []) (eqx.rf (L := [])) hnuL3 (by decide) (by decide)) hnuL5 (by decide) (by decide)) (eqx.trans (L := [31]) (eqx.trans (L := [31]) (eqx.rf (L := [31])) hsgL4 (by decide) (by decide)) hsgL6 (by decide) (by decide)) hF _ _ _ hw (lv_sub hl [1, 0] rfl)
                  · have c_40 := Nat.not_le.mp ((not_congr (nI_leI (by omega) (by omega))).mp c_40)
                    refine lv_iconst (v := nI 0) hx hb d_M_findWords_43 (by decide) ?_
                    refine lv_istore_n (lv' := [(3, .int (nI 0)), (0, .ref md), (1, .int (nI w)), (2, .int (nI q))]) hx hb d_M_findWords_44 rfl hl (by decide) rfl (fun ls hl => ?_)
                    have HL45 : ∀ (z45 k : Nat) (nuL7 : Nat → Nat → Nat) (sgL8 : Nat → Nat → Int32), k ≤ nu 13 w → nu 13 w + 1 ≤ k + z45 → (∀ j, j < nu 29 0 → sgL8 31 j = zI (iwU nu sg (sg 30) (nu 29 0) w q j ∨ (stP nu sg (sg 30) (nu 29 0) w q ∧ q ≤ j ∧ j < q + k))) → ∀ (M1 : xMem), mRep G M1 md am nuL7 sgL8 → eqx [] nuL5 nuL7 → eqx [31] sgL6 sgL8 → xfr M M1 (mS md am) → ∀ (H : Heap) (locs : List Loc) (ls : Array Slot), xWd G (xA M sz) s.heap M1 H locs → lv_has ls 4 [(0, .ref md), (1, .int (nI w)), (2, .int (nI q)), (3, .int (nI k))] → W p l e { frames := 1, cells := 0, slots := 0, locals := 25 } s m ([.ref md] : List Value).toArray below meth c H locs 0 0 (xMQ below G M sz (fun v M' => v = none ∧ ∃ (nu' : Nat → Nat → Nat) (sg' : Nat → Nat → Int32), mRep G M' md am nu' sg' ∧ eqx [] nu nu' ∧ eqx [31] sg sg' ∧ xfr M M' (mS md am) ∧ ∀ k, k < nu 29 0 → sg' 31 k = zI (iwP nu sg (sg 30) (nu 29 0) k)) (fun _ _ => False) s 0 0) (F0 m 45 ls []) := by
                      intro z45
                      induction z45 with
                      | zero =>
                        intro k  nuL7 sgL8 h1 h2
                        omega
                      | succ z45 ih45 =>
                        intro k  nuL7 sgL8 hi45 hz45 hg M1 hR hnuL7 hsgL8 hF H locs ls hw hl
                        have h8w := h8 w (by omega)
                        refine lv_iload_n hx hb d_M_findWords_45 rfl (lv_at hl 3 rfl) ?_
                        refine lv_aload_n hx hb d_M_findWords_46 rfl (lv_at hl 0 rfl) ?_
                        refine x_get hC hw hR.1 rfl 13 (by decide) (hts _ k_747) (fun _ h9 => h9) rfl d_M_findWords_47 ?_
                        refine lv_iload_n hx hb d_M_findWords_50 rfl (lv_at hl 1 rfl) ?_
                        refine m_ldN hC hw hR 13 w rfl (rfl) (by show _ < 4; omega) (by decide) d_M_findWords_51 ?_
                        refine x_vi (y := nI (nu 13 w)) (by rw [hnuL7 13 (by decide), hnuL5 13 (by decide), hnuL3 13 (by decide), hnuL1 13 (by decide)]) ?_
                        refine lv_icmp_ge (tgt := 79) hx hb d_M_findWords_52 (by decide) (fun c_52 => ?_) (fun c_52 => ?_)
                        · have c_52 := (nI_leI (by omega) (by omega)).mp c_52
                          refine lv_iinc (v := nI (q + 1)) (lv' := [(2, .int (nI (q + 1))), (0, .ref md), (1, .int (nI w)), (3, .int (nI k))]) hx hb d_M_findWords_79 hl (k := 2) rfl (by exact nI_1 _) (by decide) rfl (fun ls hl => ?_)
                          refine lv_goto (tgt := 35) hx hb d_M_findWords_82 (by decide) ?_
                          exact ih35 (q + 1)  nuL7 sgL8 (by omega) (by omega) (fun j hj => (hg j hj).trans (zI_c (Iff.trans (by rw [show k = nu 13 w by omega]) (iwU_next (by omega))))) _ hR (eqx.trans (L := []) (eqx.trans (L := []) (eqx.rf (L := [])) hnuL5 (by decide) (by decide)) hnuL7 (by decide) (by decide)) (eqx.trans (L := [31]) (eqx.trans (L := [31]) (eqx.rf (L := [31])) hsgL6 (by decide) (by decide)) hsgL8 (by decide) (by decide)) hF _ _ _ hw (lv_sub hl [1, 2, 0] rfl)
                        · have c_52 := Nat.not_le.mp ((not_congr (nI_leI (by omega) (by omega))).mp c_52)
                          refine lv_aload_n hx hb d_M_findWords_55 rfl (lv_at hl 0 rfl) ?_
                          refine lv_iload_n hx hb d_M_findWords_56 rfl (lv_at hl 1 rfl) ?_
                          refine lv_iload_n hx hb d_M_findWords_57 rfl (lv_at hl 2 rfl) ?_
                          have h8w := h8 w (by omega)
                          refine x_callG hC (c_M_stands l G M1 (Array.size H) md am nuL7 sgL8 hR w q (by omega) (by rw [hnuL7 13 (by decide), hnuL5 13 (by decide), hnuL3 13 (by decide), hnuL1 13 (by decide)]; exact h8w) (by omega) (by rw [hnuL7 29 (by decide), hnuL5 29 (by decide), hnuL3 29 (by decide), hnuL1 29 (by decide)]; exact hs)) k_902 k_13 ⟨Nat.le_of_ble_eq_true rfl, Nat.le_of_ble_eq_true rfl⟩ ⟨Nat.le_of_ble_eq_true rfl, Nat.le_of_ble_eq_true rfl⟩ hw hl.1 (Nat.le_of_ble_eq_true rfl) d_M_findWords_58 (x_ivV hC k_902 k_899 k_901 kp_27 (show _ ∧ _ ∧ _ = some 2 from by decide +kernel) (x_recv hC hw hR.1 rfl) rfl d_M_findWords_58) (fun rv M9 H locs hq hw => ?_) (fun _ _ _ _ _ h _ _ => h.elim)
                          obtain ⟨rfl, hM⟩ := hq
                          subst M9
                          refine W.eq (g2 := F0 m 61 ls [.int (zI (stP nuL7 sgL8 (sgL8 30) (nuL7 29 0) w q))]) rfl ?_
                          refine x_vi (y := zI (stP nu sg (sg 30) (nu 29 0) w q)) (by unfold stP; rw [hnuL7 13 (by decide), hnuL5 13 (by decide), hnuL3 13 (by decide), hnuL1 13 (by decide), hnuL7 29 (by decide), hnuL5 29 (by decide), hnuL3 29 (by decide), hnuL1 29 (by decide), hsgL8 30 (by decide), hsgL6 30 (by decide), hsgL4 30 (by decide), hsgL2 30 (by decide), hsgL8 14 (by decide), hsgL6 14 (by decide), hsgL4 14 (by decide), hsgL2 14 (by decide)]) ?_
                          refine lv_if_eq (tgt := 79) hx hb d_M_findWords_61 (by decide) (fun c_61 => ?_) (fun c_61 => ?_)
                          · have c_61 := zI_0.mp c_61
                            refine lv_iinc (v := nI (q + 1)) (lv' := [(2, .int (nI (q + 1))), (0, .ref md), (1, .int (nI w)), (3, .int (nI k))]) hx hb d_M_findWords_79 hl (k := 2) rfl (by exact nI_1 _) (by decide) rfl (fun ls hl => ?_)
                            refine lv_goto (tgt := 35) hx hb d_M_findWords_82 (by decide) ?_
                            exact ih35 (q + 1)  nuL7 sgL8 (by omega) (by omega) (fun j hj => (hg j hj).trans (zI_c (Iff.trans ⟨fun h => h.elim Or.inl (fun z => absurd z.1 c_61), fun h => h.elim Or.inl (fun z => absurd z.1 c_61)⟩ (iwU_next (by omega))))) _ hR (eqx.trans (L := []) (eqx.trans (L := []) (eqx.rf (L := [])) hnuL5 (by decide) (by decide)) hnuL7 (by decide) (by decide)) (eqx.trans (L := [31]) (eqx.trans (L := [31]) (eqx.rf (L := [31])) hsgL6 (by decide) (by decide)) hsgL8 (by decide) (by decide)) hF _ _ _ hw (lv_sub hl [1, 2, 0] rfl)
                          · have c_61 := zI_1.mp c_61
                            have b1 := c_61.2.1
                            refine lv_aload_n hx hb d_M_findWords_64 rfl (lv_at hl 0 rfl) ?_
                            refine x_get hC hw hR.1 rfl 31 (by decide) (hts _ k_765) (fun _ h9 => h9) rfl d_M_findWords_65 ?_
                            refine lv_iload_n hx hb d_M_findWords_68 rfl (lv_at hl 2 rfl) ?_
                            refine lv_iload_n hx hb d_M_findWords_69 rfl (lv_at hl 3 rfl) ?_
                            refine lv_iadd hx hb d_M_findWords_70 ?_
                            refine x_vi (y := nI (q + k)) (nI_add _ _) ?_
                            refine lv_iconst (v := nI 1) hx hb d_M_findWords_71 (by decide) ?_
                            refine m_stZ hC hw hR hF 31 (q + k) rfl True ((zI_t trivial).symm) (rfl) (by show _ < 60; omega) (by decide) d_M_findWords_72 (fun M10 H locs sg11 hsg11 esg11 hR hF hw => ?_)
                            refine lv_iinc (v := nI (k + 1)) (lv' := [(3, .int (nI (k + 1))), (0, .ref md), (1, .int (nI w)), (2, .int (nI q))]) hx hb d_M_findWords_73 hl (k := 3) rfl (by exact nI_1 _) (by decide) rfl (fun ls hl => ?_)
                            refine lv_goto (tgt := 45) hx hb d_M_findWords_76 (by decide) ?_
                            exact ih45 (k + 1)  nuL7 sg11 (by omega) (by omega) (x_fw4 hg esg11 c_61) _ hR (eqx.trans (L := []) (eqx.rf (L := [])) hnuL7 (by decide) (by decide)) (eqx.trans (L := [31]) (eqx.trans (L := [31]) (eqx.rf (L := [31])) hsgL8 (by decide) (by decide)) hsg11 (by decide) (by decide)) hF _ _ _ hw (lv_sub hl [1, 2, 3, 0] rfl)
                    exact HL45 (nu 13 w + 1) (0)  nuL5 sgL6 (by omega) (by omega) (fun j hj => (hg j hj).trans (zI_c ⟨Or.inl, fun h => h.elim id (fun z => by omega)⟩)) _ hR eqx.rf eqx.rf hF _ _ _ hw (lv_sub hl [1, 2, 3, 0] rfl)
              exact HL35 (nu 29 0 + 1) (0)  nuL3 sgL4 (by omega) (by omega) (hg) _ hR eqx.rf eqx.rf hF _ _ _ hw (lv_sub hl [1, 2, 0] rfl)
        exact HL25 (nu 12 0 + 1) (0)  nuL1 sgL2 (by omega) (by omega) (fun j hj => hg j (by omega)) _ hR eqx.rf eqx.rf hF _ _ _ hw (lv_sub hl [1, 0] rfl)
      · have c_7 := Nat.not_le.mp ((not_congr (nI_leI (by omega) (by omega))).mp c_7)
        refine lv_aload_n hx hb d_M_findWords_10 rfl (lv_at hl 0 rfl) ?_
        refine x_get hC hw hR.1 rfl 31 (by decide) (hts _ k_765) (fun _ h9 => h9) rfl d_M_findWords_11 ?_
        refine lv_iload_n hx hb d_M_findWords_14 rfl (lv_at hl 1 rfl) ?_
        refine lv_iconst (v := nI 0) hx hb d_M_findWords_15 (by decide) ?_
        refine m_stZ hC hw hR hF 31 k rfl False ((zI_f id).symm) (rfl) (by show _ < 60; omega) (by decide) d_M_findWords_16 (fun M12 H locs sg13 hsg13 esg13 hR hF hw => ?_)
        refine lv_iinc (v := nI (k + 1)) (lv' := [(1, .int (nI (k + 1))), (0, .ref md)]) hx hb d_M_findWords_17 hl (k := 1) rfl (by exact nI_1 _) (by decide) rfl (fun ls hl => ?_)
        refine lv_goto (tgt := 2) hx hb d_M_findWords_20 (by decide) ?_
        exact ih2 (k + 1)  nuL1 sg13 (by omega) (by omega) (x_upS (f := fun j => zI (iwU nu sg (sg 30) (nu 29 0) 0 0 j)) hg esg13 (zI_c ⟨fun h => h.elim, fun h => absurd h iwU_0⟩)) _ hR (eqx.trans (L := []) (eqx.rf (L := [])) hnuL1 (by decide) (by decide)) (eqx.trans (L := [31]) (eqx.trans (L := [31]) (eqx.rf (L := [31])) hsgL2 (by decide) (by decide)) hsg13 (by decide) (by decide)) hF _ _ _ hw (lv_sub hl [1, 0] rfl)
  exact HL2 (nu 29 0 + 1) (0)  nu sg (by omega) (by omega) (fun j hj => absurd hj (Nat.not_lt_zero j)) _ hR eqx.rf eqx.rf hF _ _ _ hw (lv_sub hl [1, 0] rfl)

set_option maxHeartbeats 4000000 in
set_option maxRecDepth 100000 in
/-- digit -/
theorem c_M_digit (l : Launch) (G : xT) (M : xMem) (sz : Nat)  (b : Int32) : xMet l G y_M_digit (Cond.code y_M_digit b_M_digit 1 (Option.some Jvm.ClassFile.FieldType.int) :: x_tbl) { frames := 1, cells := 0, slots := 0, locals := 25 } [.int b] M sz (fun v M' => v = some (.int (dgI b)) ∧ M' = M) (fun _ _ => False) := by
  refine xMet.of (by decide) (Nat.le_of_ble_eq_true rfl) ?_
  intro p e s m below meth c ls hC hr hnm hno hsz hw hl
  obtain ⟨hx, hb, hown, hts, hK, hml, hlk, hz⟩ := id hC
  have hl : lv_has ls 1 [(0, .int b)] := hl
  refine lv_iload_n hx hb d_M_digit_0 rfl (lv_at hl 0 rfl) ?_
  refine lv_bipush (v := nI 48) hx hb d_M_digit_1 (by decide) ?_
  refine lv_bipush (v := nI 57) hx hb d_M_digit_3 (by decide) ?_
  refine x_callG hC (c_M_in l G M (Array.size s.heap) b (nI 48) (nI 57)) k_842 k_13 ⟨Nat.le_of_ble_eq_true rfl, Nat.le_of_ble_eq_true rfl⟩ ⟨Nat.le_of_ble_eq_true rfl, Nat.le_of_ble_eq_true rfl⟩ hw hl.1 (Nat.le_of_ble_eq_true rfl) d_M_digit_5 (x_ivS hC k_842 k_840 k_841 k_13 (show _ ∧ _ ∧ _ = some 3 from by decide +kernel) rfl d_M_digit_5) (fun rv M1 H locs hq hw => ?_) (fun _ _ _ _ _ h _ _ => h.elim)
  obtain ⟨rfl, hM⟩ := hq
  subst M1
  refine W.eq (g2 := F0 m 8 ls [.int (zI (inP b (nI 48) (nI 57)))]) rfl ?_
  refine lv_if_eq (tgt := 16) hx hb d_M_digit_8 (by decide) (fun c_8 => ?_) (fun c_8 => ?_)
  · have c_8 := zI_0.mp c_8
    have c_8 : ¬ (¬ b < nI 48 ∧ ¬ b > nI 57) := c_8
    refine lv_iload_n hx hb d_M_digit_16 rfl (lv_at hl 0 rfl) ?_
    refine lv_bipush (v := nI 65) hx hb d_M_digit_17 (by decide) ?_
    refine lv_bipush (v := nI 70) hx hb d_M_digit_19 (by decide) ?_
    refine x_callG hC (c_M_in l G M (Array.size H) b (nI 65) (nI 70)) k_842 k_13 ⟨Nat.le_of_ble_eq_true rfl, Nat.le_of_ble_eq_true rfl⟩ ⟨Nat.le_of_ble_eq_true rfl, Nat.le_of_ble_eq_true rfl⟩ hw hl.1 (Nat.le_of_ble_eq_true rfl) d_M_digit_21 (x_ivS hC k_842 k_840 k_841 k_13 (show _ ∧ _ ∧ _ = some 3 from by decide +kernel) rfl d_M_digit_21) (fun rv M2 H locs hq hw => ?_) (fun _ _ _ _ _ h _ _ => h.elim)
    obtain ⟨rfl, hM⟩ := hq
    subst M2
    refine W.eq (g2 := F0 m 24 ls [.int (zI (inP b (nI 65) (nI 70)))]) rfl ?_
    refine lv_if_eq (tgt := 35) hx hb d_M_digit_24 (by decide) (fun c_24 => ?_) (fun c_24 => ?_)
    · have c_24 := zI_0.mp c_24
      have c_24 : ¬ (¬ b < nI 65 ∧ ¬ b > nI 70) := c_24
      refine lv_iload_n hx hb d_M_digit_35 rfl (lv_at hl 0 rfl) ?_
      refine lv_bipush (v := nI 97) hx hb d_M_digit_36 (by decide) ?_
      refine lv_bipush (v := nI 102) hx hb d_M_digit_38 (by decide) ?_
      refine x_callG hC (c_M_in l G M (Array.size H) b (nI 97) (nI 102)) k_842 k_13 ⟨Nat.le_of_ble_eq_true rfl, Nat.le_of_ble_eq_true rfl⟩ ⟨Nat.le_of_ble_eq_true rfl, Nat.le_of_ble_eq_true rfl⟩ hw hl.1 (Nat.le_of_ble_eq_true rfl) d_M_digit_40 (x_ivS hC k_842 k_840 k_841 k_13 (show _ ∧ _ ∧ _ = some 3 from by decide +kernel) rfl d_M_digit_40) (fun rv M3 H locs hq hw => ?_) (fun _ _ _ _ _ h _ _ => h.elim)
      obtain ⟨rfl, hM⟩ := hq
      subst M3
      refine W.eq (g2 := F0 m 43 ls [.int (zI (inP b (nI 97) (nI 102)))]) rfl ?_
      refine lv_if_eq (tgt := 56) hx hb d_M_digit_43 (by decide) (fun c_43 => ?_) (fun c_43 => ?_)
      · have c_43 := zI_0.mp c_43
        have c_43 : ¬ (¬ b < nI 97 ∧ ¬ b > nI 102) := c_43
        refine lv_iconst (v := (-1)) hx hb d_M_digit_56 (by decide) ?_
        exact x_iret hC hr hw (⟨congrArg (fun z => some (Value.int z)) (by unfold dgI; rw [if_neg c_8, if_neg c_24, if_neg c_43]), rfl⟩) (Nat.le_of_ble_eq_true rfl) (Nat.le_of_ble_eq_true rfl) d_M_digit_57
      · have c_43 := zI_1.mp c_43
        have c_43 : ¬ b < nI 97 ∧ ¬ b > nI 102 := c_43
        refine lv_iload_n hx hb d_M_digit_46 rfl (lv_at hl 0 rfl) ?_
        refine lv_bipush (v := nI 97) hx hb d_M_digit_47 (by decide) ?_
        refine lv_isub hx hb d_M_digit_49 ?_
        refine lv_bipush (v := nI 10) hx hb d_M_digit_50 (by decide) ?_
        refine lv_iadd hx hb d_M_digit_52 ?_
        refine lv_goto (tgt := 57) hx hb d_M_digit_53 (by decide) ?_
        exact x_iret hC hr hw (⟨congrArg (fun z => some (Value.int z)) (by unfold dgI; rw [if_neg c_8, if_neg c_24, if_pos c_43]), rfl⟩) (Nat.le_of_ble_eq_true rfl) (Nat.le_of_ble_eq_true rfl) d_M_digit_57
    · have c_24 := zI_1.mp c_24
      have c_24 : ¬ b < nI 65 ∧ ¬ b > nI 70 := c_24
      refine lv_iload_n hx hb d_M_digit_27 rfl (lv_at hl 0 rfl) ?_
      refine lv_bipush (v := nI 65) hx hb d_M_digit_28 (by decide) ?_
      refine lv_isub hx hb d_M_digit_30 ?_
      refine lv_bipush (v := nI 10) hx hb d_M_digit_31 (by decide) ?_
      refine lv_iadd hx hb d_M_digit_33 ?_
      exact x_iret hC hr hw (⟨congrArg (fun z => some (Value.int z)) (by unfold dgI; rw [if_neg c_8, if_pos c_24]), rfl⟩) (Nat.le_of_ble_eq_true rfl) (Nat.le_of_ble_eq_true rfl) d_M_digit_34
  · have c_8 := zI_1.mp c_8
    have c_8 : ¬ b < nI 48 ∧ ¬ b > nI 57 := c_8
    refine lv_iload_n hx hb d_M_digit_11 rfl (lv_at hl 0 rfl) ?_
    refine lv_bipush (v := nI 48) hx hb d_M_digit_12 (by decide) ?_
    refine lv_isub hx hb d_M_digit_14 ?_
    exact x_iret hC hr hw (⟨congrArg (fun z => some (Value.int z)) (by unfold dgI; rw [if_pos c_8]), rfl⟩) (Nat.le_of_ble_eq_true rfl) (Nat.le_of_ble_eq_true rfl) d_M_digit_15

set_option maxHeartbeats 4000000 in
set_option maxRecDepth 100000 in
/-- hex -/
theorem c_M_hex (l : Launch) (G : xT) (M : xMem) (sz : Nat)  (d : Nat) (hd : d < 16) : xMet l G y_M_hex (Cond.code y_M_hex b_M_hex 1 (Option.some Jvm.ClassFile.FieldType.int) :: x_tbl) { frames := 0, cells := 0, slots := 0, locals := 0 } [.int (nI d)] M sz (fun v M' => v = some (.int (nI (hxN d))) ∧ M' = M) (fun _ _ => False) := by
  refine xMet.of (by decide) (Nat.le_of_ble_eq_true rfl) ?_
  intro p e s m below meth c ls hC hr hnm hno hsz hw hl
  obtain ⟨hx, hb, hown, hts, hK, hml, hlk, hz⟩ := id hC
  have hl : lv_has ls 1 [(0, .int (nI d))] := hl
  refine lv_iload_n hx hb d_M_hex_0 rfl (lv_at hl 0 rfl) ?_
  refine lv_bipush (v := nI 10) hx hb d_M_hex_1 (by decide) ?_
  refine lv_icmp_ge (tgt := 13) hx hb d_M_hex_3 (by decide) (fun c_3 => ?_) (fun c_3 => ?_)
  · have c_3 := (nI_leI (by omega) (by omega)).mp c_3
    refine lv_bipush (v := nI 65) hx hb d_M_hex_13 (by decide) ?_
    refine lv_iload_n hx hb d_M_hex_15 rfl (lv_at hl 0 rfl) ?_
    refine lv_iadd hx hb d_M_hex_16 ?_
    refine x_vi (y := nI (65 + d)) (nI_add _ _) ?_
    refine lv_bipush (v := nI 10) hx hb d_M_hex_17 (by decide) ?_
    refine lv_isub hx hb d_M_hex_19 ?_
    exact x_iret hC hr hw (⟨congrArg (fun z => some (Value.int z)) (by unfold hxN; rw [if_neg (by omega), x_sub (by omega)]; congr 1; omega), rfl⟩) (Nat.le_of_ble_eq_true rfl) (Nat.le_of_ble_eq_true rfl) d_M_hex_20
  · have c_3 := Nat.not_le.mp ((not_congr (nI_leI (by omega) (by omega))).mp c_3)
    refine lv_bipush (v := nI 48) hx hb d_M_hex_6 (by decide) ?_
    refine lv_iload_n hx hb d_M_hex_8 rfl (lv_at hl 0 rfl) ?_
    refine lv_iadd hx hb d_M_hex_9 ?_
    refine x_vi (y := nI (48 + d)) (nI_add _ _) ?_
    refine lv_goto (tgt := 20) hx hb d_M_hex_10 (by decide) ?_
    exact x_iret hC hr hw (⟨congrArg (fun z => some (Value.int z)) (by unfold hxN; rw [if_pos c_3]), rfl⟩) (Nat.le_of_ble_eq_true rfl) (Nat.le_of_ble_eq_true rfl) d_M_hex_20
end
