def wsG : List Cond := lw_tbl.filter goodWord
theorem zG {w : Cond} (i : Nat) (h : lw_tbl[i]? = some w) (hg : goodWord w = true) : w ∈ wsG := List.mem_filter.mpr ⟨List.mem_of_getElem? h, hg⟩
theorem zp0 : Cond.selects "java/lang/Throwable" ⟨"java/lang/Throwable", "fillInStackTrace", "(I)Ljava/lang/Throwable;"⟩ ⟨"java/lang/Throwable", "fillInStackTrace", "(I)Ljava/lang/Throwable;"⟩ ∈ wsG := zG 0 rfl rfl
theorem zp1 : Cond.selects "TowerFields" ⟨"TowerFields", "requireRoom", "()V"⟩ ⟨"TowerFields", "requireRoom", "()V"⟩ ∈ wsG := zG 1 rfl rfl
theorem zp2 : Cond.selects "TowerFields" ⟨"TowerFields", "keepSingle", "(III)I"⟩ ⟨"TowerFields", "keepSingle", "(III)I"⟩ ∈ wsG := zG 2 rfl rfl
theorem zp3 : Cond.selects "TowerFields" ⟨"TowerFields", "keep", "(LTowerFields$Poly;LTowerFields$Poly;)I"⟩ ⟨"TowerFields", "keep", "(LTowerFields$Poly;LTowerFields$Poly;)I"⟩ ∈ wsG := zG 3 rfl rfl
theorem zp4 : Cond.selects "TowerFields" ⟨"TowerFields", "store", "(II)V"⟩ ⟨"TowerFields", "store", "(II)V"⟩ ∈ wsG := zG 4 rfl rfl
theorem zp5 : Cond.selects "TowerFields" ⟨"TowerFields", "requireElement", "(I)V"⟩ ⟨"TowerFields", "requireElement", "(I)V"⟩ ∈ wsG := zG 5 rfl rfl
theorem zp6 : Cond.selects "TowerFields" ⟨"TowerFields", "hasNoSlope", "(I)Z"⟩ ⟨"TowerFields", "hasNoSlope", "(I)Z"⟩ ∈ wsG := zG 6 rfl rfl
theorem zp7 : Cond.selects "TowerFields" ⟨"TowerFields", "slopeOfFraction", "(I)V"⟩ ⟨"TowerFields", "slopeOfFraction", "(I)V"⟩ ∈ wsG := zG 7 rfl rfl
theorem zp8 : Cond.selects "TowerFields" ⟨"TowerFields", "load", "(IILTowerFields$Poly;)V"⟩ ⟨"TowerFields", "load", "(IILTowerFields$Poly;)V"⟩ ∈ wsG := zG 8 rfl rfl
theorem zp9 : Cond.selects "TowerFields" ⟨"TowerFields", "stored", "(I)I"⟩ ⟨"TowerFields", "stored", "(I)I"⟩ ∈ wsG := zG 9 rfl rfl
theorem zp10 : Cond.selects "TowerFields" ⟨"TowerFields", "slopeOfPoly", "(LTowerFields$Poly;LTowerFields$Poly;)V"⟩ ⟨"TowerFields", "slopeOfPoly", "(LTowerFields$Poly;LTowerFields$Poly;)V"⟩ ∈ wsG := zG 10 rfl rfl
theorem zp11 : Cond.selects "TowerFields" ⟨"TowerFields", "setSlope", "(I)V"⟩ ⟨"TowerFields", "setSlope", "(I)V"⟩ ∈ wsG := zG 11 rfl rfl
theorem zp12 : Cond.selects "TowerFields$Divisor" ⟨"TowerFields$Divisor", "divideBoth", "(LTowerFields$Poly;LTowerFields$Poly;)Z"⟩ ⟨"TowerFields$Divisor", "divideBoth", "(LTowerFields$Poly;LTowerFields$Poly;)Z"⟩ ∈ wsG := zG 12 rfl rfl
theorem zp13 : Cond.selects "TowerFields$Divisor" ⟨"TowerFields$Divisor", "divide", "(LTowerFields$Poly;LTowerFields$Poly;)Z"⟩ ⟨"TowerFields$Divisor", "divide", "(LTowerFields$Poly;LTowerFields$Poly;)Z"⟩ ∈ wsG := zG 13 rfl rfl
theorem zp14 : Cond.selects "TowerFields$Divisor" ⟨"TowerFields$Divisor", "findContents", "(LTowerFields$Poly;LTowerFields$Poly;)V"⟩ ⟨"TowerFields$Divisor", "findContents", "(LTowerFields$Poly;LTowerFields$Poly;)V"⟩ ∈ wsG := zG 14 rfl rfl
theorem zp15 : Cond.selects "TowerFields$Divisor" ⟨"TowerFields$Divisor", "contentOf", "(LTowerFields$Poly;LTowerFields$Line;)V"⟩ ⟨"TowerFields$Divisor", "contentOf", "(LTowerFields$Poly;LTowerFields$Line;)V"⟩ ∈ wsG := zG 15 rfl rfl
theorem zp16 : Cond.selects "TowerFields$Line" ⟨"TowerFields$Line", "exchange", "(LTowerFields$Line;)V"⟩ ⟨"TowerFields$Line", "exchange", "(LTowerFields$Line;)V"⟩ ∈ wsG := zG 16 rfl rfl
theorem zp17 : Cond.selects "TowerFields$Divisor" ⟨"TowerFields$Divisor", "leadOf", "(LTowerFields$Poly;LTowerFields$Line;LTowerFields$Line;)V"⟩ ⟨"TowerFields$Divisor", "leadOf", "(LTowerFields$Poly;LTowerFields$Line;LTowerFields$Line;)V"⟩ ∈ wsG := zG 17 rfl rfl
theorem zp18 : Cond.selects "TowerFields$Divisor" ⟨"TowerFields$Divisor", "findImage", "(LTowerFields$Poly;LTowerFields$Poly;I)Z"⟩ ⟨"TowerFields$Divisor", "findImage", "(LTowerFields$Poly;LTowerFields$Poly;I)Z"⟩ ∈ wsG := zG 18 rfl rfl
theorem zp19 : Cond.selects "TowerFields$Divisor" ⟨"TowerFields$Divisor", "takeIn", "(I)Z"⟩ ⟨"TowerFields$Divisor", "takeIn", "(I)Z"⟩ ∈ wsG := zG 19 rfl rfl
theorem zp20 : Cond.selects "TowerFields$Divisor" ⟨"TowerFields$Divisor", "tryPieced", "(LTowerFields$Poly;LTowerFields$Poly;)Z"⟩ ⟨"TowerFields$Divisor", "tryPieced", "(LTowerFields$Poly;LTowerFields$Poly;)Z"⟩ ∈ wsG := zG 20 rfl rfl
theorem zp21 : Cond.selects "TowerFields" ⟨"TowerFields", "takeTwo", "(II)V"⟩ ⟨"TowerFields", "takeTwo", "(II)V"⟩ ∈ wsG := zG 21 rfl rfl
theorem zp22 : Cond.selects "TowerFields" ⟨"TowerFields", "sumUp", "(I)V"⟩ ⟨"TowerFields", "sumUp", "(I)V"⟩ ∈ wsG := zG 22 rfl rfl
theorem zp23 : Cond.selects "TowerFields" ⟨"TowerFields", "keepLowest", "()I"⟩ ⟨"TowerFields", "keepLowest", "()I"⟩ ∈ wsG := zG 23 rfl rfl
theorem zp24 : Cond.selects "TowerFields" ⟨"TowerFields", "slopeOverProduct", "(LTowerFields$Poly;LTowerFields$Poly;)V"⟩ ⟨"TowerFields", "slopeOverProduct", "(LTowerFields$Poly;LTowerFields$Poly;)V"⟩ ∈ wsG := zG 24 rfl rfl
theorem zp25 : Cond.selects "TowerFields" ⟨"TowerFields", "makeSquareFree", "(LTowerFields$Poly;)V"⟩ ⟨"TowerFields", "makeSquareFree", "(LTowerFields$Poly;)V"⟩ ∈ wsG := zG 25 rfl rfl
theorem zp26 : Cond.selects "TowerFields" ⟨"TowerFields", "splitSquareFree", "(LTowerFields$Poly;I)V"⟩ ⟨"TowerFields", "splitSquareFree", "(LTowerFields$Poly;I)V"⟩ ∈ wsG := zG 26 rfl rfl
theorem zp27 : Cond.selects "TowerFieldsModel" ⟨"TowerFieldsModel", "one", "([I)V"⟩ ⟨"TowerFieldsModel", "one", "([I)V"⟩ ∈ wsG := zG 27 rfl rfl
theorem zp28 : Cond.selects "TowerFieldsModel" ⟨"TowerFieldsModel", "keep", "()I"⟩ ⟨"TowerFieldsModel", "keep", "()I"⟩ ∈ wsG := zG 28 rfl rfl
theorem zp29 : Cond.selects "TowerFieldsModel" ⟨"TowerFieldsModel", "are", "(II)Z"⟩ ⟨"TowerFieldsModel", "are", "(II)Z"⟩ ∈ wsG := zG 29 rfl rfl
theorem zp30 : Cond.selects "TowerFieldsModel" ⟨"TowerFieldsModel", "isElement", "(I)Z"⟩ ⟨"TowerFieldsModel", "isElement", "(I)Z"⟩ ∈ wsG := zG 30 rfl rfl
theorem zp31 : Cond.selects "TowerFieldsModel" ⟨"TowerFieldsModel", "isLow", "(I)Z"⟩ ⟨"TowerFieldsModel", "isLow", "(I)Z"⟩ ∈ wsG := zG 31 rfl rfl
theorem zp32 : Cond.selects "TowerFieldsModel" ⟨"TowerFieldsModel", "raise", "(I)I"⟩ ⟨"TowerFieldsModel", "raise", "(I)I"⟩ ∈ wsG := zG 32 rfl rfl
theorem zp33 : Cond.selects "TowerFieldsModel" ⟨"TowerFieldsModel", "load", "([I[II)V"⟩ ⟨"TowerFieldsModel", "load", "([I[II)V"⟩ ∈ wsG := zG 33 rfl rfl
theorem zp34 : Cond.selects "TowerFieldsModel" ⟨"TowerFieldsModel", "multiply", "([I[I[I)V"⟩ ⟨"TowerFieldsModel", "multiply", "([I[I[I)V"⟩ ∈ wsG := zG 34 rfl rfl
theorem zp35 : Cond.selects "TowerFieldsModel" ⟨"TowerFieldsModel", "reduce", "()Z"⟩ ⟨"TowerFieldsModel", "reduce", "()Z"⟩ ∈ wsG := zG 35 rfl rfl
theorem zp36 : Cond.selects "TowerFieldsModel" ⟨"TowerFieldsModel", "hangs", "([III)Z"⟩ ⟨"TowerFieldsModel", "hangs", "([III)Z"⟩ ∈ wsG := zG 36 rfl rfl
theorem zp37 : Cond.selects "TowerFieldsModel" ⟨"TowerFieldsModel", "settle", "()V"⟩ ⟨"TowerFieldsModel", "settle", "()V"⟩ ∈ wsG := zG 37 rfl rfl
theorem zp38 : Cond.selects "TowerFieldsModel" ⟨"TowerFieldsModel", "letterItself", "()I"⟩ ⟨"TowerFieldsModel", "letterItself", "()I"⟩ ∈ wsG := zG 38 rfl rfl
theorem zp39 : Cond.selects "TowerFieldsModel" ⟨"TowerFieldsModel", "sum", "(III)I"⟩ ⟨"TowerFieldsModel", "sum", "(III)I"⟩ ∈ wsG := zG 39 rfl rfl
theorem zp40 : Cond.selects "TowerFieldsModel" ⟨"TowerFieldsModel", "made", "(I)I"⟩ ⟨"TowerFieldsModel", "made", "(I)I"⟩ ∈ wsG := zG 40 rfl rfl
theorem zp41 : Cond.selects "TowerFieldsModel" ⟨"TowerFieldsModel", "deriveUp", "(I)V"⟩ ⟨"TowerFieldsModel", "deriveUp", "(I)V"⟩ ∈ wsG := zG 41 rfl rfl
theorem zp42 : Cond.selects "TowerFieldsModel" ⟨"TowerFieldsModel", "deriveRow", "([I[I)V"⟩ ⟨"TowerFieldsModel", "deriveRow", "([I[I)V"⟩ ∈ wsG := zG 42 rfl rfl
theorem zp43 : Cond.selects "TowerFieldsModel" ⟨"TowerFieldsModel", "finish", "([I[I)V"⟩ ⟨"TowerFieldsModel", "finish", "([I[I)V"⟩ ∈ wsG := zG 43 rfl rfl
theorem zp44 : Cond.selects "TowerFieldsModel" ⟨"TowerFieldsModel", "shared", "()V"⟩ ⟨"TowerFieldsModel", "shared", "()V"⟩ ∈ wsG := zG 44 rfl rfl
theorem zp45 : Cond.selects "TowerFieldsModel" ⟨"TowerFieldsModel", "makeMonic", "([I)V"⟩ ⟨"TowerFieldsModel", "makeMonic", "([I)V"⟩ ∈ wsG := zG 45 rfl rfl
theorem zp46 : Cond.selects "TowerFieldsModel" ⟨"TowerFieldsModel", "divide", "([I)V"⟩ ⟨"TowerFieldsModel", "divide", "([I)V"⟩ ∈ wsG := zG 46 rfl rfl
theorem zp47 : Cond.selects "TowerFieldsModel" ⟨"TowerFieldsModel", "bare", "()V"⟩ ⟨"TowerFieldsModel", "bare", "()V"⟩ ∈ wsG := zG 47 rfl rfl
set_option maxRecDepth 40000 in
theorem zw0 : (Jvm.Cond.initialized "TowerFieldsLaw") ∈ wsG := zG 48 rfl rfl
set_option maxRecDepth 40000 in
theorem zw1 : (Jvm.Cond.initialized "TowerFields") ∈ wsG := zG 49 rfl rfl
set_option maxRecDepth 40000 in
theorem zw2 : (Jvm.Cond.initialized "TowerFields$Line") ∈ wsG := zG 50 rfl rfl
set_option maxRecDepth 40000 in
theorem zw3 : (Jvm.Cond.initialized "TowerFields$Poly") ∈ wsG := zG 51 rfl rfl
set_option maxRecDepth 40000 in
theorem zw4 : (Jvm.Cond.initialized "TowerFields$Divisor") ∈ wsG := zG 52 rfl rfl
set_option maxRecDepth 40000 in
theorem zw5 : (Jvm.Cond.initialized "TowerFieldsModel") ∈ wsG := zG 53 rfl rfl
set_option maxRecDepth 40000 in
theorem zw6 : (Jvm.Cond.initialized "java/lang/Throwable") ∈ wsG := zG 54 rfl rfl
set_option maxRecDepth 40000 in
theorem zw7 : (Jvm.Cond.initialized "java/lang/Exception") ∈ wsG := zG 55 rfl rfl
set_option maxRecDepth 40000 in
theorem zw8 : (Jvm.Cond.initialized "java/lang/RuntimeException") ∈ wsG := zG 56 rfl rfl
set_option maxRecDepth 40000 in
theorem zw9 : (Jvm.Cond.initialized "java/lang/ArithmeticException") ∈ wsG := zG 57 rfl rfl
set_option maxRecDepth 40000 in
theorem zw10 : (Jvm.Cond.initialized "java/lang/String") ∈ wsG := zG 58 rfl rfl
set_option maxRecDepth 40000 in
theorem zw11 : (Jvm.Cond.initialized "java/lang/IllegalStateException") ∈ wsG := zG 59 rfl rfl
set_option maxRecDepth 40000 in
theorem zw12 : (Jvm.Cond.initialized "java/lang/IndexOutOfBoundsException") ∈ wsG := zG 60 rfl rfl
set_option maxRecDepth 40000 in
theorem zw13 : (Jvm.Cond.initialized "java/lang/ArrayIndexOutOfBoundsException") ∈ wsG := zG 61 rfl rfl
set_option maxRecDepth 40000 in
theorem zw14 : (Jvm.Cond.initialized "java/lang/IllegalArgumentException") ∈ wsG := zG 62 rfl rfl
set_option maxRecDepth 40000 in
theorem zw15 : (Jvm.Cond.initialized "java/lang/Math") ∈ wsG := zG 63 rfl rfl
set_option maxRecDepth 40000 in
theorem zw16 : (Jvm.Cond.classLink "TowerFieldsLaw" (8 : Nat) "TowerFields") ∈ wsG := zG 64 rfl rfl
set_option maxRecDepth 40000 in
theorem zw17 : (Jvm.Cond.instantiable "TowerFields" (15 : Nat)) ∈ wsG := zG 65 rfl rfl
set_option maxRecDepth 40000 in
theorem zw18 : (Jvm.Cond.methodLink "TowerFieldsLaw" (72 : Nat) ({ cls := "TowerFields", name := "<init>", desc := "()V" } : Jvm.MethodName)) ∈ wsG := zG 66 rfl rfl
set_option maxRecDepth 40000 in
theorem zw19 : (Jvm.Cond.instanceMethod ({ cls := "TowerFields", name := "<init>", desc := "()V" } : Jvm.MethodName)) ∈ wsG := zG 67 rfl rfl
set_option maxRecDepth 40000 in
theorem zw20 : (Jvm.Cond.code ({ cls := "TowerFields", name := "<init>", desc := "()V" } : Jvm.MethodName) prog_1_method_1_code (1 : Nat) (Option.none : Option Jvm.ClassFile.FieldType)) ∈ wsG := zG 68 rfl rfl
set_option maxRecDepth 40000 in
theorem zw21 : (Jvm.Cond.methodLink "TowerFields" (3 : Nat) ({ cls := "java/lang/Object", name := "<init>", desc := "()V" } : Jvm.MethodName)) ∈ wsG := zG 69 rfl rfl
set_option maxRecDepth 40000 in
theorem zw22 : (Jvm.Cond.instanceMethod ({ cls := "java/lang/Object", name := "<init>", desc := "()V" } : Jvm.MethodName)) ∈ wsG := zG 70 rfl rfl
set_option maxRecDepth 40000 in
theorem zw23 : (Jvm.Cond.code ({ cls := "java/lang/Object", name := "<init>", desc := "()V" } : Jvm.MethodName) object_method_1_code (1 : Nat) (Option.none : Option Jvm.ClassFile.FieldType)) ∈ wsG := zG 71 rfl rfl
set_option maxRecDepth 40000 in
theorem zw24 : (Jvm.Cond.classLink "TowerFields" (20 : Nat) "TowerFields$Line") ∈ wsG := zG 72 rfl rfl
set_option maxRecDepth 40000 in
theorem zw25 : (Jvm.Cond.instantiable "TowerFields$Line" (2 : Nat)) ∈ wsG := zG 73 rfl rfl
set_option maxRecDepth 40000 in
theorem zw27 : (Jvm.Cond.instanceMethod ({ cls := "TowerFields$Line", name := "<init>", desc := "()V" } : Jvm.MethodName)) ∈ wsG := zG 75 rfl rfl
set_option maxRecDepth 40000 in
theorem zw28 : (Jvm.Cond.code ({ cls := "TowerFields$Line", name := "<init>", desc := "()V" } : Jvm.MethodName) prog_3_method_1_code (1 : Nat) (Option.none : Option Jvm.ClassFile.FieldType)) ∈ wsG := zG 76 rfl rfl
set_option maxRecDepth 40000 in
theorem zw29 : (Jvm.Cond.methodLink "TowerFields$Line" (3 : Nat) ({ cls := "java/lang/Object", name := "<init>", desc := "()V" } : Jvm.MethodName)) ∈ wsG := zG 77 rfl rfl
set_option maxRecDepth 40000 in
theorem zw30 : (Jvm.Cond.fieldLink "TowerFields$Line" (9 : Nat) "TowerFields$Line" "numbers" "[I") ∈ wsG := zG 78 rfl rfl
set_option maxRecDepth 40000 in
theorem zw31 : (Jvm.Cond.fieldLink "TowerFields$Line" (15 : Nat) "TowerFields$Line" "degree" "I") ∈ wsG := zG 79 rfl rfl
set_option maxRecDepth 40000 in
theorem zw39 : (Jvm.Cond.arrayClass Jvm.ClassFile.FieldType.int) ∈ wsG := zG 87 rfl rfl
set_option maxRecDepth 40000 in
theorem zw40 : (Jvm.Cond.classLink "TowerFields" (30 : Nat) "TowerFields$Poly") ∈ wsG := zG 88 rfl rfl
set_option maxRecDepth 40000 in
theorem zw41 : (Jvm.Cond.instantiable "TowerFields$Poly" (1 : Nat)) ∈ wsG := zG 89 rfl rfl
set_option maxRecDepth 40000 in
theorem zw42 : (Jvm.Cond.methodLink "TowerFields" (32 : Nat) ({ cls := "TowerFields$Poly", name := "<init>", desc := "()V" } : Jvm.MethodName)) ∈ wsG := zG 90 rfl rfl
set_option maxRecDepth 40000 in
theorem zw43 : (Jvm.Cond.instanceMethod ({ cls := "TowerFields$Poly", name := "<init>", desc := "()V" } : Jvm.MethodName)) ∈ wsG := zG 91 rfl rfl
set_option maxRecDepth 40000 in
theorem zw44 : (Jvm.Cond.code ({ cls := "TowerFields$Poly", name := "<init>", desc := "()V" } : Jvm.MethodName) prog_4_method_1_code (2 : Nat) (Option.none : Option Jvm.ClassFile.FieldType)) ∈ wsG := zG 92 rfl rfl
set_option maxRecDepth 40000 in
theorem zw45 : (Jvm.Cond.methodLink "TowerFields$Poly" (3 : Nat) ({ cls := "java/lang/Object", name := "<init>", desc := "()V" } : Jvm.MethodName)) ∈ wsG := zG 93 rfl rfl
set_option maxRecDepth 40000 in
theorem zw46 : (Jvm.Cond.classLink "TowerFields$Poly" (9 : Nat) "TowerFields$Line") ∈ wsG := zG 94 rfl rfl
set_option maxRecDepth 40000 in
theorem zw49 : (Jvm.Cond.fieldLink "TowerFields$Poly" (11 : Nat) "TowerFields$Poly" "rows" "[LTowerFields$Line;") ∈ wsG := zG 97 rfl rfl
set_option maxRecDepth 40000 in
theorem zw53 : (Jvm.Cond.classLink "TowerFields" (61 : Nat) "TowerFields$Divisor") ∈ wsG := zG 101 rfl rfl
set_option maxRecDepth 40000 in
theorem zw54 : (Jvm.Cond.instantiable "TowerFields$Divisor" (15 : Nat)) ∈ wsG := zG 102 rfl rfl
set_option maxRecDepth 40000 in
theorem zw56 : (Jvm.Cond.instanceMethod ({ cls := "TowerFields$Divisor", name := "<init>", desc := "()V" } : Jvm.MethodName)) ∈ wsG := zG 104 rfl rfl
set_option maxRecDepth 40000 in
theorem zw57 : (Jvm.Cond.code ({ cls := "TowerFields$Divisor", name := "<init>", desc := "()V" } : Jvm.MethodName) prog_2_method_1_code (1 : Nat) (Option.none : Option Jvm.ClassFile.FieldType)) ∈ wsG := zG 105 rfl rfl
set_option maxRecDepth 40000 in
theorem zw58 : (Jvm.Cond.methodLink "TowerFields$Divisor" (3 : Nat) ({ cls := "java/lang/Object", name := "<init>", desc := "()V" } : Jvm.MethodName)) ∈ wsG := zG 106 rfl rfl
set_option maxRecDepth 40000 in
theorem zw59 : (Jvm.Cond.classLink "TowerFields$Divisor" (9 : Nat) "TowerFields$Poly") ∈ wsG := zG 107 rfl rfl
set_option maxRecDepth 40000 in
theorem zw60 : (Jvm.Cond.methodLink "TowerFields$Divisor" (11 : Nat) ({ cls := "TowerFields$Poly", name := "<init>", desc := "()V" } : Jvm.MethodName)) ∈ wsG := zG 108 rfl rfl
set_option maxRecDepth 40000 in
theorem zw61 : (Jvm.Cond.classLink "TowerFields$Divisor" (30 : Nat) "TowerFields$Line") ∈ wsG := zG 109 rfl rfl
set_option maxRecDepth 40000 in
theorem zw63 : (Jvm.Cond.fieldLink "TowerFields$Divisor" (12 : Nat) "TowerFields$Divisor" "found" "LTowerFields$Poly;") ∈ wsG := zG 111 rfl rfl
set_option maxRecDepth 40000 in
theorem zw64 : (Jvm.Cond.fieldLink "TowerFields" (169 : Nat) "TowerFields$Divisor" "found" "LTowerFields$Poly;") ∈ wsG := zG 112 rfl rfl
set_option maxRecDepth 40000 in
theorem zw65 : (Jvm.Cond.fieldLink "TowerFields$Divisor" (18 : Nat) "TowerFields$Divisor" "firstRest" "LTowerFields$Poly;") ∈ wsG := zG 113 rfl rfl
set_option maxRecDepth 40000 in
theorem zw66 : (Jvm.Cond.fieldLink "TowerFields" (193 : Nat) "TowerFields$Divisor" "firstRest" "LTowerFields$Poly;") ∈ wsG := zG 114 rfl rfl
set_option maxRecDepth 40000 in
theorem zw67 : (Jvm.Cond.fieldLink "TowerFields$Divisor" (21 : Nat) "TowerFields$Divisor" "secondRest" "LTowerFields$Poly;") ∈ wsG := zG 115 rfl rfl
set_option maxRecDepth 40000 in
theorem zw68 : (Jvm.Cond.fieldLink "TowerFields" (196 : Nat) "TowerFields$Divisor" "secondRest" "LTowerFields$Poly;") ∈ wsG := zG 116 rfl rfl
set_option maxRecDepth 40000 in
theorem zw69 : (Jvm.Cond.fieldLink "TowerFields$Divisor" (24 : Nat) "TowerFields$Divisor" "pieced" "LTowerFields$Poly;") ∈ wsG := zG 117 rfl rfl
set_option maxRecDepth 40000 in
theorem zw70 : (Jvm.Cond.fieldLink "TowerFields$Divisor" (27 : Nat) "TowerFields$Divisor" "remains" "LTowerFields$Poly;") ∈ wsG := zG 118 rfl rfl
set_option maxRecDepth 40000 in
theorem zw71 : (Jvm.Cond.fieldLink "TowerFields$Divisor" (33 : Nat) "TowerFields$Divisor" "content" "LTowerFields$Line;") ∈ wsG := zG 119 rfl rfl
set_option maxRecDepth 40000 in
theorem zw72 : (Jvm.Cond.fieldLink "TowerFields$Divisor" (37 : Nat) "TowerFields$Divisor" "firstContent" "LTowerFields$Line;") ∈ wsG := zG 120 rfl rfl
set_option maxRecDepth 40000 in
theorem zw73 : (Jvm.Cond.fieldLink "TowerFields$Divisor" (40 : Nat) "TowerFields$Divisor" "secondContent" "LTowerFields$Line;") ∈ wsG := zG 121 rfl rfl
set_option maxRecDepth 40000 in
theorem zw74 : (Jvm.Cond.fieldLink "TowerFields$Divisor" (43 : Nat) "TowerFields$Divisor" "piecedContent" "LTowerFields$Line;") ∈ wsG := zG 122 rfl rfl
set_option maxRecDepth 40000 in
theorem zw75 : (Jvm.Cond.fieldLink "TowerFields$Divisor" (46 : Nat) "TowerFields$Divisor" "lead" "LTowerFields$Line;") ∈ wsG := zG 123 rfl rfl
set_option maxRecDepth 40000 in
theorem zw76 : (Jvm.Cond.fieldLink "TowerFields$Divisor" (49 : Nat) "TowerFields$Divisor" "nodes" "LTowerFields$Line;") ∈ wsG := zG 124 rfl rfl
set_option maxRecDepth 40000 in
theorem zw77 : (Jvm.Cond.fieldLink "TowerFields$Divisor" (52 : Nat) "TowerFields$Divisor" "image" "LTowerFields$Line;") ∈ wsG := zG 125 rfl rfl
set_option maxRecDepth 40000 in
theorem zw78 : (Jvm.Cond.fieldLink "TowerFields$Divisor" (55 : Nat) "TowerFields$Divisor" "spare" "LTowerFields$Line;") ∈ wsG := zG 126 rfl rfl
set_option maxRecDepth 40000 in
theorem zw79 : (Jvm.Cond.fieldLink "TowerFields$Divisor" (58 : Nat) "TowerFields$Divisor" "quotient" "LTowerFields$Line;") ∈ wsG := zG 127 rfl rfl
set_option maxRecDepth 40000 in
theorem zw80 : (Jvm.Cond.fieldLink "TowerFields$Divisor" (61 : Nat) "TowerFields$Divisor" "otherLine" "LTowerFields$Line;") ∈ wsG := zG 128 rfl rfl
set_option maxRecDepth 40000 in
theorem zw112 : (Jvm.Cond.methodLink "TowerFields" (68 : Nat) ({ cls := "TowerFields$Poly", name := "row", desc := "(I)LTowerFields$Line;" } : Jvm.MethodName)) ∈ wsG := zG 160 rfl rfl
set_option maxRecDepth 40000 in
theorem zw113 : (Jvm.Cond.instanceMethod ({ cls := "TowerFields$Poly", name := "row", desc := "(I)LTowerFields$Line;" } : Jvm.MethodName)) ∈ wsG := zG 161 rfl rfl
set_option maxRecDepth 40000 in
theorem zw114 : (Jvm.Cond.selects "TowerFields$Poly" ({ cls := "TowerFields$Poly", name := "row", desc := "(I)LTowerFields$Line;" } : Jvm.MethodName) ({ cls := "TowerFields$Poly", name := "row", desc := "(I)LTowerFields$Line;" } : Jvm.MethodName)) ∈ wsG := zG 162 rfl rfl
set_option maxRecDepth 40000 in
theorem zw115 : (Jvm.Cond.code ({ cls := "TowerFields$Poly", name := "row", desc := "(I)LTowerFields$Line;" } : Jvm.MethodName) prog_4_method_2_code (2 : Nat) (Option.some (Jvm.ClassFile.FieldType.object "TowerFields$Line"))) ∈ wsG := zG 163 rfl rfl
set_option maxRecDepth 40000 in
theorem zw116 : (Jvm.Cond.methodLink "TowerFields" (72 : Nat) ({ cls := "TowerFields$Line", name := "put", desc := "(II)V" } : Jvm.MethodName)) ∈ wsG := zG 164 rfl rfl
set_option maxRecDepth 40000 in
theorem zw117 : (Jvm.Cond.instanceMethod ({ cls := "TowerFields$Line", name := "put", desc := "(II)V" } : Jvm.MethodName)) ∈ wsG := zG 165 rfl rfl
set_option maxRecDepth 40000 in
theorem zw118 : (Jvm.Cond.selects "TowerFields$Line" ({ cls := "TowerFields$Line", name := "put", desc := "(II)V" } : Jvm.MethodName) ({ cls := "TowerFields$Line", name := "put", desc := "(II)V" } : Jvm.MethodName)) ∈ wsG := zG 166 rfl rfl
set_option maxRecDepth 40000 in
theorem zw119 : (Jvm.Cond.code ({ cls := "TowerFields$Line", name := "put", desc := "(II)V" } : Jvm.MethodName) prog_3_method_3_code (4 : Nat) (Option.none : Option Jvm.ClassFile.FieldType)) ∈ wsG := zG 167 rfl rfl
set_option maxRecDepth 40000 in
theorem zw120 : (Jvm.Cond.fieldLink "TowerFields" (9 : Nat) "TowerFields" "numbers" "[I") ∈ wsG := zG 168 rfl rfl
set_option maxRecDepth 40000 in
theorem zw121 : (Jvm.Cond.fieldLink "TowerFields" (13 : Nat) "TowerFields" "made" "I") ∈ wsG := zG 169 rfl rfl
set_option maxRecDepth 40000 in
theorem zw122 : (Jvm.Cond.fieldLink "TowerFields" (17 : Nat) "TowerFields" "letterKind" "I") ∈ wsG := zG 170 rfl rfl
set_option maxRecDepth 40000 in
theorem zw123 : (Jvm.Cond.fieldLink "TowerFields" (23 : Nat) "TowerFields" "slopeAbove" "LTowerFields$Line;") ∈ wsG := zG 171 rfl rfl
set_option maxRecDepth 40000 in
theorem zw124 : (Jvm.Cond.fieldLink "TowerFields" (27 : Nat) "TowerFields" "slopeBelow" "LTowerFields$Line;") ∈ wsG := zG 172 rfl rfl
set_option maxRecDepth 40000 in
theorem zw125 : (Jvm.Cond.fieldLink "TowerFields" (33 : Nat) "TowerFields" "firstAbove" "LTowerFields$Poly;") ∈ wsG := zG 173 rfl rfl
set_option maxRecDepth 40000 in
theorem zw126 : (Jvm.Cond.fieldLink "TowerFields" (37 : Nat) "TowerFields" "firstBelow" "LTowerFields$Poly;") ∈ wsG := zG 174 rfl rfl
set_option maxRecDepth 40000 in
theorem zw127 : (Jvm.Cond.fieldLink "TowerFields" (40 : Nat) "TowerFields" "secondAbove" "LTowerFields$Poly;") ∈ wsG := zG 175 rfl rfl
set_option maxRecDepth 40000 in
theorem zw128 : (Jvm.Cond.fieldLink "TowerFields" (43 : Nat) "TowerFields" "secondBelow" "LTowerFields$Poly;") ∈ wsG := zG 176 rfl rfl
set_option maxRecDepth 40000 in
theorem zw129 : (Jvm.Cond.fieldLink "TowerFields" (46 : Nat) "TowerFields" "slopeFirst" "LTowerFields$Poly;") ∈ wsG := zG 177 rfl rfl
set_option maxRecDepth 40000 in
theorem zw130 : (Jvm.Cond.fieldLink "TowerFields" (49 : Nat) "TowerFields" "slopeSecond" "LTowerFields$Poly;") ∈ wsG := zG 178 rfl rfl
set_option maxRecDepth 40000 in
theorem zw131 : (Jvm.Cond.fieldLink "TowerFields" (52 : Nat) "TowerFields" "rawAbove" "LTowerFields$Poly;") ∈ wsG := zG 179 rfl rfl
set_option maxRecDepth 40000 in
theorem zw132 : (Jvm.Cond.fieldLink "TowerFields" (55 : Nat) "TowerFields" "rawBelow" "LTowerFields$Poly;") ∈ wsG := zG 180 rfl rfl
set_option maxRecDepth 40000 in
theorem zw133 : (Jvm.Cond.fieldLink "TowerFields" (58 : Nat) "TowerFields" "one" "LTowerFields$Poly;") ∈ wsG := zG 181 rfl rfl
set_option maxRecDepth 40000 in
theorem zw134 : (Jvm.Cond.fieldLink "TowerFields" (64 : Nat) "TowerFields" "divisor" "LTowerFields$Divisor;") ∈ wsG := zG 182 rfl rfl
set_option maxRecDepth 40000 in
theorem zw166 : (Jvm.Cond.methodLink "TowerFieldsLaw" (136 : Nat) ({ cls := "TowerFields", name := "count", desc := "()I" } : Jvm.MethodName)) ∈ wsG := zG 214 rfl rfl
set_option maxRecDepth 40000 in
theorem zw167 : (Jvm.Cond.instanceMethod ({ cls := "TowerFields", name := "count", desc := "()I" } : Jvm.MethodName)) ∈ wsG := zG 215 rfl rfl
set_option maxRecDepth 40000 in
theorem zw168 : (Jvm.Cond.selects "TowerFields" ({ cls := "TowerFields", name := "count", desc := "()I" } : Jvm.MethodName) ({ cls := "TowerFields", name := "count", desc := "()I" } : Jvm.MethodName)) ∈ wsG := zG 216 rfl rfl
set_option maxRecDepth 40000 in
theorem zw169 : (Jvm.Cond.code ({ cls := "TowerFields", name := "count", desc := "()I" } : Jvm.MethodName) prog_1_method_18_code (1 : Nat) (Option.some Jvm.ClassFile.FieldType.int)) ∈ wsG := zG 217 rfl rfl
set_option maxRecDepth 40000 in
theorem zw170 : (Jvm.Cond.methodLink "TowerFieldsLaw" (78 : Nat) ({ cls := "TowerFieldsLaw", name := "number", desc := "(LTowerFields;JJ[J)I" } : Jvm.MethodName)) ∈ wsG := zG 218 rfl rfl
set_option maxRecDepth 40000 in
theorem zw171 : (Jvm.Cond.static ({ cls := "TowerFieldsLaw", name := "number", desc := "(LTowerFields;JJ[J)I" } : Jvm.MethodName)) ∈ wsG := zG 219 rfl rfl
set_option maxRecDepth 40000 in
theorem zw173 : (Jvm.Cond.classLink "TowerFieldsLaw" (13 : Nat) "java/lang/IllegalStateException") ∈ wsG := zG 221 rfl rfl
set_option maxRecDepth 40000 in
theorem zw174 : (Jvm.Cond.classLink "TowerFieldsLaw" (15 : Nat) "java/lang/ArithmeticException") ∈ wsG := zG 222 rfl rfl
set_option maxRecDepth 40000 in
theorem zw175 : (Jvm.Cond.instantiable "java/lang/ArithmeticException" (6 : Nat)) ∈ wsG := zG 223 rfl rfl
set_option maxRecDepth 40000 in
theorem zw176 : (Jvm.Cond.instanceMethod ({ cls := "java/lang/ArithmeticException", name := "<init>", desc := "(Ljava/lang/String;)V" } : Jvm.MethodName)) ∈ wsG := zG 224 rfl rfl
set_option maxRecDepth 40000 in
theorem zw177 : (Jvm.Cond.code ({ cls := "java/lang/ArithmeticException", name := "<init>", desc := "(Ljava/lang/String;)V" } : Jvm.MethodName) prog_7_method_2_code (2 : Nat) (Option.none : Option Jvm.ClassFile.FieldType)) ∈ wsG := zG 225 rfl rfl
set_option maxRecDepth 40000 in
theorem zw178 : (Jvm.Cond.methodLink "java/lang/ArithmeticException" (7 : Nat) ({ cls := "java/lang/RuntimeException", name := "<init>", desc := "(Ljava/lang/String;)V" } : Jvm.MethodName)) ∈ wsG := zG 226 rfl rfl
set_option maxRecDepth 40000 in
theorem zw179 : (Jvm.Cond.instanceMethod ({ cls := "java/lang/RuntimeException", name := "<init>", desc := "(Ljava/lang/String;)V" } : Jvm.MethodName)) ∈ wsG := zG 227 rfl rfl
set_option maxRecDepth 40000 in
theorem zw180 : (Jvm.Cond.code ({ cls := "java/lang/RuntimeException", name := "<init>", desc := "(Ljava/lang/String;)V" } : Jvm.MethodName) prog_14_method_2_code (2 : Nat) (Option.none : Option Jvm.ClassFile.FieldType)) ∈ wsG := zG 228 rfl rfl
set_option maxRecDepth 40000 in
theorem zw181 : (Jvm.Cond.methodLink "java/lang/RuntimeException" (7 : Nat) ({ cls := "java/lang/Exception", name := "<init>", desc := "(Ljava/lang/String;)V" } : Jvm.MethodName)) ∈ wsG := zG 229 rfl rfl
set_option maxRecDepth 40000 in
theorem zw182 : (Jvm.Cond.instanceMethod ({ cls := "java/lang/Exception", name := "<init>", desc := "(Ljava/lang/String;)V" } : Jvm.MethodName)) ∈ wsG := zG 230 rfl rfl
set_option maxRecDepth 40000 in
theorem zw183 : (Jvm.Cond.code ({ cls := "java/lang/Exception", name := "<init>", desc := "(Ljava/lang/String;)V" } : Jvm.MethodName) prog_9_method_2_code (2 : Nat) (Option.none : Option Jvm.ClassFile.FieldType)) ∈ wsG := zG 231 rfl rfl
set_option maxRecDepth 40000 in
theorem zw184 : (Jvm.Cond.methodLink "java/lang/Exception" (7 : Nat) ({ cls := "java/lang/Throwable", name := "<init>", desc := "(Ljava/lang/String;)V" } : Jvm.MethodName)) ∈ wsG := zG 232 rfl rfl
set_option maxRecDepth 40000 in
theorem zw185 : (Jvm.Cond.instanceMethod ({ cls := "java/lang/Throwable", name := "<init>", desc := "(Ljava/lang/String;)V" } : Jvm.MethodName)) ∈ wsG := zG 233 rfl rfl
set_option maxRecDepth 40000 in
theorem zw186 : (Jvm.Cond.code ({ cls := "java/lang/Throwable", name := "<init>", desc := "(Ljava/lang/String;)V" } : Jvm.MethodName) prog_16_method_2_code (2 : Nat) (Option.none : Option Jvm.ClassFile.FieldType)) ∈ wsG := zG 234 rfl rfl
set_option maxRecDepth 40000 in
theorem zw187 : (Jvm.Cond.methodLink "java/lang/Throwable" (1 : Nat) ({ cls := "java/lang/Object", name := "<init>", desc := "()V" } : Jvm.MethodName)) ∈ wsG := zG 235 rfl rfl
set_option maxRecDepth 40000 in
theorem zw188 : (Jvm.Cond.fieldLink "java/lang/Throwable" (13 : Nat) "java/lang/Throwable" "UNASSIGNED_STACK" "[Ljava/lang/StackTraceElement;") ∈ wsG := zG 236 rfl rfl
set_option maxRecDepth 40000 in
theorem zw190 : (Jvm.Cond.fieldLink "java/lang/Throwable" (20 : Nat) "java/lang/Throwable" "SUPPRESSED_SENTINEL" "Ljava/util/List;") ∈ wsG := zG 238 rfl rfl
set_option maxRecDepth 40000 in
theorem zw192 : (Jvm.Cond.methodLink "java/lang/Throwable" (27 : Nat) ({ cls := "java/lang/Throwable", name := "fillInStackTrace", desc := "()Ljava/lang/Throwable;" } : Jvm.MethodName)) ∈ wsG := zG 240 rfl rfl
set_option maxRecDepth 40000 in
theorem zw193 : (Jvm.Cond.instanceMethod ({ cls := "java/lang/Throwable", name := "fillInStackTrace", desc := "()Ljava/lang/Throwable;" } : Jvm.MethodName)) ∈ wsG := zG 241 rfl rfl
set_option maxRecDepth 40000 in
theorem zw195 : (Jvm.Cond.selects "java/lang/ArithmeticException" ({ cls := "java/lang/Throwable", name := "fillInStackTrace", desc := "()Ljava/lang/Throwable;" } : Jvm.MethodName) ({ cls := "java/lang/Throwable", name := "fillInStackTrace", desc := "()Ljava/lang/Throwable;" } : Jvm.MethodName)) ∈ wsG := zG 243 rfl rfl
set_option maxRecDepth 40000 in
theorem zw196 : (Jvm.Cond.selects "java/lang/ArrayIndexOutOfBoundsException" ({ cls := "java/lang/Throwable", name := "fillInStackTrace", desc := "()Ljava/lang/Throwable;" } : Jvm.MethodName) ({ cls := "java/lang/Throwable", name := "fillInStackTrace", desc := "()Ljava/lang/Throwable;" } : Jvm.MethodName)) ∈ wsG := zG 244 rfl rfl
set_option maxRecDepth 40000 in
theorem zw197 : (Jvm.Cond.selects "java/lang/IllegalArgumentException" ({ cls := "java/lang/Throwable", name := "fillInStackTrace", desc := "()Ljava/lang/Throwable;" } : Jvm.MethodName) ({ cls := "java/lang/Throwable", name := "fillInStackTrace", desc := "()Ljava/lang/Throwable;" } : Jvm.MethodName)) ∈ wsG := zG 245 rfl rfl
set_option maxRecDepth 40000 in
theorem zw198 : (Jvm.Cond.selects "java/lang/IllegalStateException" ({ cls := "java/lang/Throwable", name := "fillInStackTrace", desc := "()Ljava/lang/Throwable;" } : Jvm.MethodName) ({ cls := "java/lang/Throwable", name := "fillInStackTrace", desc := "()Ljava/lang/Throwable;" } : Jvm.MethodName)) ∈ wsG := zG 246 rfl rfl
set_option maxRecDepth 40000 in
theorem zw199 : (Jvm.Cond.selects "java/lang/IndexOutOfBoundsException" ({ cls := "java/lang/Throwable", name := "fillInStackTrace", desc := "()Ljava/lang/Throwable;" } : Jvm.MethodName) ({ cls := "java/lang/Throwable", name := "fillInStackTrace", desc := "()Ljava/lang/Throwable;" } : Jvm.MethodName)) ∈ wsG := zG 247 rfl rfl
set_option maxRecDepth 40000 in
theorem zw201 : (Jvm.Cond.methodLink "java/lang/Throwable" (202 : Nat) ({ cls := "java/lang/Throwable", name := "fillInStackTrace", desc := "(I)Ljava/lang/Throwable;" } : Jvm.MethodName)) ∈ wsG := zG 249 rfl rfl
set_option maxRecDepth 40000 in
theorem zw203 : (Jvm.Cond.instanceMethod ({ cls := "java/lang/Throwable", name := "fillInStackTrace", desc := "(I)Ljava/lang/Throwable;" } : Jvm.MethodName)) ∈ wsG := zG 251 rfl rfl
set_option maxRecDepth 40000 in
theorem zw204 : (Jvm.Cond.instantiable "java/lang/Throwable" (6 : Nat)) ∈ wsG := zG 252 rfl rfl
set_option maxRecDepth 40000 in
theorem zw206 : (Jvm.Cond.fieldLink "java/lang/Throwable" (198 : Nat) "java/lang/Throwable" "backtrace" "Ljava/lang/Object;") ∈ wsG := zG 254 rfl rfl
set_option maxRecDepth 40000 in
theorem zw207 : (Jvm.Cond.fieldLink "java/lang/Throwable" (31 : Nat) "java/lang/Throwable" "detailMessage" "Ljava/lang/String;") ∈ wsG := zG 255 rfl rfl
set_option maxRecDepth 40000 in
theorem zw208 : (Jvm.Cond.fieldLink "java/lang/Throwable" (7 : Nat) "java/lang/Throwable" "cause" "Ljava/lang/Throwable;") ∈ wsG := zG 256 rfl rfl
set_option maxRecDepth 40000 in
theorem zw209 : (Jvm.Cond.fieldLink "java/lang/Throwable" (17 : Nat) "java/lang/Throwable" "stackTrace" "[Ljava/lang/StackTraceElement;") ∈ wsG := zG 257 rfl rfl
set_option maxRecDepth 40000 in
theorem zw210 : (Jvm.Cond.fieldLink "java/lang/Throwable" (24 : Nat) "java/lang/Throwable" "suppressedExceptions" "Ljava/util/List;") ∈ wsG := zG 258 rfl rfl
set_option maxRecDepth 40000 in
theorem zw231 : (Jvm.Cond.selects "java/lang/ArithmeticException" ({ cls := "java/lang/Throwable", name := "fillInStackTrace", desc := "(I)Ljava/lang/Throwable;" } : Jvm.MethodName) ({ cls := "java/lang/Throwable", name := "fillInStackTrace", desc := "(I)Ljava/lang/Throwable;" } : Jvm.MethodName)) ∈ wsG := zG 279 rfl rfl
set_option maxRecDepth 40000 in
theorem zw237 : (Jvm.Cond.fieldLink "java/lang/Throwable" (198 : Nat) "java/lang/Throwable" "backtrace" "Ljava/lang/Object;") ∈ wsG := zG 285 rfl rfl
set_option maxRecDepth 40000 in
theorem zw239 : (Jvm.Cond.instanceMethod ({ cls := "java/lang/Throwable", name := "<init>", desc := "()V" } : Jvm.MethodName)) ∈ wsG := zG 287 rfl rfl
set_option maxRecDepth 40000 in
theorem zw240 : (Jvm.Cond.code ({ cls := "java/lang/Throwable", name := "<init>", desc := "()V" } : Jvm.MethodName) prog_16_method_1_code (1 : Nat) (Option.none : Option Jvm.ClassFile.FieldType)) ∈ wsG := zG 288 rfl rfl
set_option maxRecDepth 40000 in
theorem zw241 : (Jvm.Cond.instantiable "java/lang/String" (4 : Nat)) ∈ wsG := zG 289 rfl rfl
set_option maxRecDepth 40000 in
theorem zw242 : (Jvm.Cond.arrayClass Jvm.ClassFile.FieldType.byte) ∈ wsG := zG 290 rfl rfl
set_option maxRecDepth 40000 in
theorem zw247 : (Jvm.Cond.methodLink "TowerFieldsLaw" (7 : Nat) ({ cls := "TowerFields", name := "number", desc := "(JJ)I" } : Jvm.MethodName)) ∈ wsG := zG 295 rfl rfl
set_option maxRecDepth 40000 in
theorem zw248 : (Jvm.Cond.instanceMethod ({ cls := "TowerFields", name := "number", desc := "(JJ)I" } : Jvm.MethodName)) ∈ wsG := zG 296 rfl rfl
set_option maxRecDepth 40000 in
theorem zw249 : (Jvm.Cond.selects "TowerFields" ({ cls := "TowerFields", name := "number", desc := "(JJ)I" } : Jvm.MethodName) ({ cls := "TowerFields", name := "number", desc := "(JJ)I" } : Jvm.MethodName)) ∈ wsG := zG 297 rfl rfl
set_option maxRecDepth 40000 in
theorem zw250 : (Jvm.Cond.code ({ cls := "TowerFields", name := "number", desc := "(JJ)I" } : Jvm.MethodName) prog_1_method_2_code (6 : Nat) (Option.some Jvm.ClassFile.FieldType.int)) ∈ wsG := zG 298 rfl rfl
set_option maxRecDepth 40000 in
theorem zw251 : (Jvm.Cond.methodLink "TowerFields" (76 : Nat) ({ cls := "TowerFields", name := "requireRoom", desc := "()V" } : Jvm.MethodName)) ∈ wsG := zG 299 rfl rfl
set_option maxRecDepth 40000 in
theorem zw253 : (Jvm.Cond.instanceMethod ({ cls := "TowerFields", name := "requireRoom", desc := "()V" } : Jvm.MethodName)) ∈ wsG := zG 301 rfl rfl
set_option maxRecDepth 40000 in
theorem zw254 : (Jvm.Cond.code ({ cls := "TowerFields", name := "requireRoom", desc := "()V" } : Jvm.MethodName) prog_1_method_20_code (1 : Nat) (Option.none : Option Jvm.ClassFile.FieldType)) ∈ wsG := zG 302 rfl rfl
set_option maxRecDepth 40000 in
theorem zw255 : (Jvm.Cond.classLink "TowerFields" (188 : Nat) "java/lang/IllegalStateException") ∈ wsG := zG 303 rfl rfl
set_option maxRecDepth 40000 in
theorem zw256 : (Jvm.Cond.instantiable "java/lang/IllegalStateException" (6 : Nat)) ∈ wsG := zG 304 rfl rfl
set_option maxRecDepth 40000 in
theorem zw258 : (Jvm.Cond.selects "java/lang/IllegalStateException" ({ cls := "java/lang/Throwable", name := "fillInStackTrace", desc := "(I)Ljava/lang/Throwable;" } : Jvm.MethodName) ({ cls := "java/lang/Throwable", name := "fillInStackTrace", desc := "(I)Ljava/lang/Throwable;" } : Jvm.MethodName)) ∈ wsG := zG 306 rfl rfl
set_option maxRecDepth 40000 in
theorem zw265 : (Jvm.Cond.methodLink "TowerFields" (192 : Nat) ({ cls := "java/lang/IllegalStateException", name := "<init>", desc := "(Ljava/lang/String;)V" } : Jvm.MethodName)) ∈ wsG := zG 313 rfl rfl
set_option maxRecDepth 40000 in
theorem zw266 : (Jvm.Cond.instanceMethod ({ cls := "java/lang/IllegalStateException", name := "<init>", desc := "(Ljava/lang/String;)V" } : Jvm.MethodName)) ∈ wsG := zG 314 rfl rfl
set_option maxRecDepth 40000 in
theorem zw267 : (Jvm.Cond.code ({ cls := "java/lang/IllegalStateException", name := "<init>", desc := "(Ljava/lang/String;)V" } : Jvm.MethodName) prog_11_method_2_code (2 : Nat) (Option.none : Option Jvm.ClassFile.FieldType)) ∈ wsG := zG 315 rfl rfl
set_option maxRecDepth 40000 in
theorem zw268 : (Jvm.Cond.methodLink "java/lang/IllegalStateException" (7 : Nat) ({ cls := "java/lang/RuntimeException", name := "<init>", desc := "(Ljava/lang/String;)V" } : Jvm.MethodName)) ∈ wsG := zG 316 rfl rfl
set_option maxRecDepth 40000 in
theorem zw271 : (Jvm.Cond.methodLink "TowerFields" (79 : Nat) ({ cls := "TowerFields", name := "residue", desc := "(J)I" } : Jvm.MethodName)) ∈ wsG := zG 319 rfl rfl
set_option maxRecDepth 40000 in
theorem zw272 : (Jvm.Cond.static ({ cls := "TowerFields", name := "residue", desc := "(J)I" } : Jvm.MethodName)) ∈ wsG := zG 320 rfl rfl
set_option maxRecDepth 40000 in
theorem zw273 : (Jvm.Cond.code ({ cls := "TowerFields", name := "residue", desc := "(J)I" } : Jvm.MethodName) prog_1_method_38_code (4 : Nat) (Option.some Jvm.ClassFile.FieldType.int)) ∈ wsG := zG 321 rfl rfl
set_option maxRecDepth 40000 in
theorem zw274 : (Jvm.Cond.constantLong "TowerFields" (243 : Nat) (32003 : Int64)) ∈ wsG := zG 322 rfl rfl
set_option maxRecDepth 40000 in
theorem zw275 : (Jvm.Cond.classLink "TowerFields" (83 : Nat) "java/lang/ArithmeticException") ∈ wsG := zG 323 rfl rfl
set_option maxRecDepth 40000 in
theorem zw277 : (Jvm.Cond.methodLink "TowerFields" (87 : Nat) ({ cls := "java/lang/ArithmeticException", name := "<init>", desc := "(Ljava/lang/String;)V" } : Jvm.MethodName)) ∈ wsG := zG 325 rfl rfl
set_option maxRecDepth 40000 in
theorem zw278 : (Jvm.Cond.methodLink "TowerFields" (90 : Nat) ({ cls := "TowerFields", name := "inverse", desc := "(I)I" } : Jvm.MethodName)) ∈ wsG := zG 326 rfl rfl
set_option maxRecDepth 40000 in
theorem zw279 : (Jvm.Cond.static ({ cls := "TowerFields", name := "inverse", desc := "(I)I" } : Jvm.MethodName)) ∈ wsG := zG 327 rfl rfl
set_option maxRecDepth 40000 in
theorem zw280 : (Jvm.Cond.code ({ cls := "TowerFields", name := "inverse", desc := "(I)I" } : Jvm.MethodName) prog_1_method_39_code (4 : Nat) (Option.some Jvm.ClassFile.FieldType.int)) ∈ wsG := zG 328 rfl rfl
set_option maxRecDepth 40000 in
theorem zw281 : (Jvm.Cond.methodLink "TowerFields" (94 : Nat) ({ cls := "TowerFields", name := "keepSingle", desc := "(III)I" } : Jvm.MethodName)) ∈ wsG := zG 329 rfl rfl
set_option maxRecDepth 40000 in
theorem zw283 : (Jvm.Cond.instanceMethod ({ cls := "TowerFields", name := "keepSingle", desc := "(III)I" } : Jvm.MethodName)) ∈ wsG := zG 331 rfl rfl
set_option maxRecDepth 40000 in
theorem zw284 : (Jvm.Cond.code ({ cls := "TowerFields", name := "keepSingle", desc := "(III)I" } : Jvm.MethodName) prog_1_method_27_code (4 : Nat) (Option.some Jvm.ClassFile.FieldType.int)) ∈ wsG := zG 332 rfl rfl
set_option maxRecDepth 40000 in
theorem zw285 : (Jvm.Cond.methodLink "TowerFields" (130 : Nat) ({ cls := "TowerFields$Poly", name := "clear", desc := "()V" } : Jvm.MethodName)) ∈ wsG := zG 333 rfl rfl
set_option maxRecDepth 40000 in
theorem zw286 : (Jvm.Cond.instanceMethod ({ cls := "TowerFields$Poly", name := "clear", desc := "()V" } : Jvm.MethodName)) ∈ wsG := zG 334 rfl rfl
set_option maxRecDepth 40000 in
theorem zw287 : (Jvm.Cond.selects "TowerFields$Poly" ({ cls := "TowerFields$Poly", name := "clear", desc := "()V" } : Jvm.MethodName) ({ cls := "TowerFields$Poly", name := "clear", desc := "()V" } : Jvm.MethodName)) ∈ wsG := zG 335 rfl rfl
set_option maxRecDepth 40000 in
theorem zw288 : (Jvm.Cond.code ({ cls := "TowerFields$Poly", name := "clear", desc := "()V" } : Jvm.MethodName) prog_4_method_3_code (2 : Nat) (Option.none : Option Jvm.ClassFile.FieldType)) ∈ wsG := zG 336 rfl rfl
set_option maxRecDepth 40000 in
theorem zw289 : (Jvm.Cond.methodLink "TowerFields$Poly" (18 : Nat) ({ cls := "TowerFields$Line", name := "clear", desc := "()V" } : Jvm.MethodName)) ∈ wsG := zG 337 rfl rfl
set_option maxRecDepth 40000 in
theorem zw290 : (Jvm.Cond.instanceMethod ({ cls := "TowerFields$Line", name := "clear", desc := "()V" } : Jvm.MethodName)) ∈ wsG := zG 338 rfl rfl
set_option maxRecDepth 40000 in
theorem zw291 : (Jvm.Cond.selects "TowerFields$Line" ({ cls := "TowerFields$Line", name := "clear", desc := "()V" } : Jvm.MethodName) ({ cls := "TowerFields$Line", name := "clear", desc := "()V" } : Jvm.MethodName)) ∈ wsG := zG 339 rfl rfl
set_option maxRecDepth 40000 in
theorem zw292 : (Jvm.Cond.code ({ cls := "TowerFields$Line", name := "clear", desc := "()V" } : Jvm.MethodName) prog_3_method_4_code (2 : Nat) (Option.none : Option Jvm.ClassFile.FieldType)) ∈ wsG := zG 340 rfl rfl
set_option maxRecDepth 40000 in
theorem zw293 : (Jvm.Cond.methodLink "TowerFields" (162 : Nat) ({ cls := "TowerFields", name := "keep", desc := "(LTowerFields$Poly;LTowerFields$Poly;)I" } : Jvm.MethodName)) ∈ wsG := zG 341 rfl rfl
set_option maxRecDepth 40000 in
theorem zw295 : (Jvm.Cond.instanceMethod ({ cls := "TowerFields", name := "keep", desc := "(LTowerFields$Poly;LTowerFields$Poly;)I" } : Jvm.MethodName)) ∈ wsG := zG 343 rfl rfl
set_option maxRecDepth 40000 in
theorem zw296 : (Jvm.Cond.code ({ cls := "TowerFields", name := "keep", desc := "(LTowerFields$Poly;LTowerFields$Poly;)I" } : Jvm.MethodName) prog_1_method_30_code (5 : Nat) (Option.some Jvm.ClassFile.FieldType.int)) ∈ wsG := zG 344 rfl rfl
set_option maxRecDepth 40000 in
theorem zw297 : (Jvm.Cond.methodLink "TowerFields" (175 : Nat) ({ cls := "TowerFields", name := "place", desc := "(IIII)I" } : Jvm.MethodName)) ∈ wsG := zG 345 rfl rfl
set_option maxRecDepth 40000 in
theorem zw298 : (Jvm.Cond.static ({ cls := "TowerFields", name := "place", desc := "(IIII)I" } : Jvm.MethodName)) ∈ wsG := zG 346 rfl rfl
set_option maxRecDepth 40000 in
theorem zw299 : (Jvm.Cond.code ({ cls := "TowerFields", name := "place", desc := "(IIII)I" } : Jvm.MethodName) prog_1_method_21_code (4 : Nat) (Option.some Jvm.ClassFile.FieldType.int)) ∈ wsG := zG 347 rfl rfl
set_option maxRecDepth 40000 in
theorem zw300 : (Jvm.Cond.methodLink "TowerFields" (217 : Nat) ({ cls := "TowerFields$Line", name := "get", desc := "(I)I" } : Jvm.MethodName)) ∈ wsG := zG 348 rfl rfl
set_option maxRecDepth 40000 in
theorem zw301 : (Jvm.Cond.instanceMethod ({ cls := "TowerFields$Line", name := "get", desc := "(I)I" } : Jvm.MethodName)) ∈ wsG := zG 349 rfl rfl
set_option maxRecDepth 40000 in
theorem zw302 : (Jvm.Cond.selects "TowerFields$Line" ({ cls := "TowerFields$Line", name := "get", desc := "(I)I" } : Jvm.MethodName) ({ cls := "TowerFields$Line", name := "get", desc := "(I)I" } : Jvm.MethodName)) ∈ wsG := zG 350 rfl rfl
set_option maxRecDepth 40000 in
theorem zw303 : (Jvm.Cond.code ({ cls := "TowerFields$Line", name := "get", desc := "(I)I" } : Jvm.MethodName) prog_3_method_2_code (2 : Nat) (Option.some Jvm.ClassFile.FieldType.int)) ∈ wsG := zG 351 rfl rfl
set_option maxRecDepth 40000 in
theorem zw304 : (Jvm.Cond.methodLink "TowerFields" (220 : Nat) ({ cls := "TowerFields", name := "store", desc := "(II)V" } : Jvm.MethodName)) ∈ wsG := zG 352 rfl rfl
set_option maxRecDepth 40000 in
theorem zw306 : (Jvm.Cond.instanceMethod ({ cls := "TowerFields", name := "store", desc := "(II)V" } : Jvm.MethodName)) ∈ wsG := zG 354 rfl rfl
set_option maxRecDepth 40000 in
theorem zw307 : (Jvm.Cond.code ({ cls := "TowerFields", name := "store", desc := "(II)V" } : Jvm.MethodName) prog_1_method_23_code (3 : Nat) (Option.none : Option Jvm.ClassFile.FieldType)) ∈ wsG := zG 355 rfl rfl
set_option maxRecDepth 40000 in
theorem zw308 : (Jvm.Cond.methodLink "TowerFieldsLaw" (87 : Nat) ({ cls := "TowerFieldsLaw", name := "base", desc := "(LTowerFields;[J)I" } : Jvm.MethodName)) ∈ wsG := zG 356 rfl rfl
set_option maxRecDepth 40000 in
theorem zw309 : (Jvm.Cond.static ({ cls := "TowerFieldsLaw", name := "base", desc := "(LTowerFields;[J)I" } : Jvm.MethodName)) ∈ wsG := zG 357 rfl rfl
set_option maxRecDepth 40000 in
theorem zw311 : (Jvm.Cond.methodLink "TowerFieldsLaw" (17 : Nat) ({ cls := "TowerFields", name := "base", desc := "()I" } : Jvm.MethodName)) ∈ wsG := zG 359 rfl rfl
set_option maxRecDepth 40000 in
theorem zw312 : (Jvm.Cond.instanceMethod ({ cls := "TowerFields", name := "base", desc := "()I" } : Jvm.MethodName)) ∈ wsG := zG 360 rfl rfl
set_option maxRecDepth 40000 in
theorem zw313 : (Jvm.Cond.selects "TowerFields" ({ cls := "TowerFields", name := "base", desc := "()I" } : Jvm.MethodName) ({ cls := "TowerFields", name := "base", desc := "()I" } : Jvm.MethodName)) ∈ wsG := zG 361 rfl rfl
set_option maxRecDepth 40000 in
theorem zw314 : (Jvm.Cond.code ({ cls := "TowerFields", name := "base", desc := "()I" } : Jvm.MethodName) prog_1_method_3_code (1 : Nat) (Option.some Jvm.ClassFile.FieldType.int)) ∈ wsG := zG 362 rfl rfl
set_option maxRecDepth 40000 in
theorem zw315 : (Jvm.Cond.methodLink "TowerFieldsLaw" (91 : Nat) ({ cls := "TowerFieldsLaw", name := "letter", desc := "(LTowerFields;II[J)I" } : Jvm.MethodName)) ∈ wsG := zG 363 rfl rfl
set_option maxRecDepth 40000 in
theorem zw316 : (Jvm.Cond.static ({ cls := "TowerFieldsLaw", name := "letter", desc := "(LTowerFields;II[J)I" } : Jvm.MethodName)) ∈ wsG := zG 364 rfl rfl
set_option maxRecDepth 40000 in
theorem zw318 : (Jvm.Cond.classLink "TowerFieldsLaw" (25 : Nat) "java/lang/IndexOutOfBoundsException") ∈ wsG := zG 366 rfl rfl
set_option maxRecDepth 40000 in
theorem zw319 : (Jvm.Cond.instantiable "java/lang/ArrayIndexOutOfBoundsException" (6 : Nat)) ∈ wsG := zG 367 rfl rfl
set_option maxRecDepth 40000 in
theorem zw320 : (Jvm.Cond.instanceMethod ({ cls := "java/lang/ArrayIndexOutOfBoundsException", name := "<init>", desc := "(Ljava/lang/String;)V" } : Jvm.MethodName)) ∈ wsG := zG 368 rfl rfl
set_option maxRecDepth 40000 in
theorem zw321 : (Jvm.Cond.code ({ cls := "java/lang/ArrayIndexOutOfBoundsException", name := "<init>", desc := "(Ljava/lang/String;)V" } : Jvm.MethodName) prog_8_method_2_code (2 : Nat) (Option.none : Option Jvm.ClassFile.FieldType)) ∈ wsG := zG 369 rfl rfl
set_option maxRecDepth 40000 in
theorem zw322 : (Jvm.Cond.methodLink "java/lang/ArrayIndexOutOfBoundsException" (7 : Nat) ({ cls := "java/lang/IndexOutOfBoundsException", name := "<init>", desc := "(Ljava/lang/String;)V" } : Jvm.MethodName)) ∈ wsG := zG 370 rfl rfl
set_option maxRecDepth 40000 in
theorem zw323 : (Jvm.Cond.instanceMethod ({ cls := "java/lang/IndexOutOfBoundsException", name := "<init>", desc := "(Ljava/lang/String;)V" } : Jvm.MethodName)) ∈ wsG := zG 371 rfl rfl
set_option maxRecDepth 40000 in
theorem zw324 : (Jvm.Cond.code ({ cls := "java/lang/IndexOutOfBoundsException", name := "<init>", desc := "(Ljava/lang/String;)V" } : Jvm.MethodName) prog_12_method_2_code (2 : Nat) (Option.none : Option Jvm.ClassFile.FieldType)) ∈ wsG := zG 372 rfl rfl
set_option maxRecDepth 40000 in
theorem zw325 : (Jvm.Cond.methodLink "java/lang/IndexOutOfBoundsException" (7 : Nat) ({ cls := "java/lang/RuntimeException", name := "<init>", desc := "(Ljava/lang/String;)V" } : Jvm.MethodName)) ∈ wsG := zG 373 rfl rfl
set_option maxRecDepth 40000 in
theorem zw336 : (Jvm.Cond.selects "java/lang/ArrayIndexOutOfBoundsException" ({ cls := "java/lang/Throwable", name := "fillInStackTrace", desc := "(I)Ljava/lang/Throwable;" } : Jvm.MethodName) ({ cls := "java/lang/Throwable", name := "fillInStackTrace", desc := "(I)Ljava/lang/Throwable;" } : Jvm.MethodName)) ∈ wsG := zG 384 rfl rfl
set_option maxRecDepth 40000 in
theorem zw337 : (Jvm.Cond.classLink "TowerFieldsLaw" (27 : Nat) "java/lang/IllegalArgumentException") ∈ wsG := zG 385 rfl rfl
set_option maxRecDepth 40000 in
theorem zw338 : (Jvm.Cond.methodLink "TowerFieldsLaw" (21 : Nat) ({ cls := "TowerFields", name := "letter", desc := "(II)I" } : Jvm.MethodName)) ∈ wsG := zG 386 rfl rfl
set_option maxRecDepth 40000 in
theorem zw339 : (Jvm.Cond.instanceMethod ({ cls := "TowerFields", name := "letter", desc := "(II)I" } : Jvm.MethodName)) ∈ wsG := zG 387 rfl rfl
set_option maxRecDepth 40000 in
theorem zw340 : (Jvm.Cond.selects "TowerFields" ({ cls := "TowerFields", name := "letter", desc := "(II)I" } : Jvm.MethodName) ({ cls := "TowerFields", name := "letter", desc := "(II)I" } : Jvm.MethodName)) ∈ wsG := zG 388 rfl rfl
set_option maxRecDepth 40000 in
theorem zw341 : (Jvm.Cond.code ({ cls := "TowerFields", name := "letter", desc := "(II)I" } : Jvm.MethodName) prog_1_method_4_code (3 : Nat) (Option.some Jvm.ClassFile.FieldType.int)) ∈ wsG := zG 389 rfl rfl
set_option maxRecDepth 40000 in
theorem zw342 : (Jvm.Cond.methodLink "TowerFields" (98 : Nat) ({ cls := "TowerFields", name := "requireElement", desc := "(I)V" } : Jvm.MethodName)) ∈ wsG := zG 390 rfl rfl
set_option maxRecDepth 40000 in
theorem zw344 : (Jvm.Cond.instanceMethod ({ cls := "TowerFields", name := "requireElement", desc := "(I)V" } : Jvm.MethodName)) ∈ wsG := zG 392 rfl rfl
set_option maxRecDepth 40000 in
theorem zw345 : (Jvm.Cond.code ({ cls := "TowerFields", name := "requireElement", desc := "(I)V" } : Jvm.MethodName) prog_1_method_19_code (2 : Nat) (Option.none : Option Jvm.ClassFile.FieldType)) ∈ wsG := zG 393 rfl rfl
set_option maxRecDepth 40000 in
theorem zw346 : (Jvm.Cond.classLink "TowerFields" (183 : Nat) "java/lang/IndexOutOfBoundsException") ∈ wsG := zG 394 rfl rfl
set_option maxRecDepth 40000 in
theorem zw347 : (Jvm.Cond.instantiable "java/lang/IndexOutOfBoundsException" (6 : Nat)) ∈ wsG := zG 395 rfl rfl
set_option maxRecDepth 40000 in
theorem zw349 : (Jvm.Cond.selects "java/lang/IndexOutOfBoundsException" ({ cls := "java/lang/Throwable", name := "fillInStackTrace", desc := "(I)Ljava/lang/Throwable;" } : Jvm.MethodName) ({ cls := "java/lang/Throwable", name := "fillInStackTrace", desc := "(I)Ljava/lang/Throwable;" } : Jvm.MethodName)) ∈ wsG := zG 397 rfl rfl
set_option maxRecDepth 40000 in
theorem zw356 : (Jvm.Cond.methodLink "TowerFields" (187 : Nat) ({ cls := "java/lang/IndexOutOfBoundsException", name := "<init>", desc := "(Ljava/lang/String;)V" } : Jvm.MethodName)) ∈ wsG := zG 404 rfl rfl
set_option maxRecDepth 40000 in
theorem zw359 : (Jvm.Cond.classLink "TowerFields" (102 : Nat) "java/lang/IllegalArgumentException") ∈ wsG := zG 407 rfl rfl
set_option maxRecDepth 40000 in
theorem zw360 : (Jvm.Cond.instantiable "java/lang/IllegalArgumentException" (6 : Nat)) ∈ wsG := zG 408 rfl rfl
set_option maxRecDepth 40000 in
theorem zw362 : (Jvm.Cond.selects "java/lang/IllegalArgumentException" ({ cls := "java/lang/Throwable", name := "fillInStackTrace", desc := "(I)Ljava/lang/Throwable;" } : Jvm.MethodName) ({ cls := "java/lang/Throwable", name := "fillInStackTrace", desc := "(I)Ljava/lang/Throwable;" } : Jvm.MethodName)) ∈ wsG := zG 410 rfl rfl
set_option maxRecDepth 40000 in
theorem zw369 : (Jvm.Cond.methodLink "TowerFields" (106 : Nat) ({ cls := "java/lang/IllegalArgumentException", name := "<init>", desc := "(Ljava/lang/String;)V" } : Jvm.MethodName)) ∈ wsG := zG 417 rfl rfl
set_option maxRecDepth 40000 in
theorem zw370 : (Jvm.Cond.instanceMethod ({ cls := "java/lang/IllegalArgumentException", name := "<init>", desc := "(Ljava/lang/String;)V" } : Jvm.MethodName)) ∈ wsG := zG 418 rfl rfl
set_option maxRecDepth 40000 in
theorem zw371 : (Jvm.Cond.code ({ cls := "java/lang/IllegalArgumentException", name := "<init>", desc := "(Ljava/lang/String;)V" } : Jvm.MethodName) prog_10_method_2_code (2 : Nat) (Option.none : Option Jvm.ClassFile.FieldType)) ∈ wsG := zG 419 rfl rfl
set_option maxRecDepth 40000 in
theorem zw372 : (Jvm.Cond.methodLink "java/lang/IllegalArgumentException" (7 : Nat) ({ cls := "java/lang/RuntimeException", name := "<init>", desc := "(Ljava/lang/String;)V" } : Jvm.MethodName)) ∈ wsG := zG 420 rfl rfl
set_option maxRecDepth 40000 in
theorem zw376 : (Jvm.Cond.methodLink "TowerFields" (109 : Nat) ({ cls := "TowerFields", name := "hasNoSlope", desc := "(I)Z" } : Jvm.MethodName)) ∈ wsG := zG 424 rfl rfl
set_option maxRecDepth 40000 in
theorem zw378 : (Jvm.Cond.instanceMethod ({ cls := "TowerFields", name := "hasNoSlope", desc := "(I)Z" } : Jvm.MethodName)) ∈ wsG := zG 426 rfl rfl
set_option maxRecDepth 40000 in
theorem zw379 : (Jvm.Cond.code ({ cls := "TowerFields", name := "hasNoSlope", desc := "(I)Z" } : Jvm.MethodName) prog_1_method_31_code (2 : Nat) (Option.some Jvm.ClassFile.FieldType.boolean)) ∈ wsG := zG 427 rfl rfl
set_option maxRecDepth 40000 in
theorem zw380 : (Jvm.Cond.methodLink "TowerFields" (141 : Nat) ({ cls := "TowerFields", name := "slopeOfFraction", desc := "(I)V" } : Jvm.MethodName)) ∈ wsG := zG 428 rfl rfl
set_option maxRecDepth 40000 in
theorem zw382 : (Jvm.Cond.instanceMethod ({ cls := "TowerFields", name := "slopeOfFraction", desc := "(I)V" } : Jvm.MethodName)) ∈ wsG := zG 430 rfl rfl
set_option maxRecDepth 40000 in
theorem zw383 : (Jvm.Cond.code ({ cls := "TowerFields", name := "slopeOfFraction", desc := "(I)V" } : Jvm.MethodName) prog_1_method_32_code (2 : Nat) (Option.none : Option Jvm.ClassFile.FieldType)) ∈ wsG := zG 431 rfl rfl
set_option maxRecDepth 40000 in
theorem zw384 : (Jvm.Cond.methodLink "TowerFields" (150 : Nat) ({ cls := "TowerFields", name := "load", desc := "(IILTowerFields$Poly;)V" } : Jvm.MethodName)) ∈ wsG := zG 432 rfl rfl
set_option maxRecDepth 40000 in
theorem zw386 : (Jvm.Cond.instanceMethod ({ cls := "TowerFields", name := "load", desc := "(IILTowerFields$Poly;)V" } : Jvm.MethodName)) ∈ wsG := zG 434 rfl rfl
set_option maxRecDepth 40000 in
theorem zw387 : (Jvm.Cond.code ({ cls := "TowerFields", name := "load", desc := "(IILTowerFields$Poly;)V" } : Jvm.MethodName) prog_1_method_24_code (7 : Nat) (Option.none : Option Jvm.ClassFile.FieldType)) ∈ wsG := zG 435 rfl rfl
set_option maxRecDepth 40000 in
theorem zw388 : (Jvm.Cond.methodLink "TowerFields" (172 : Nat) ({ cls := "TowerFields", name := "stored", desc := "(I)I" } : Jvm.MethodName)) ∈ wsG := zG 436 rfl rfl
set_option maxRecDepth 40000 in
theorem zw390 : (Jvm.Cond.instanceMethod ({ cls := "TowerFields", name := "stored", desc := "(I)I" } : Jvm.MethodName)) ∈ wsG := zG 438 rfl rfl
set_option maxRecDepth 40000 in
theorem zw391 : (Jvm.Cond.code ({ cls := "TowerFields", name := "stored", desc := "(I)I" } : Jvm.MethodName) prog_1_method_22_code (2 : Nat) (Option.some Jvm.ClassFile.FieldType.int)) ∈ wsG := zG 439 rfl rfl
set_option maxRecDepth 40000 in
theorem zw392 : (Jvm.Cond.methodLink "TowerFields" (223 : Nat) ({ cls := "TowerFields", name := "slopeOfPoly", desc := "(LTowerFields$Poly;LTowerFields$Poly;)V" } : Jvm.MethodName)) ∈ wsG := zG 440 rfl rfl
set_option maxRecDepth 40000 in
theorem zw394 : (Jvm.Cond.instanceMethod ({ cls := "TowerFields", name := "slopeOfPoly", desc := "(LTowerFields$Poly;LTowerFields$Poly;)V" } : Jvm.MethodName)) ∈ wsG := zG 442 rfl rfl
set_option maxRecDepth 40000 in
theorem zw395 : (Jvm.Cond.code ({ cls := "TowerFields", name := "slopeOfPoly", desc := "(LTowerFields$Poly;LTowerFields$Poly;)V" } : Jvm.MethodName) prog_1_method_33_code (6 : Nat) (Option.none : Option Jvm.ClassFile.FieldType)) ∈ wsG := zG 443 rfl rfl
set_option maxRecDepth 40000 in
theorem zw396 : (Jvm.Cond.methodLink "TowerFields" (226 : Nat) ({ cls := "TowerFields$Line", name := "plusSlopeProduct", desc := "(LTowerFields$Line;LTowerFields$Line;)V" } : Jvm.MethodName)) ∈ wsG := zG 444 rfl rfl
set_option maxRecDepth 40000 in
theorem zw397 : (Jvm.Cond.instanceMethod ({ cls := "TowerFields$Line", name := "plusSlopeProduct", desc := "(LTowerFields$Line;LTowerFields$Line;)V" } : Jvm.MethodName)) ∈ wsG := zG 445 rfl rfl
set_option maxRecDepth 40000 in
theorem zw398 : (Jvm.Cond.selects "TowerFields$Line" ({ cls := "TowerFields$Line", name := "plusSlopeProduct", desc := "(LTowerFields$Line;LTowerFields$Line;)V" } : Jvm.MethodName) ({ cls := "TowerFields$Line", name := "plusSlopeProduct", desc := "(LTowerFields$Line;LTowerFields$Line;)V" } : Jvm.MethodName)) ∈ wsG := zG 446 rfl rfl
set_option maxRecDepth 40000 in
theorem zw399 : (Jvm.Cond.code ({ cls := "TowerFields$Line", name := "plusSlopeProduct", desc := "(LTowerFields$Line;LTowerFields$Line;)V" } : Jvm.MethodName) prog_3_method_10_code (5 : Nat) (Option.none : Option Jvm.ClassFile.FieldType)) ∈ wsG := zG 447 rfl rfl
set_option maxRecDepth 40000 in
theorem zw400 : (Jvm.Cond.methodLink "TowerFields$Line" (19 : Nat) ({ cls := "TowerFields$Line", name := "get", desc := "(I)I" } : Jvm.MethodName)) ∈ wsG := zG 448 rfl rfl
set_option maxRecDepth 40000 in
theorem zw401 : (Jvm.Cond.methodLink "TowerFields$Line" (27 : Nat) ({ cls := "TowerFields$Line", name := "plusShifted", desc := "(LTowerFields$Line;II)V" } : Jvm.MethodName)) ∈ wsG := zG 449 rfl rfl
set_option maxRecDepth 40000 in
theorem zw402 : (Jvm.Cond.instanceMethod ({ cls := "TowerFields$Line", name := "plusShifted", desc := "(LTowerFields$Line;II)V" } : Jvm.MethodName)) ∈ wsG := zG 450 rfl rfl
set_option maxRecDepth 40000 in
theorem zw403 : (Jvm.Cond.selects "TowerFields$Line" ({ cls := "TowerFields$Line", name := "plusShifted", desc := "(LTowerFields$Line;II)V" } : Jvm.MethodName) ({ cls := "TowerFields$Line", name := "plusShifted", desc := "(LTowerFields$Line;II)V" } : Jvm.MethodName)) ∈ wsG := zG 451 rfl rfl
set_option maxRecDepth 40000 in
theorem zw404 : (Jvm.Cond.code ({ cls := "TowerFields$Line", name := "plusShifted", desc := "(LTowerFields$Line;II)V" } : Jvm.MethodName) prog_3_method_8_code (7 : Nat) (Option.none : Option Jvm.ClassFile.FieldType)) ∈ wsG := zG 452 rfl rfl
set_option maxRecDepth 40000 in
theorem zw405 : (Jvm.Cond.methodLink "TowerFields" (230 : Nat) ({ cls := "TowerFields$Line", name := "plusProduct", desc := "(LTowerFields$Line;LTowerFields$Line;I)V" } : Jvm.MethodName)) ∈ wsG := zG 453 rfl rfl
set_option maxRecDepth 40000 in
theorem zw406 : (Jvm.Cond.instanceMethod ({ cls := "TowerFields$Line", name := "plusProduct", desc := "(LTowerFields$Line;LTowerFields$Line;I)V" } : Jvm.MethodName)) ∈ wsG := zG 454 rfl rfl
set_option maxRecDepth 40000 in
theorem zw407 : (Jvm.Cond.selects "TowerFields$Line" ({ cls := "TowerFields$Line", name := "plusProduct", desc := "(LTowerFields$Line;LTowerFields$Line;I)V" } : Jvm.MethodName) ({ cls := "TowerFields$Line", name := "plusProduct", desc := "(LTowerFields$Line;LTowerFields$Line;I)V" } : Jvm.MethodName)) ∈ wsG := zG 455 rfl rfl
set_option maxRecDepth 40000 in
theorem zw408 : (Jvm.Cond.code ({ cls := "TowerFields$Line", name := "plusProduct", desc := "(LTowerFields$Line;LTowerFields$Line;I)V" } : Jvm.MethodName) prog_3_method_9_code (6 : Nat) (Option.none : Option Jvm.ClassFile.FieldType)) ∈ wsG := zG 456 rfl rfl
set_option maxRecDepth 40000 in
theorem zw409 : (Jvm.Cond.methodLink "TowerFields" (133 : Nat) ({ cls := "TowerFields$Poly", name := "plusProduct", desc := "(LTowerFields$Poly;LTowerFields$Poly;I)V" } : Jvm.MethodName)) ∈ wsG := zG 457 rfl rfl
set_option maxRecDepth 40000 in
theorem zw410 : (Jvm.Cond.instanceMethod ({ cls := "TowerFields$Poly", name := "plusProduct", desc := "(LTowerFields$Poly;LTowerFields$Poly;I)V" } : Jvm.MethodName)) ∈ wsG := zG 458 rfl rfl
set_option maxRecDepth 40000 in
theorem zw411 : (Jvm.Cond.selects "TowerFields$Poly" ({ cls := "TowerFields$Poly", name := "plusProduct", desc := "(LTowerFields$Poly;LTowerFields$Poly;I)V" } : Jvm.MethodName) ({ cls := "TowerFields$Poly", name := "plusProduct", desc := "(LTowerFields$Poly;LTowerFields$Poly;I)V" } : Jvm.MethodName)) ∈ wsG := zG 459 rfl rfl
set_option maxRecDepth 40000 in
theorem zw412 : (Jvm.Cond.code ({ cls := "TowerFields$Poly", name := "plusProduct", desc := "(LTowerFields$Poly;LTowerFields$Poly;I)V" } : Jvm.MethodName) prog_4_method_10_code (8 : Nat) (Option.none : Option Jvm.ClassFile.FieldType)) ∈ wsG := zG 460 rfl rfl
set_option maxRecDepth 40000 in
theorem zw413 : (Jvm.Cond.methodLink "TowerFields$Poly" (25 : Nat) ({ cls := "TowerFields$Poly", name := "powerT", desc := "()I" } : Jvm.MethodName)) ∈ wsG := zG 461 rfl rfl
set_option maxRecDepth 40000 in
theorem zw414 : (Jvm.Cond.instanceMethod ({ cls := "TowerFields$Poly", name := "powerT", desc := "()I" } : Jvm.MethodName)) ∈ wsG := zG 462 rfl rfl
set_option maxRecDepth 40000 in
theorem zw415 : (Jvm.Cond.selects "TowerFields$Poly" ({ cls := "TowerFields$Poly", name := "powerT", desc := "()I" } : Jvm.MethodName) ({ cls := "TowerFields$Poly", name := "powerT", desc := "()I" } : Jvm.MethodName)) ∈ wsG := zG 463 rfl rfl
set_option maxRecDepth 40000 in
theorem zw416 : (Jvm.Cond.code ({ cls := "TowerFields$Poly", name := "powerT", desc := "()I" } : Jvm.MethodName) prog_4_method_6_code (2 : Nat) (Option.some Jvm.ClassFile.FieldType.int)) ∈ wsG := zG 464 rfl rfl
set_option maxRecDepth 40000 in
theorem zw417 : (Jvm.Cond.methodLink "TowerFields$Poly" (51 : Nat) ({ cls := "TowerFields$Line", name := "plusProduct", desc := "(LTowerFields$Line;LTowerFields$Line;I)V" } : Jvm.MethodName)) ∈ wsG := zG 465 rfl rfl
set_option maxRecDepth 40000 in
theorem zw418 : (Jvm.Cond.methodLink "TowerFields" (137 : Nat) ({ cls := "TowerFields$Poly", name := "isZero", desc := "()Z" } : Jvm.MethodName)) ∈ wsG := zG 466 rfl rfl
set_option maxRecDepth 40000 in
theorem zw419 : (Jvm.Cond.instanceMethod ({ cls := "TowerFields$Poly", name := "isZero", desc := "()Z" } : Jvm.MethodName)) ∈ wsG := zG 467 rfl rfl
set_option maxRecDepth 40000 in
theorem zw420 : (Jvm.Cond.selects "TowerFields$Poly" ({ cls := "TowerFields$Poly", name := "isZero", desc := "()Z" } : Jvm.MethodName) ({ cls := "TowerFields$Poly", name := "isZero", desc := "()Z" } : Jvm.MethodName)) ∈ wsG := zG 468 rfl rfl
set_option maxRecDepth 40000 in
theorem zw421 : (Jvm.Cond.code ({ cls := "TowerFields$Poly", name := "isZero", desc := "()Z" } : Jvm.MethodName) prog_4_method_5_code (1 : Nat) (Option.some Jvm.ClassFile.FieldType.boolean)) ∈ wsG := zG 469 rfl rfl
set_option maxRecDepth 40000 in
theorem zw423 : (Jvm.Cond.methodLink "TowerFields" (115 : Nat) ({ cls := "TowerFields", name := "setSlope", desc := "(I)V" } : Jvm.MethodName)) ∈ wsG := zG 471 rfl rfl
set_option maxRecDepth 40000 in
theorem zw425 : (Jvm.Cond.instanceMethod ({ cls := "TowerFields", name := "setSlope", desc := "(I)V" } : Jvm.MethodName)) ∈ wsG := zG 473 rfl rfl
set_option maxRecDepth 40000 in
theorem zw426 : (Jvm.Cond.code ({ cls := "TowerFields", name := "setSlope", desc := "(I)V" } : Jvm.MethodName) prog_1_method_35_code (2 : Nat) (Option.none : Option Jvm.ClassFile.FieldType)) ∈ wsG := zG 474 rfl rfl
set_option maxRecDepth 40000 in
theorem zw427 : (Jvm.Cond.methodLink "TowerFields" (166 : Nat) ({ cls := "TowerFields$Divisor", name := "find", desc := "(LTowerFields$Poly;LTowerFields$Poly;)V" } : Jvm.MethodName)) ∈ wsG := zG 475 rfl rfl
set_option maxRecDepth 40000 in
theorem zw428 : (Jvm.Cond.instanceMethod ({ cls := "TowerFields$Divisor", name := "find", desc := "(LTowerFields$Poly;LTowerFields$Poly;)V" } : Jvm.MethodName)) ∈ wsG := zG 476 rfl rfl
set_option maxRecDepth 40000 in
theorem zw429 : (Jvm.Cond.selects "TowerFields$Divisor" ({ cls := "TowerFields$Divisor", name := "find", desc := "(LTowerFields$Poly;LTowerFields$Poly;)V" } : Jvm.MethodName) ({ cls := "TowerFields$Divisor", name := "find", desc := "(LTowerFields$Poly;LTowerFields$Poly;)V" } : Jvm.MethodName)) ∈ wsG := zG 477 rfl rfl
set_option maxRecDepth 40000 in
theorem zw430 : (Jvm.Cond.code ({ cls := "TowerFields$Divisor", name := "find", desc := "(LTowerFields$Poly;LTowerFields$Poly;)V" } : Jvm.MethodName) prog_2_method_2_code (9 : Nat) (Option.none : Option Jvm.ClassFile.FieldType)) ∈ wsG := zG 478 rfl rfl
set_option maxRecDepth 40000 in
theorem zw431 : (Jvm.Cond.methodLink "TowerFields$Divisor" (64 : Nat) ({ cls := "TowerFields$Poly", name := "isZero", desc := "()Z" } : Jvm.MethodName)) ∈ wsG := zG 479 rfl rfl
set_option maxRecDepth 40000 in
theorem zw432 : (Jvm.Cond.methodLink "TowerFields$Divisor" (68 : Nat) ({ cls := "TowerFields$Poly", name := "copyOf", desc := "(LTowerFields$Poly;)V" } : Jvm.MethodName)) ∈ wsG := zG 480 rfl rfl
set_option maxRecDepth 40000 in
theorem zw433 : (Jvm.Cond.instanceMethod ({ cls := "TowerFields$Poly", name := "copyOf", desc := "(LTowerFields$Poly;)V" } : Jvm.MethodName)) ∈ wsG := zG 481 rfl rfl
set_option maxRecDepth 40000 in
theorem zw434 : (Jvm.Cond.selects "TowerFields$Poly" ({ cls := "TowerFields$Poly", name := "copyOf", desc := "(LTowerFields$Poly;)V" } : Jvm.MethodName) ({ cls := "TowerFields$Poly", name := "copyOf", desc := "(LTowerFields$Poly;)V" } : Jvm.MethodName)) ∈ wsG := zG 482 rfl rfl
set_option maxRecDepth 40000 in
theorem zw435 : (Jvm.Cond.code ({ cls := "TowerFields$Poly", name := "copyOf", desc := "(LTowerFields$Poly;)V" } : Jvm.MethodName) prog_4_method_4_code (3 : Nat) (Option.none : Option Jvm.ClassFile.FieldType)) ∈ wsG := zG 483 rfl rfl
set_option maxRecDepth 40000 in
theorem zw436 : (Jvm.Cond.methodLink "TowerFields$Poly" (21 : Nat) ({ cls := "TowerFields$Line", name := "copyOf", desc := "(LTowerFields$Line;)V" } : Jvm.MethodName)) ∈ wsG := zG 484 rfl rfl
set_option maxRecDepth 40000 in
theorem zw437 : (Jvm.Cond.instanceMethod ({ cls := "TowerFields$Line", name := "copyOf", desc := "(LTowerFields$Line;)V" } : Jvm.MethodName)) ∈ wsG := zG 485 rfl rfl
set_option maxRecDepth 40000 in
theorem zw438 : (Jvm.Cond.selects "TowerFields$Line" ({ cls := "TowerFields$Line", name := "copyOf", desc := "(LTowerFields$Line;)V" } : Jvm.MethodName) ({ cls := "TowerFields$Line", name := "copyOf", desc := "(LTowerFields$Line;)V" } : Jvm.MethodName)) ∈ wsG := zG 486 rfl rfl
set_option maxRecDepth 40000 in
theorem zw439 : (Jvm.Cond.code ({ cls := "TowerFields$Line", name := "copyOf", desc := "(LTowerFields$Line;)V" } : Jvm.MethodName) prog_3_method_5_code (4 : Nat) (Option.none : Option Jvm.ClassFile.FieldType)) ∈ wsG := zG 487 rfl rfl
set_option maxRecDepth 40000 in
theorem zw440 : (Jvm.Cond.methodLink "TowerFields$Divisor" (72 : Nat) ({ cls := "TowerFields$Poly", name := "head", desc := "()I" } : Jvm.MethodName)) ∈ wsG := zG 488 rfl rfl
set_option maxRecDepth 40000 in
theorem zw441 : (Jvm.Cond.instanceMethod ({ cls := "TowerFields$Poly", name := "head", desc := "()I" } : Jvm.MethodName)) ∈ wsG := zG 489 rfl rfl
set_option maxRecDepth 40000 in
theorem zw442 : (Jvm.Cond.selects "TowerFields$Poly" ({ cls := "TowerFields$Poly", name := "head", desc := "()I" } : Jvm.MethodName) ({ cls := "TowerFields$Poly", name := "head", desc := "()I" } : Jvm.MethodName)) ∈ wsG := zG 490 rfl rfl
set_option maxRecDepth 40000 in
theorem zw443 : (Jvm.Cond.code ({ cls := "TowerFields$Poly", name := "head", desc := "()I" } : Jvm.MethodName) prog_4_method_8_code (2 : Nat) (Option.some Jvm.ClassFile.FieldType.int)) ∈ wsG := zG 491 rfl rfl
set_option maxRecDepth 40000 in
theorem zw444 : (Jvm.Cond.methodLink "TowerFields$Poly" (39 : Nat) ({ cls := "TowerFields$Poly", name := "row", desc := "(I)LTowerFields$Line;" } : Jvm.MethodName)) ∈ wsG := zG 492 rfl rfl
set_option maxRecDepth 40000 in
theorem zw445 : (Jvm.Cond.methodLink "TowerFields$Poly" (43 : Nat) ({ cls := "TowerFields$Line", name := "get", desc := "(I)I" } : Jvm.MethodName)) ∈ wsG := zG 493 rfl rfl
set_option maxRecDepth 40000 in
theorem zw447 : (Jvm.Cond.methodLink "TowerFields$Divisor" (80 : Nat) ({ cls := "TowerFields$Poly", name := "scale", desc := "(I)V" } : Jvm.MethodName)) ∈ wsG := zG 495 rfl rfl
set_option maxRecDepth 40000 in
theorem zw448 : (Jvm.Cond.instanceMethod ({ cls := "TowerFields$Poly", name := "scale", desc := "(I)V" } : Jvm.MethodName)) ∈ wsG := zG 496 rfl rfl
set_option maxRecDepth 40000 in
theorem zw449 : (Jvm.Cond.selects "TowerFields$Poly" ({ cls := "TowerFields$Poly", name := "scale", desc := "(I)V" } : Jvm.MethodName) ({ cls := "TowerFields$Poly", name := "scale", desc := "(I)V" } : Jvm.MethodName)) ∈ wsG := zG 497 rfl rfl
set_option maxRecDepth 40000 in
theorem zw450 : (Jvm.Cond.code ({ cls := "TowerFields$Poly", name := "scale", desc := "(I)V" } : Jvm.MethodName) prog_4_method_9_code (3 : Nat) (Option.none : Option Jvm.ClassFile.FieldType)) ∈ wsG := zG 498 rfl rfl
set_option maxRecDepth 40000 in
theorem zw451 : (Jvm.Cond.methodLink "TowerFields$Poly" (47 : Nat) ({ cls := "TowerFields$Line", name := "scale", desc := "(I)V" } : Jvm.MethodName)) ∈ wsG := zG 499 rfl rfl
set_option maxRecDepth 40000 in
theorem zw452 : (Jvm.Cond.instanceMethod ({ cls := "TowerFields$Line", name := "scale", desc := "(I)V" } : Jvm.MethodName)) ∈ wsG := zG 500 rfl rfl
set_option maxRecDepth 40000 in
theorem zw453 : (Jvm.Cond.selects "TowerFields$Line" ({ cls := "TowerFields$Line", name := "scale", desc := "(I)V" } : Jvm.MethodName) ({ cls := "TowerFields$Line", name := "scale", desc := "(I)V" } : Jvm.MethodName)) ∈ wsG := zG 501 rfl rfl
set_option maxRecDepth 40000 in
theorem zw454 : (Jvm.Cond.code ({ cls := "TowerFields$Line", name := "scale", desc := "(I)V" } : Jvm.MethodName) prog_3_method_7_code (3 : Nat) (Option.none : Option Jvm.ClassFile.FieldType)) ∈ wsG := zG 502 rfl rfl
set_option maxRecDepth 40000 in
theorem zw455 : (Jvm.Cond.methodLink "TowerFields$Line" (23 : Nat) ({ cls := "TowerFields$Line", name := "put", desc := "(II)V" } : Jvm.MethodName)) ∈ wsG := zG 503 rfl rfl
set_option maxRecDepth 40000 in
theorem zw456 : (Jvm.Cond.methodLink "TowerFields$Divisor" (84 : Nat) ({ cls := "TowerFields$Divisor", name := "divideBoth", desc := "(LTowerFields$Poly;LTowerFields$Poly;)Z" } : Jvm.MethodName)) ∈ wsG := zG 504 rfl rfl
set_option maxRecDepth 40000 in
theorem zw458 : (Jvm.Cond.instanceMethod ({ cls := "TowerFields$Divisor", name := "divideBoth", desc := "(LTowerFields$Poly;LTowerFields$Poly;)Z" } : Jvm.MethodName)) ∈ wsG := zG 506 rfl rfl
set_option maxRecDepth 40000 in
theorem zw459 : (Jvm.Cond.code ({ cls := "TowerFields$Divisor", name := "divideBoth", desc := "(LTowerFields$Poly;LTowerFields$Poly;)Z" } : Jvm.MethodName) prog_2_method_10_code (3 : Nat) (Option.some Jvm.ClassFile.FieldType.boolean)) ∈ wsG := zG 507 rfl rfl
set_option maxRecDepth 40000 in
theorem zw460 : (Jvm.Cond.methodLink "TowerFields$Divisor" (170 : Nat) ({ cls := "TowerFields$Divisor", name := "divide", desc := "(LTowerFields$Poly;LTowerFields$Poly;)Z" } : Jvm.MethodName)) ∈ wsG := zG 508 rfl rfl
set_option maxRecDepth 40000 in
theorem zw462 : (Jvm.Cond.instanceMethod ({ cls := "TowerFields$Divisor", name := "divide", desc := "(LTowerFields$Poly;LTowerFields$Poly;)Z" } : Jvm.MethodName)) ∈ wsG := zG 510 rfl rfl
set_option maxRecDepth 40000 in
theorem zw463 : (Jvm.Cond.code ({ cls := "TowerFields$Divisor", name := "divide", desc := "(LTowerFields$Poly;LTowerFields$Poly;)Z" } : Jvm.MethodName) prog_2_method_11_code (7 : Nat) (Option.some Jvm.ClassFile.FieldType.boolean)) ∈ wsG := zG 511 rfl rfl
set_option maxRecDepth 40000 in
theorem zw464 : (Jvm.Cond.methodLink "TowerFields$Divisor" (112 : Nat) ({ cls := "TowerFields$Poly", name := "clear", desc := "()V" } : Jvm.MethodName)) ∈ wsG := zG 512 rfl rfl
set_option maxRecDepth 40000 in
theorem zw465 : (Jvm.Cond.methodLink "TowerFields$Divisor" (105 : Nat) ({ cls := "TowerFields$Poly", name := "powerT", desc := "()I" } : Jvm.MethodName)) ∈ wsG := zG 513 rfl rfl
set_option maxRecDepth 40000 in
theorem zw466 : (Jvm.Cond.methodLink "TowerFields$Divisor" (92 : Nat) ({ cls := "TowerFields$Poly", name := "powerX", desc := "()I" } : Jvm.MethodName)) ∈ wsG := zG 514 rfl rfl
set_option maxRecDepth 40000 in
theorem zw467 : (Jvm.Cond.instanceMethod ({ cls := "TowerFields$Poly", name := "powerX", desc := "()I" } : Jvm.MethodName)) ∈ wsG := zG 515 rfl rfl
set_option maxRecDepth 40000 in
theorem zw468 : (Jvm.Cond.selects "TowerFields$Poly" ({ cls := "TowerFields$Poly", name := "powerX", desc := "()I" } : Jvm.MethodName) ({ cls := "TowerFields$Poly", name := "powerX", desc := "()I" } : Jvm.MethodName)) ∈ wsG := zG 516 rfl rfl
set_option maxRecDepth 40000 in
theorem zw469 : (Jvm.Cond.code ({ cls := "TowerFields$Poly", name := "powerX", desc := "()I" } : Jvm.MethodName) prog_4_method_7_code (3 : Nat) (Option.some Jvm.ClassFile.FieldType.int)) ∈ wsG := zG 517 rfl rfl
set_option maxRecDepth 40000 in
theorem zw470 : (Jvm.Cond.methodLink "TowerFields$Poly" (33 : Nat) ({ cls := "java/lang/Math", name := "max", desc := "(II)I" } : Jvm.MethodName)) ∈ wsG := zG 518 rfl rfl
set_option maxRecDepth 40000 in
theorem zw471 : (Jvm.Cond.static ({ cls := "java/lang/Math", name := "max", desc := "(II)I" } : Jvm.MethodName)) ∈ wsG := zG 519 rfl rfl
set_option maxRecDepth 40000 in
theorem zw472 : (Jvm.Cond.code ({ cls := "java/lang/Math", name := "max", desc := "(II)I" } : Jvm.MethodName) prog_13_method_65_code (2 : Nat) (Option.some Jvm.ClassFile.FieldType.int)) ∈ wsG := zG 520 rfl rfl
set_option maxRecDepth 40000 in
theorem zw473 : (Jvm.Cond.methodLink "TowerFields$Divisor" (127 : Nat) ({ cls := "TowerFields$Poly", name := "row", desc := "(I)LTowerFields$Line;" } : Jvm.MethodName)) ∈ wsG := zG 521 rfl rfl
set_option maxRecDepth 40000 in
theorem zw474 : (Jvm.Cond.methodLink "TowerFields$Divisor" (146 : Nat) ({ cls := "TowerFields$Line", name := "divideBy", desc := "(LTowerFields$Line;LTowerFields$Line;)V" } : Jvm.MethodName)) ∈ wsG := zG 522 rfl rfl
set_option maxRecDepth 40000 in
theorem zw475 : (Jvm.Cond.instanceMethod ({ cls := "TowerFields$Line", name := "divideBy", desc := "(LTowerFields$Line;LTowerFields$Line;)V" } : Jvm.MethodName)) ∈ wsG := zG 523 rfl rfl
set_option maxRecDepth 40000 in
theorem zw476 : (Jvm.Cond.selects "TowerFields$Line" ({ cls := "TowerFields$Line", name := "divideBy", desc := "(LTowerFields$Line;LTowerFields$Line;)V" } : Jvm.MethodName) ({ cls := "TowerFields$Line", name := "divideBy", desc := "(LTowerFields$Line;LTowerFields$Line;)V" } : Jvm.MethodName)) ∈ wsG := zG 524 rfl rfl
set_option maxRecDepth 40000 in
theorem zw477 : (Jvm.Cond.code ({ cls := "TowerFields$Line", name := "divideBy", desc := "(LTowerFields$Line;LTowerFields$Line;)V" } : Jvm.MethodName) prog_3_method_12_code (6 : Nat) (Option.none : Option Jvm.ClassFile.FieldType)) ∈ wsG := zG 525 rfl rfl
set_option maxRecDepth 40000 in
theorem zw478 : (Jvm.Cond.methodLink "TowerFields$Line" (31 : Nat) ({ cls := "TowerFields$Line", name := "clear", desc := "()V" } : Jvm.MethodName)) ∈ wsG := zG 526 rfl rfl
set_option maxRecDepth 40000 in
theorem zw480 : (Jvm.Cond.methodLink "TowerFields$Divisor" (131 : Nat) ({ cls := "TowerFields$Line", name := "copyOf", desc := "(LTowerFields$Line;)V" } : Jvm.MethodName)) ∈ wsG := zG 528 rfl rfl
set_option maxRecDepth 40000 in
theorem zw481 : (Jvm.Cond.methodLink "TowerFields$Divisor" (166 : Nat) ({ cls := "TowerFields$Line", name := "plusProduct", desc := "(LTowerFields$Line;LTowerFields$Line;I)V" } : Jvm.MethodName)) ∈ wsG := zG 529 rfl rfl
set_option maxRecDepth 40000 in
theorem zw482 : (Jvm.Cond.methodLink "TowerFields$Divisor" (88 : Nat) ({ cls := "TowerFields$Divisor", name := "findContents", desc := "(LTowerFields$Poly;LTowerFields$Poly;)V" } : Jvm.MethodName)) ∈ wsG := zG 530 rfl rfl
set_option maxRecDepth 40000 in
theorem zw484 : (Jvm.Cond.instanceMethod ({ cls := "TowerFields$Divisor", name := "findContents", desc := "(LTowerFields$Poly;LTowerFields$Poly;)V" } : Jvm.MethodName)) ∈ wsG := zG 532 rfl rfl
set_option maxRecDepth 40000 in
theorem zw485 : (Jvm.Cond.code ({ cls := "TowerFields$Divisor", name := "findContents", desc := "(LTowerFields$Poly;LTowerFields$Poly;)V" } : Jvm.MethodName) prog_2_method_3_code (3 : Nat) (Option.none : Option Jvm.ClassFile.FieldType)) ∈ wsG := zG 533 rfl rfl
set_option maxRecDepth 40000 in
theorem zw486 : (Jvm.Cond.methodLink "TowerFields$Divisor" (134 : Nat) ({ cls := "TowerFields$Divisor", name := "contentOf", desc := "(LTowerFields$Poly;LTowerFields$Line;)V" } : Jvm.MethodName)) ∈ wsG := zG 534 rfl rfl
set_option maxRecDepth 40000 in
theorem zw488 : (Jvm.Cond.instanceMethod ({ cls := "TowerFields$Divisor", name := "contentOf", desc := "(LTowerFields$Poly;LTowerFields$Line;)V" } : Jvm.MethodName)) ∈ wsG := zG 536 rfl rfl
set_option maxRecDepth 40000 in
theorem zw489 : (Jvm.Cond.code ({ cls := "TowerFields$Divisor", name := "contentOf", desc := "(LTowerFields$Poly;LTowerFields$Line;)V" } : Jvm.MethodName) prog_2_method_4_code (4 : Nat) (Option.none : Option Jvm.ClassFile.FieldType)) ∈ wsG := zG 537 rfl rfl
set_option maxRecDepth 40000 in
theorem zw490 : (Jvm.Cond.methodLink "TowerFields$Divisor" (115 : Nat) ({ cls := "TowerFields$Line", name := "clear", desc := "()V" } : Jvm.MethodName)) ∈ wsG := zG 538 rfl rfl
set_option maxRecDepth 40000 in
theorem zw491 : (Jvm.Cond.methodLink "TowerFields$Divisor" (142 : Nat) ({ cls := "TowerFields$Line", name := "meet", desc := "(LTowerFields$Line;LTowerFields$Line;)V" } : Jvm.MethodName)) ∈ wsG := zG 539 rfl rfl
set_option maxRecDepth 40000 in
theorem zw492 : (Jvm.Cond.instanceMethod ({ cls := "TowerFields$Line", name := "meet", desc := "(LTowerFields$Line;LTowerFields$Line;)V" } : Jvm.MethodName)) ∈ wsG := zG 540 rfl rfl
set_option maxRecDepth 40000 in
theorem zw493 : (Jvm.Cond.selects "TowerFields$Line" ({ cls := "TowerFields$Line", name := "meet", desc := "(LTowerFields$Line;LTowerFields$Line;)V" } : Jvm.MethodName) ({ cls := "TowerFields$Line", name := "meet", desc := "(LTowerFields$Line;LTowerFields$Line;)V" } : Jvm.MethodName)) ∈ wsG := zG 541 rfl rfl
set_option maxRecDepth 40000 in
theorem zw494 : (Jvm.Cond.code ({ cls := "TowerFields$Line", name := "meet", desc := "(LTowerFields$Line;LTowerFields$Line;)V" } : Jvm.MethodName) prog_3_method_13_code (4 : Nat) (Option.none : Option Jvm.ClassFile.FieldType)) ∈ wsG := zG 542 rfl rfl
set_option maxRecDepth 40000 in
theorem zw495 : (Jvm.Cond.methodLink "TowerFields$Line" (37 : Nat) ({ cls := "TowerFields$Line", name := "divideBy", desc := "(LTowerFields$Line;LTowerFields$Line;)V" } : Jvm.MethodName)) ∈ wsG := zG 543 rfl rfl
set_option maxRecDepth 40000 in
theorem zw496 : (Jvm.Cond.methodLink "TowerFields$Line" (41 : Nat) ({ cls := "TowerFields$Line", name := "exchange", desc := "(LTowerFields$Line;)V" } : Jvm.MethodName)) ∈ wsG := zG 544 rfl rfl
set_option maxRecDepth 40000 in
theorem zw498 : (Jvm.Cond.instanceMethod ({ cls := "TowerFields$Line", name := "exchange", desc := "(LTowerFields$Line;)V" } : Jvm.MethodName)) ∈ wsG := zG 546 rfl rfl
set_option maxRecDepth 40000 in
theorem zw499 : (Jvm.Cond.code ({ cls := "TowerFields$Line", name := "exchange", desc := "(LTowerFields$Line;)V" } : Jvm.MethodName) prog_3_method_14_code (4 : Nat) (Option.none : Option Jvm.ClassFile.FieldType)) ∈ wsG := zG 547 rfl rfl
set_option maxRecDepth 40000 in
theorem zw500 : (Jvm.Cond.methodLink "TowerFields$Line" (45 : Nat) ({ cls := "TowerFields$Line", name := "scale", desc := "(I)V" } : Jvm.MethodName)) ∈ wsG := zG 548 rfl rfl
set_option maxRecDepth 40000 in
theorem zw501 : (Jvm.Cond.methodLink "TowerFields$Divisor" (138 : Nat) ({ cls := "TowerFields$Divisor", name := "leadOf", desc := "(LTowerFields$Poly;LTowerFields$Line;LTowerFields$Line;)V" } : Jvm.MethodName)) ∈ wsG := zG 549 rfl rfl
set_option maxRecDepth 40000 in
theorem zw503 : (Jvm.Cond.instanceMethod ({ cls := "TowerFields$Divisor", name := "leadOf", desc := "(LTowerFields$Poly;LTowerFields$Line;LTowerFields$Line;)V" } : Jvm.MethodName)) ∈ wsG := zG 551 rfl rfl
set_option maxRecDepth 40000 in
theorem zw504 : (Jvm.Cond.code ({ cls := "TowerFields$Divisor", name := "leadOf", desc := "(LTowerFields$Poly;LTowerFields$Line;LTowerFields$Line;)V" } : Jvm.MethodName) prog_2_method_5_code (4 : Nat) (Option.none : Option Jvm.ClassFile.FieldType)) ∈ wsG := zG 552 rfl rfl
set_option maxRecDepth 40000 in
theorem zw505 : (Jvm.Cond.methodLink "TowerFields$Divisor" (99 : Nat) ({ cls := "java/lang/Math", name := "min", desc := "(II)I" } : Jvm.MethodName)) ∈ wsG := zG 553 rfl rfl
set_option maxRecDepth 40000 in
theorem zw506 : (Jvm.Cond.static ({ cls := "java/lang/Math", name := "min", desc := "(II)I" } : Jvm.MethodName)) ∈ wsG := zG 554 rfl rfl
set_option maxRecDepth 40000 in
theorem zw507 : (Jvm.Cond.code ({ cls := "java/lang/Math", name := "min", desc := "(II)I" } : Jvm.MethodName) prog_13_method_69_code (2 : Nat) (Option.some Jvm.ClassFile.FieldType.int)) ∈ wsG := zG 555 rfl rfl
set_option maxRecDepth 40000 in
theorem zw508 : (Jvm.Cond.methodLink "TowerFields$Divisor" (108 : Nat) ({ cls := "TowerFields$Divisor", name := "findImage", desc := "(LTowerFields$Poly;LTowerFields$Poly;I)Z" } : Jvm.MethodName)) ∈ wsG := zG 556 rfl rfl
set_option maxRecDepth 40000 in
theorem zw510 : (Jvm.Cond.instanceMethod ({ cls := "TowerFields$Divisor", name := "findImage", desc := "(LTowerFields$Poly;LTowerFields$Poly;I)Z" } : Jvm.MethodName)) ∈ wsG := zG 558 rfl rfl
set_option maxRecDepth 40000 in
theorem zw511 : (Jvm.Cond.code ({ cls := "TowerFields$Divisor", name := "findImage", desc := "(LTowerFields$Poly;LTowerFields$Poly;I)Z" } : Jvm.MethodName) prog_2_method_6_code (4 : Nat) (Option.some Jvm.ClassFile.FieldType.boolean)) ∈ wsG := zG 559 rfl rfl
set_option maxRecDepth 40000 in
theorem zw512 : (Jvm.Cond.methodLink "TowerFields$Divisor" (149 : Nat) ({ cls := "TowerFields$Divisor", name := "imageOf", desc := "(LTowerFields$Poly;ILTowerFields$Line;)V" } : Jvm.MethodName)) ∈ wsG := zG 560 rfl rfl
set_option maxRecDepth 40000 in
theorem zw513 : (Jvm.Cond.static ({ cls := "TowerFields$Divisor", name := "imageOf", desc := "(LTowerFields$Poly;ILTowerFields$Line;)V" } : Jvm.MethodName)) ∈ wsG := zG 561 rfl rfl
set_option maxRecDepth 40000 in
theorem zw514 : (Jvm.Cond.code ({ cls := "TowerFields$Divisor", name := "imageOf", desc := "(LTowerFields$Poly;ILTowerFields$Line;)V" } : Jvm.MethodName) prog_2_method_7_code (4 : Nat) (Option.none : Option Jvm.ClassFile.FieldType)) ∈ wsG := zG 562 rfl rfl
set_option maxRecDepth 40000 in
theorem zw515 : (Jvm.Cond.methodLink "TowerFields$Divisor" (153 : Nat) ({ cls := "TowerFields$Line", name := "valueAt", desc := "(I)I" } : Jvm.MethodName)) ∈ wsG := zG 563 rfl rfl
set_option maxRecDepth 40000 in
theorem zw516 : (Jvm.Cond.instanceMethod ({ cls := "TowerFields$Line", name := "valueAt", desc := "(I)I" } : Jvm.MethodName)) ∈ wsG := zG 564 rfl rfl
set_option maxRecDepth 40000 in
theorem zw517 : (Jvm.Cond.selects "TowerFields$Line" ({ cls := "TowerFields$Line", name := "valueAt", desc := "(I)I" } : Jvm.MethodName) ({ cls := "TowerFields$Line", name := "valueAt", desc := "(I)I" } : Jvm.MethodName)) ∈ wsG := zG 565 rfl rfl
set_option maxRecDepth 40000 in
theorem zw518 : (Jvm.Cond.code ({ cls := "TowerFields$Line", name := "valueAt", desc := "(I)I" } : Jvm.MethodName) prog_3_method_6_code (4 : Nat) (Option.some Jvm.ClassFile.FieldType.int)) ∈ wsG := zG 566 rfl rfl
set_option maxRecDepth 40000 in
theorem zw519 : (Jvm.Cond.methodLink "TowerFields$Divisor" (116 : Nat) ({ cls := "TowerFields$Line", name := "put", desc := "(II)V" } : Jvm.MethodName)) ∈ wsG := zG 567 rfl rfl
set_option maxRecDepth 40000 in
theorem zw520 : (Jvm.Cond.methodLink "TowerFields$Divisor" (120 : Nat) ({ cls := "TowerFields$Divisor", name := "takeIn", desc := "(I)Z" } : Jvm.MethodName)) ∈ wsG := zG 568 rfl rfl
set_option maxRecDepth 40000 in
theorem zw522 : (Jvm.Cond.instanceMethod ({ cls := "TowerFields$Divisor", name := "takeIn", desc := "(I)Z" } : Jvm.MethodName)) ∈ wsG := zG 570 rfl rfl
set_option maxRecDepth 40000 in
theorem zw523 : (Jvm.Cond.code ({ cls := "TowerFields$Divisor", name := "takeIn", desc := "(I)Z" } : Jvm.MethodName) prog_2_method_8_code (8 : Nat) (Option.some Jvm.ClassFile.FieldType.boolean)) ∈ wsG := zG 571 rfl rfl
set_option maxRecDepth 40000 in
theorem zw524 : (Jvm.Cond.methodLink "TowerFields$Divisor" (156 : Nat) ({ cls := "TowerFields$Line", name := "get", desc := "(I)I" } : Jvm.MethodName)) ∈ wsG := zG 572 rfl rfl
set_option maxRecDepth 40000 in
theorem zw525 : (Jvm.Cond.methodLink "TowerFields$Divisor" (159 : Nat) ({ cls := "TowerFields$Line", name := "plusShifted", desc := "(LTowerFields$Line;II)V" } : Jvm.MethodName)) ∈ wsG := zG 573 rfl rfl
set_option maxRecDepth 40000 in
theorem zw526 : (Jvm.Cond.methodLink "TowerFields$Divisor" (163 : Nat) ({ cls := "TowerFields$Line", name := "timesRoot", desc := "(I)V" } : Jvm.MethodName)) ∈ wsG := zG 574 rfl rfl
set_option maxRecDepth 40000 in
theorem zw527 : (Jvm.Cond.instanceMethod ({ cls := "TowerFields$Line", name := "timesRoot", desc := "(I)V" } : Jvm.MethodName)) ∈ wsG := zG 575 rfl rfl
set_option maxRecDepth 40000 in
theorem zw528 : (Jvm.Cond.selects "TowerFields$Line" ({ cls := "TowerFields$Line", name := "timesRoot", desc := "(I)V" } : Jvm.MethodName) ({ cls := "TowerFields$Line", name := "timesRoot", desc := "(I)V" } : Jvm.MethodName)) ∈ wsG := zG 576 rfl rfl
set_option maxRecDepth 40000 in
theorem zw529 : (Jvm.Cond.code ({ cls := "TowerFields$Line", name := "timesRoot", desc := "(I)V" } : Jvm.MethodName) prog_3_method_11_code (3 : Nat) (Option.none : Option Jvm.ClassFile.FieldType)) ∈ wsG := zG 577 rfl rfl
set_option maxRecDepth 40000 in
theorem zw530 : (Jvm.Cond.methodLink "TowerFields$Divisor" (124 : Nat) ({ cls := "TowerFields$Divisor", name := "tryPieced", desc := "(LTowerFields$Poly;LTowerFields$Poly;)Z" } : Jvm.MethodName)) ∈ wsG := zG 578 rfl rfl
set_option maxRecDepth 40000 in
theorem zw532 : (Jvm.Cond.instanceMethod ({ cls := "TowerFields$Divisor", name := "tryPieced", desc := "(LTowerFields$Poly;LTowerFields$Poly;)Z" } : Jvm.MethodName)) ∈ wsG := zG 580 rfl rfl
set_option maxRecDepth 40000 in
theorem zw533 : (Jvm.Cond.code ({ cls := "TowerFields$Divisor", name := "tryPieced", desc := "(LTowerFields$Poly;LTowerFields$Poly;)Z" } : Jvm.MethodName) prog_2_method_9_code (5 : Nat) (Option.some Jvm.ClassFile.FieldType.boolean)) ∈ wsG := zG 581 rfl rfl
set_option maxRecDepth 40000 in
theorem zw534 : (Jvm.Cond.methodLink "TowerFields" (233 : Nat) ({ cls := "TowerFields$Line", name := "copyOf", desc := "(LTowerFields$Line;)V" } : Jvm.MethodName)) ∈ wsG := zG 582 rfl rfl
set_option maxRecDepth 40000 in
theorem zw535 : (Jvm.Cond.methodLink "TowerFieldsLaw" (95 : Nat) ({ cls := "TowerFieldsLaw", name := "top", desc := "(LTowerFields;[J)I" } : Jvm.MethodName)) ∈ wsG := zG 583 rfl rfl
set_option maxRecDepth 40000 in
theorem zw536 : (Jvm.Cond.static ({ cls := "TowerFieldsLaw", name := "top", desc := "(LTowerFields;[J)I" } : Jvm.MethodName)) ∈ wsG := zG 584 rfl rfl
set_option maxRecDepth 40000 in
theorem zw538 : (Jvm.Cond.methodLink "TowerFieldsLaw" (29 : Nat) ({ cls := "TowerFields", name := "top", desc := "()I" } : Jvm.MethodName)) ∈ wsG := zG 586 rfl rfl
set_option maxRecDepth 40000 in
theorem zw539 : (Jvm.Cond.instanceMethod ({ cls := "TowerFields", name := "top", desc := "()I" } : Jvm.MethodName)) ∈ wsG := zG 587 rfl rfl
set_option maxRecDepth 40000 in
theorem zw540 : (Jvm.Cond.selects "TowerFields" ({ cls := "TowerFields", name := "top", desc := "()I" } : Jvm.MethodName) ({ cls := "TowerFields", name := "top", desc := "()I" } : Jvm.MethodName)) ∈ wsG := zG 588 rfl rfl
set_option maxRecDepth 40000 in
theorem zw541 : (Jvm.Cond.code ({ cls := "TowerFields", name := "top", desc := "()I" } : Jvm.MethodName) prog_1_method_5_code (1 : Nat) (Option.some Jvm.ClassFile.FieldType.int)) ∈ wsG := zG 589 rfl rfl
set_option maxRecDepth 40000 in
theorem zw543 : (Jvm.Cond.methodLink "TowerFieldsLaw" (98 : Nat) ({ cls := "TowerFieldsLaw", name := "add", desc := "(LTowerFields;II[J)I" } : Jvm.MethodName)) ∈ wsG := zG 591 rfl rfl
set_option maxRecDepth 40000 in
theorem zw544 : (Jvm.Cond.static ({ cls := "TowerFieldsLaw", name := "add", desc := "(LTowerFields;II[J)I" } : Jvm.MethodName)) ∈ wsG := zG 592 rfl rfl
set_option maxRecDepth 40000 in
theorem zw546 : (Jvm.Cond.methodLink "TowerFieldsLaw" (32 : Nat) ({ cls := "TowerFields", name := "add", desc := "(II)I" } : Jvm.MethodName)) ∈ wsG := zG 594 rfl rfl
set_option maxRecDepth 40000 in
theorem zw547 : (Jvm.Cond.instanceMethod ({ cls := "TowerFields", name := "add", desc := "(II)I" } : Jvm.MethodName)) ∈ wsG := zG 595 rfl rfl
set_option maxRecDepth 40000 in
theorem zw548 : (Jvm.Cond.selects "TowerFields" ({ cls := "TowerFields", name := "add", desc := "(II)I" } : Jvm.MethodName) ({ cls := "TowerFields", name := "add", desc := "(II)I" } : Jvm.MethodName)) ∈ wsG := zG 596 rfl rfl
set_option maxRecDepth 40000 in
theorem zw549 : (Jvm.Cond.code ({ cls := "TowerFields", name := "add", desc := "(II)I" } : Jvm.MethodName) prog_1_method_6_code (3 : Nat) (Option.some Jvm.ClassFile.FieldType.int)) ∈ wsG := zG 597 rfl rfl
set_option maxRecDepth 40000 in
theorem zw550 : (Jvm.Cond.methodLink "TowerFields" (120 : Nat) ({ cls := "TowerFields", name := "takeTwo", desc := "(II)V" } : Jvm.MethodName)) ∈ wsG := zG 598 rfl rfl
set_option maxRecDepth 40000 in
theorem zw552 : (Jvm.Cond.instanceMethod ({ cls := "TowerFields", name := "takeTwo", desc := "(II)V" } : Jvm.MethodName)) ∈ wsG := zG 600 rfl rfl
set_option maxRecDepth 40000 in
theorem zw553 : (Jvm.Cond.code ({ cls := "TowerFields", name := "takeTwo", desc := "(II)V" } : Jvm.MethodName) prog_1_method_25_code (3 : Nat) (Option.none : Option Jvm.ClassFile.FieldType)) ∈ wsG := zG 601 rfl rfl
set_option maxRecDepth 40000 in
theorem zw554 : (Jvm.Cond.methodLink "TowerFields" (123 : Nat) ({ cls := "TowerFields", name := "sumUp", desc := "(I)V" } : Jvm.MethodName)) ∈ wsG := zG 602 rfl rfl
set_option maxRecDepth 40000 in
theorem zw556 : (Jvm.Cond.instanceMethod ({ cls := "TowerFields", name := "sumUp", desc := "(I)V" } : Jvm.MethodName)) ∈ wsG := zG 604 rfl rfl
set_option maxRecDepth 40000 in
theorem zw557 : (Jvm.Cond.code ({ cls := "TowerFields", name := "sumUp", desc := "(I)V" } : Jvm.MethodName) prog_1_method_26_code (2 : Nat) (Option.none : Option Jvm.ClassFile.FieldType)) ∈ wsG := zG 605 rfl rfl
set_option maxRecDepth 40000 in
theorem zw558 : (Jvm.Cond.methodLink "TowerFields" (126 : Nat) ({ cls := "TowerFields", name := "keepLowest", desc := "()I" } : Jvm.MethodName)) ∈ wsG := zG 606 rfl rfl
set_option maxRecDepth 40000 in
theorem zw560 : (Jvm.Cond.instanceMethod ({ cls := "TowerFields", name := "keepLowest", desc := "()I" } : Jvm.MethodName)) ∈ wsG := zG 608 rfl rfl
set_option maxRecDepth 40000 in
theorem zw561 : (Jvm.Cond.code ({ cls := "TowerFields", name := "keepLowest", desc := "()I" } : Jvm.MethodName) prog_1_method_28_code (4 : Nat) (Option.some Jvm.ClassFile.FieldType.int)) ∈ wsG := zG 609 rfl rfl
set_option maxRecDepth 40000 in
theorem zw562 : (Jvm.Cond.methodLink "TowerFields" (199 : Nat) ({ cls := "TowerFields$Poly", name := "head", desc := "()I" } : Jvm.MethodName)) ∈ wsG := zG 610 rfl rfl
set_option maxRecDepth 40000 in
theorem zw563 : (Jvm.Cond.methodLink "TowerFields" (202 : Nat) ({ cls := "TowerFields$Poly", name := "scale", desc := "(I)V" } : Jvm.MethodName)) ∈ wsG := zG 611 rfl rfl
set_option maxRecDepth 40000 in
theorem zw564 : (Jvm.Cond.methodLink "TowerFields" (205 : Nat) ({ cls := "TowerFields", name := "isTooGreat", desc := "(LTowerFields$Poly;)Z" } : Jvm.MethodName)) ∈ wsG := zG 612 rfl rfl
set_option maxRecDepth 40000 in
theorem zw565 : (Jvm.Cond.static ({ cls := "TowerFields", name := "isTooGreat", desc := "(LTowerFields$Poly;)Z" } : Jvm.MethodName)) ∈ wsG := zG 613 rfl rfl
set_option maxRecDepth 40000 in
theorem zw566 : (Jvm.Cond.code ({ cls := "TowerFields", name := "isTooGreat", desc := "(LTowerFields$Poly;)Z" } : Jvm.MethodName) prog_1_method_29_code (1 : Nat) (Option.some Jvm.ClassFile.FieldType.boolean)) ∈ wsG := zG 614 rfl rfl
set_option maxRecDepth 40000 in
theorem zw567 : (Jvm.Cond.methodLink "TowerFields" (211 : Nat) ({ cls := "TowerFields$Poly", name := "powerT", desc := "()I" } : Jvm.MethodName)) ∈ wsG := zG 615 rfl rfl
set_option maxRecDepth 40000 in
theorem zw568 : (Jvm.Cond.methodLink "TowerFields" (214 : Nat) ({ cls := "TowerFields$Poly", name := "powerX", desc := "()I" } : Jvm.MethodName)) ∈ wsG := zG 616 rfl rfl
set_option maxRecDepth 40000 in
theorem zw570 : (Jvm.Cond.methodLink "TowerFieldsLaw" (101 : Nat) ({ cls := "TowerFieldsLaw", name := "less", desc := "(LTowerFields;II[J)I" } : Jvm.MethodName)) ∈ wsG := zG 618 rfl rfl
set_option maxRecDepth 40000 in
theorem zw571 : (Jvm.Cond.static ({ cls := "TowerFieldsLaw", name := "less", desc := "(LTowerFields;II[J)I" } : Jvm.MethodName)) ∈ wsG := zG 619 rfl rfl
set_option maxRecDepth 40000 in
theorem zw573 : (Jvm.Cond.methodLink "TowerFieldsLaw" (35 : Nat) ({ cls := "TowerFields", name := "less", desc := "(II)I" } : Jvm.MethodName)) ∈ wsG := zG 621 rfl rfl
set_option maxRecDepth 40000 in
theorem zw574 : (Jvm.Cond.instanceMethod ({ cls := "TowerFields", name := "less", desc := "(II)I" } : Jvm.MethodName)) ∈ wsG := zG 622 rfl rfl
set_option maxRecDepth 40000 in
theorem zw575 : (Jvm.Cond.selects "TowerFields" ({ cls := "TowerFields", name := "less", desc := "(II)I" } : Jvm.MethodName) ({ cls := "TowerFields", name := "less", desc := "(II)I" } : Jvm.MethodName)) ∈ wsG := zG 623 rfl rfl
set_option maxRecDepth 40000 in
theorem zw576 : (Jvm.Cond.code ({ cls := "TowerFields", name := "less", desc := "(II)I" } : Jvm.MethodName) prog_1_method_7_code (3 : Nat) (Option.some Jvm.ClassFile.FieldType.int)) ∈ wsG := zG 624 rfl rfl
set_option maxRecDepth 40000 in
theorem zw577 : (Jvm.Cond.methodLink "TowerFieldsLaw" (104 : Nat) ({ cls := "TowerFieldsLaw", name := "times", desc := "(LTowerFields;II[J)I" } : Jvm.MethodName)) ∈ wsG := zG 625 rfl rfl
set_option maxRecDepth 40000 in
theorem zw578 : (Jvm.Cond.static ({ cls := "TowerFieldsLaw", name := "times", desc := "(LTowerFields;II[J)I" } : Jvm.MethodName)) ∈ wsG := zG 626 rfl rfl
set_option maxRecDepth 40000 in
theorem zw580 : (Jvm.Cond.methodLink "TowerFieldsLaw" (38 : Nat) ({ cls := "TowerFields", name := "times", desc := "(II)I" } : Jvm.MethodName)) ∈ wsG := zG 628 rfl rfl
set_option maxRecDepth 40000 in
theorem zw581 : (Jvm.Cond.instanceMethod ({ cls := "TowerFields", name := "times", desc := "(II)I" } : Jvm.MethodName)) ∈ wsG := zG 629 rfl rfl
set_option maxRecDepth 40000 in
theorem zw582 : (Jvm.Cond.selects "TowerFields" ({ cls := "TowerFields", name := "times", desc := "(II)I" } : Jvm.MethodName) ({ cls := "TowerFields", name := "times", desc := "(II)I" } : Jvm.MethodName)) ∈ wsG := zG 630 rfl rfl
set_option maxRecDepth 40000 in
theorem zw583 : (Jvm.Cond.code ({ cls := "TowerFields", name := "times", desc := "(II)I" } : Jvm.MethodName) prog_1_method_8_code (3 : Nat) (Option.some Jvm.ClassFile.FieldType.int)) ∈ wsG := zG 631 rfl rfl
set_option maxRecDepth 40000 in
theorem zw584 : (Jvm.Cond.methodLink "TowerFieldsLaw" (107 : Nat) ({ cls := "TowerFieldsLaw", name := "over", desc := "(LTowerFields;II[J)I" } : Jvm.MethodName)) ∈ wsG := zG 632 rfl rfl
set_option maxRecDepth 40000 in
theorem zw585 : (Jvm.Cond.static ({ cls := "TowerFieldsLaw", name := "over", desc := "(LTowerFields;II[J)I" } : Jvm.MethodName)) ∈ wsG := zG 633 rfl rfl
set_option maxRecDepth 40000 in
theorem zw587 : (Jvm.Cond.methodLink "TowerFieldsLaw" (41 : Nat) ({ cls := "TowerFields", name := "over", desc := "(II)I" } : Jvm.MethodName)) ∈ wsG := zG 635 rfl rfl
set_option maxRecDepth 40000 in
theorem zw588 : (Jvm.Cond.instanceMethod ({ cls := "TowerFields", name := "over", desc := "(II)I" } : Jvm.MethodName)) ∈ wsG := zG 636 rfl rfl
set_option maxRecDepth 40000 in
theorem zw589 : (Jvm.Cond.selects "TowerFields" ({ cls := "TowerFields", name := "over", desc := "(II)I" } : Jvm.MethodName) ({ cls := "TowerFields", name := "over", desc := "(II)I" } : Jvm.MethodName)) ∈ wsG := zG 637 rfl rfl
set_option maxRecDepth 40000 in
theorem zw590 : (Jvm.Cond.code ({ cls := "TowerFields", name := "over", desc := "(II)I" } : Jvm.MethodName) prog_1_method_9_code (3 : Nat) (Option.some Jvm.ClassFile.FieldType.int)) ∈ wsG := zG 638 rfl rfl
set_option maxRecDepth 40000 in
theorem zw591 : (Jvm.Cond.methodLink "TowerFieldsLaw" (110 : Nat) ({ cls := "TowerFieldsLaw", name := "derive", desc := "(LTowerFields;I[J)I" } : Jvm.MethodName)) ∈ wsG := zG 639 rfl rfl
set_option maxRecDepth 40000 in
theorem zw592 : (Jvm.Cond.static ({ cls := "TowerFieldsLaw", name := "derive", desc := "(LTowerFields;I[J)I" } : Jvm.MethodName)) ∈ wsG := zG 640 rfl rfl
set_option maxRecDepth 40000 in
theorem zw594 : (Jvm.Cond.methodLink "TowerFieldsLaw" (44 : Nat) ({ cls := "TowerFields", name := "derive", desc := "(I)I" } : Jvm.MethodName)) ∈ wsG := zG 642 rfl rfl
set_option maxRecDepth 40000 in
theorem zw595 : (Jvm.Cond.instanceMethod ({ cls := "TowerFields", name := "derive", desc := "(I)I" } : Jvm.MethodName)) ∈ wsG := zG 643 rfl rfl
set_option maxRecDepth 40000 in
theorem zw596 : (Jvm.Cond.selects "TowerFields" ({ cls := "TowerFields", name := "derive", desc := "(I)I" } : Jvm.MethodName) ({ cls := "TowerFields", name := "derive", desc := "(I)I" } : Jvm.MethodName)) ∈ wsG := zG 644 rfl rfl
set_option maxRecDepth 40000 in
theorem zw597 : (Jvm.Cond.code ({ cls := "TowerFields", name := "derive", desc := "(I)I" } : Jvm.MethodName) prog_1_method_10_code (2 : Nat) (Option.some Jvm.ClassFile.FieldType.int)) ∈ wsG := zG 645 rfl rfl
set_option maxRecDepth 40000 in
theorem zw598 : (Jvm.Cond.methodLink "TowerFields" (144 : Nat) ({ cls := "TowerFields", name := "slopeOverProduct", desc := "(LTowerFields$Poly;LTowerFields$Poly;)V" } : Jvm.MethodName)) ∈ wsG := zG 646 rfl rfl
set_option maxRecDepth 40000 in
theorem zw600 : (Jvm.Cond.instanceMethod ({ cls := "TowerFields", name := "slopeOverProduct", desc := "(LTowerFields$Poly;LTowerFields$Poly;)V" } : Jvm.MethodName)) ∈ wsG := zG 648 rfl rfl
set_option maxRecDepth 40000 in
theorem zw601 : (Jvm.Cond.code ({ cls := "TowerFields", name := "slopeOverProduct", desc := "(LTowerFields$Poly;LTowerFields$Poly;)V" } : Jvm.MethodName) prog_1_method_34_code (4 : Nat) (Option.none : Option Jvm.ClassFile.FieldType)) ∈ wsG := zG 649 rfl rfl
set_option maxRecDepth 40000 in
theorem zw602 : (Jvm.Cond.methodLink "TowerFieldsLaw" (114 : Nat) ({ cls := "TowerFieldsLaw", name := "logarithmic", desc := "(LTowerFields;I[J)I" } : Jvm.MethodName)) ∈ wsG := zG 650 rfl rfl
set_option maxRecDepth 40000 in
theorem zw603 : (Jvm.Cond.static ({ cls := "TowerFieldsLaw", name := "logarithmic", desc := "(LTowerFields;I[J)I" } : Jvm.MethodName)) ∈ wsG := zG 651 rfl rfl
set_option maxRecDepth 40000 in
theorem zw605 : (Jvm.Cond.methodLink "TowerFieldsLaw" (48 : Nat) ({ cls := "TowerFields", name := "logarithmic", desc := "(I)I" } : Jvm.MethodName)) ∈ wsG := zG 653 rfl rfl
set_option maxRecDepth 40000 in
theorem zw606 : (Jvm.Cond.instanceMethod ({ cls := "TowerFields", name := "logarithmic", desc := "(I)I" } : Jvm.MethodName)) ∈ wsG := zG 654 rfl rfl
set_option maxRecDepth 40000 in
theorem zw607 : (Jvm.Cond.selects "TowerFields" ({ cls := "TowerFields", name := "logarithmic", desc := "(I)I" } : Jvm.MethodName) ({ cls := "TowerFields", name := "logarithmic", desc := "(I)I" } : Jvm.MethodName)) ∈ wsG := zG 655 rfl rfl
set_option maxRecDepth 40000 in
theorem zw608 : (Jvm.Cond.code ({ cls := "TowerFields", name := "logarithmic", desc := "(I)I" } : Jvm.MethodName) prog_1_method_11_code (2 : Nat) (Option.some Jvm.ClassFile.FieldType.int)) ∈ wsG := zG 656 rfl rfl
set_option maxRecDepth 40000 in
theorem zw609 : (Jvm.Cond.methodLink "TowerFieldsLaw" (117 : Nat) ({ cls := "TowerFieldsLaw", name := "part", desc := "(LTowerFields;II[J)I" } : Jvm.MethodName)) ∈ wsG := zG 657 rfl rfl
set_option maxRecDepth 40000 in
theorem zw610 : (Jvm.Cond.static ({ cls := "TowerFieldsLaw", name := "part", desc := "(LTowerFields;II[J)I" } : Jvm.MethodName)) ∈ wsG := zG 658 rfl rfl
set_option maxRecDepth 40000 in
theorem zw612 : (Jvm.Cond.methodLink "TowerFieldsLaw" (51 : Nat) ({ cls := "TowerFields", name := "part", desc := "(II)I" } : Jvm.MethodName)) ∈ wsG := zG 660 rfl rfl
set_option maxRecDepth 40000 in
theorem zw613 : (Jvm.Cond.instanceMethod ({ cls := "TowerFields", name := "part", desc := "(II)I" } : Jvm.MethodName)) ∈ wsG := zG 661 rfl rfl
set_option maxRecDepth 40000 in
theorem zw614 : (Jvm.Cond.selects "TowerFields" ({ cls := "TowerFields", name := "part", desc := "(II)I" } : Jvm.MethodName) ({ cls := "TowerFields", name := "part", desc := "(II)I" } : Jvm.MethodName)) ∈ wsG := zG 662 rfl rfl
set_option maxRecDepth 40000 in
theorem zw615 : (Jvm.Cond.code ({ cls := "TowerFields", name := "part", desc := "(II)I" } : Jvm.MethodName) prog_1_method_12_code (3 : Nat) (Option.some Jvm.ClassFile.FieldType.int)) ∈ wsG := zG 663 rfl rfl
set_option maxRecDepth 40000 in
theorem zw617 : (Jvm.Cond.methodLink "TowerFields" (154 : Nat) ({ cls := "TowerFields", name := "makeSquareFree", desc := "(LTowerFields$Poly;)V" } : Jvm.MethodName)) ∈ wsG := zG 665 rfl rfl
set_option maxRecDepth 40000 in
theorem zw619 : (Jvm.Cond.instanceMethod ({ cls := "TowerFields", name := "makeSquareFree", desc := "(LTowerFields$Poly;)V" } : Jvm.MethodName)) ∈ wsG := zG 667 rfl rfl
set_option maxRecDepth 40000 in
theorem zw620 : (Jvm.Cond.code ({ cls := "TowerFields", name := "makeSquareFree", desc := "(LTowerFields$Poly;)V" } : Jvm.MethodName) prog_1_method_36_code (3 : Nat) (Option.none : Option Jvm.ClassFile.FieldType)) ∈ wsG := zG 668 rfl rfl
set_option maxRecDepth 40000 in
theorem zw621 : (Jvm.Cond.methodLink "TowerFields" (237 : Nat) ({ cls := "TowerFields$Line", name := "plusShifted", desc := "(LTowerFields$Line;II)V" } : Jvm.MethodName)) ∈ wsG := zG 669 rfl rfl
set_option maxRecDepth 40000 in
theorem zw622 : (Jvm.Cond.methodLink "TowerFields" (241 : Nat) ({ cls := "TowerFields$Poly", name := "copyOf", desc := "(LTowerFields$Poly;)V" } : Jvm.MethodName)) ∈ wsG := zG 670 rfl rfl
set_option maxRecDepth 40000 in
theorem zw623 : (Jvm.Cond.methodLink "TowerFields" (158 : Nat) ({ cls := "TowerFields", name := "splitSquareFree", desc := "(LTowerFields$Poly;I)V" } : Jvm.MethodName)) ∈ wsG := zG 671 rfl rfl
set_option maxRecDepth 40000 in
theorem zw625 : (Jvm.Cond.instanceMethod ({ cls := "TowerFields", name := "splitSquareFree", desc := "(LTowerFields$Poly;I)V" } : Jvm.MethodName)) ∈ wsG := zG 673 rfl rfl
set_option maxRecDepth 40000 in
theorem zw626 : (Jvm.Cond.code ({ cls := "TowerFields", name := "splitSquareFree", desc := "(LTowerFields$Poly;I)V" } : Jvm.MethodName) prog_1_method_37_code (3 : Nat) (Option.none : Option Jvm.ClassFile.FieldType)) ∈ wsG := zG 674 rfl rfl
set_option maxRecDepth 40000 in
theorem zw627 : (Jvm.Cond.methodLink "TowerFieldsLaw" (120 : Nat) ({ cls := "TowerFieldsLaw", name := "common", desc := "(LTowerFields;II[J)I" } : Jvm.MethodName)) ∈ wsG := zG 675 rfl rfl
set_option maxRecDepth 40000 in
theorem zw628 : (Jvm.Cond.static ({ cls := "TowerFieldsLaw", name := "common", desc := "(LTowerFields;II[J)I" } : Jvm.MethodName)) ∈ wsG := zG 676 rfl rfl
set_option maxRecDepth 40000 in
theorem zw630 : (Jvm.Cond.methodLink "TowerFieldsLaw" (54 : Nat) ({ cls := "TowerFields", name := "common", desc := "(II)I" } : Jvm.MethodName)) ∈ wsG := zG 678 rfl rfl
set_option maxRecDepth 40000 in
theorem zw631 : (Jvm.Cond.instanceMethod ({ cls := "TowerFields", name := "common", desc := "(II)I" } : Jvm.MethodName)) ∈ wsG := zG 679 rfl rfl
set_option maxRecDepth 40000 in
theorem zw632 : (Jvm.Cond.selects "TowerFields" ({ cls := "TowerFields", name := "common", desc := "(II)I" } : Jvm.MethodName) ({ cls := "TowerFields", name := "common", desc := "(II)I" } : Jvm.MethodName)) ∈ wsG := zG 680 rfl rfl
set_option maxRecDepth 40000 in
theorem zw633 : (Jvm.Cond.code ({ cls := "TowerFields", name := "common", desc := "(II)I" } : Jvm.MethodName) prog_1_method_13_code (3 : Nat) (Option.some Jvm.ClassFile.FieldType.int)) ∈ wsG := zG 681 rfl rfl
set_option maxRecDepth 40000 in
theorem zw634 : (Jvm.Cond.methodLink "TowerFieldsLaw" (123 : Nat) ({ cls := "TowerFieldsLaw", name := "same", desc := "(LTowerFields;II[J)I" } : Jvm.MethodName)) ∈ wsG := zG 682 rfl rfl
set_option maxRecDepth 40000 in
theorem zw635 : (Jvm.Cond.static ({ cls := "TowerFieldsLaw", name := "same", desc := "(LTowerFields;II[J)I" } : Jvm.MethodName)) ∈ wsG := zG 683 rfl rfl
set_option maxRecDepth 40000 in
theorem zw637 : (Jvm.Cond.methodLink "TowerFieldsLaw" (57 : Nat) ({ cls := "TowerFields", name := "same", desc := "(II)Z" } : Jvm.MethodName)) ∈ wsG := zG 685 rfl rfl
set_option maxRecDepth 40000 in
theorem zw638 : (Jvm.Cond.instanceMethod ({ cls := "TowerFields", name := "same", desc := "(II)Z" } : Jvm.MethodName)) ∈ wsG := zG 686 rfl rfl
set_option maxRecDepth 40000 in
theorem zw639 : (Jvm.Cond.selects "TowerFields" ({ cls := "TowerFields", name := "same", desc := "(II)Z" } : Jvm.MethodName) ({ cls := "TowerFields", name := "same", desc := "(II)Z" } : Jvm.MethodName)) ∈ wsG := zG 687 rfl rfl
set_option maxRecDepth 40000 in
theorem zw640 : (Jvm.Cond.code ({ cls := "TowerFields", name := "same", desc := "(II)Z" } : Jvm.MethodName) prog_1_method_14_code (4 : Nat) (Option.some Jvm.ClassFile.FieldType.boolean)) ∈ wsG := zG 688 rfl rfl
set_option maxRecDepth 40000 in
theorem zw641 : (Jvm.Cond.methodLink "TowerFieldsLaw" (126 : Nat) ({ cls := "TowerFieldsLaw", name := "constant", desc := "(LTowerFields;I[J)I" } : Jvm.MethodName)) ∈ wsG := zG 689 rfl rfl
set_option maxRecDepth 40000 in
theorem zw642 : (Jvm.Cond.static ({ cls := "TowerFieldsLaw", name := "constant", desc := "(LTowerFields;I[J)I" } : Jvm.MethodName)) ∈ wsG := zG 690 rfl rfl
set_option maxRecDepth 40000 in
theorem zw644 : (Jvm.Cond.methodLink "TowerFieldsLaw" (61 : Nat) ({ cls := "TowerFields", name := "constant", desc := "(I)Z" } : Jvm.MethodName)) ∈ wsG := zG 692 rfl rfl
set_option maxRecDepth 40000 in
theorem zw645 : (Jvm.Cond.instanceMethod ({ cls := "TowerFields", name := "constant", desc := "(I)Z" } : Jvm.MethodName)) ∈ wsG := zG 693 rfl rfl
set_option maxRecDepth 40000 in
theorem zw646 : (Jvm.Cond.selects "TowerFields" ({ cls := "TowerFields", name := "constant", desc := "(I)Z" } : Jvm.MethodName) ({ cls := "TowerFields", name := "constant", desc := "(I)Z" } : Jvm.MethodName)) ∈ wsG := zG 694 rfl rfl
set_option maxRecDepth 40000 in
theorem zw647 : (Jvm.Cond.code ({ cls := "TowerFields", name := "constant", desc := "(I)Z" } : Jvm.MethodName) prog_1_method_15_code (2 : Nat) (Option.some Jvm.ClassFile.FieldType.boolean)) ∈ wsG := zG 695 rfl rfl
set_option maxRecDepth 40000 in
theorem zw648 : (Jvm.Cond.methodLink "TowerFieldsLaw" (129 : Nat) ({ cls := "TowerFieldsLaw", name := "low", desc := "(LTowerFields;I[J)I" } : Jvm.MethodName)) ∈ wsG := zG 696 rfl rfl
set_option maxRecDepth 40000 in
theorem zw649 : (Jvm.Cond.static ({ cls := "TowerFieldsLaw", name := "low", desc := "(LTowerFields;I[J)I" } : Jvm.MethodName)) ∈ wsG := zG 697 rfl rfl
set_option maxRecDepth 40000 in
theorem zw651 : (Jvm.Cond.methodLink "TowerFieldsLaw" (65 : Nat) ({ cls := "TowerFields", name := "low", desc := "(I)Z" } : Jvm.MethodName)) ∈ wsG := zG 699 rfl rfl
set_option maxRecDepth 40000 in
theorem zw652 : (Jvm.Cond.instanceMethod ({ cls := "TowerFields", name := "low", desc := "(I)Z" } : Jvm.MethodName)) ∈ wsG := zG 700 rfl rfl
set_option maxRecDepth 40000 in
theorem zw653 : (Jvm.Cond.selects "TowerFields" ({ cls := "TowerFields", name := "low", desc := "(I)Z" } : Jvm.MethodName) ({ cls := "TowerFields", name := "low", desc := "(I)Z" } : Jvm.MethodName)) ∈ wsG := zG 701 rfl rfl
set_option maxRecDepth 40000 in
theorem zw654 : (Jvm.Cond.code ({ cls := "TowerFields", name := "low", desc := "(I)Z" } : Jvm.MethodName) prog_1_method_16_code (4 : Nat) (Option.some Jvm.ClassFile.FieldType.boolean)) ∈ wsG := zG 702 rfl rfl
set_option maxRecDepth 40000 in
theorem zw655 : (Jvm.Cond.methodLink "TowerFieldsLaw" (132 : Nat) ({ cls := "TowerFieldsLaw", name := "at", desc := "(LTowerFields;IIII[J)I" } : Jvm.MethodName)) ∈ wsG := zG 703 rfl rfl
set_option maxRecDepth 40000 in
theorem zw656 : (Jvm.Cond.static ({ cls := "TowerFieldsLaw", name := "at", desc := "(LTowerFields;IIII[J)I" } : Jvm.MethodName)) ∈ wsG := zG 704 rfl rfl
set_option maxRecDepth 40000 in
theorem zw658 : (Jvm.Cond.methodLink "TowerFieldsLaw" (68 : Nat) ({ cls := "TowerFields", name := "at", desc := "(IIII)I" } : Jvm.MethodName)) ∈ wsG := zG 706 rfl rfl
set_option maxRecDepth 40000 in
theorem zw659 : (Jvm.Cond.instanceMethod ({ cls := "TowerFields", name := "at", desc := "(IIII)I" } : Jvm.MethodName)) ∈ wsG := zG 707 rfl rfl
set_option maxRecDepth 40000 in
theorem zw660 : (Jvm.Cond.selects "TowerFields" ({ cls := "TowerFields", name := "at", desc := "(IIII)I" } : Jvm.MethodName) ({ cls := "TowerFields", name := "at", desc := "(IIII)I" } : Jvm.MethodName)) ∈ wsG := zG 708 rfl rfl
set_option maxRecDepth 40000 in
theorem zw661 : (Jvm.Cond.code ({ cls := "TowerFields", name := "at", desc := "(IIII)I" } : Jvm.MethodName) prog_1_method_17_code (5 : Nat) (Option.some Jvm.ClassFile.FieldType.int)) ∈ wsG := zG 709 rfl rfl
set_option maxRecDepth 40000 in
theorem zw664 : (Jvm.Cond.classLink "TowerFieldsLaw" (73 : Nat) "TowerFieldsModel") ∈ wsG := zG 712 rfl rfl
set_option maxRecDepth 40000 in
theorem zw665 : (Jvm.Cond.instantiable "TowerFieldsModel" (21 : Nat)) ∈ wsG := zG 713 rfl rfl
set_option maxRecDepth 40000 in
theorem zw666 : (Jvm.Cond.methodLink "TowerFieldsLaw" (75 : Nat) ({ cls := "TowerFieldsModel", name := "<init>", desc := "()V" } : Jvm.MethodName)) ∈ wsG := zG 714 rfl rfl
set_option maxRecDepth 40000 in
theorem zw667 : (Jvm.Cond.instanceMethod ({ cls := "TowerFieldsModel", name := "<init>", desc := "()V" } : Jvm.MethodName)) ∈ wsG := zG 715 rfl rfl
set_option maxRecDepth 40000 in
theorem zw668 : (Jvm.Cond.code ({ cls := "TowerFieldsModel", name := "<init>", desc := "()V" } : Jvm.MethodName) prog_6_method_1_code (1 : Nat) (Option.none : Option Jvm.ClassFile.FieldType)) ∈ wsG := zG 716 rfl rfl
set_option maxRecDepth 40000 in
theorem zw669 : (Jvm.Cond.methodLink "TowerFieldsModel" (1 : Nat) ({ cls := "java/lang/Object", name := "<init>", desc := "()V" } : Jvm.MethodName)) ∈ wsG := zG 717 rfl rfl
set_option maxRecDepth 40000 in
theorem zw670 : (Jvm.Cond.constant "TowerFieldsModel" (46 : Nat) (86240 : Int32)) ∈ wsG := zG 718 rfl rfl
set_option maxRecDepth 40000 in
theorem zw671 : (Jvm.Cond.fieldLink "TowerFieldsModel" (62 : Nat) "TowerFieldsModel" "code" "I") ∈ wsG := zG 719 rfl rfl
set_option maxRecDepth 40000 in
theorem zw672 : (Jvm.Cond.fieldLink "TowerFieldsModel" (94 : Nat) "TowerFieldsModel" "many" "I") ∈ wsG := zG 720 rfl rfl
set_option maxRecDepth 40000 in
theorem zw673 : (Jvm.Cond.fieldLink "TowerFieldsModel" (7 : Nat) "TowerFieldsModel" "above" "[I") ∈ wsG := zG 721 rfl rfl
set_option maxRecDepth 40000 in
theorem zw674 : (Jvm.Cond.fieldLink "TowerFieldsModel" (13 : Nat) "TowerFieldsModel" "below" "[I") ∈ wsG := zG 722 rfl rfl
set_option maxRecDepth 40000 in
theorem zw675 : (Jvm.Cond.fieldLink "TowerFieldsModel" (119 : Nat) "TowerFieldsModel" "kind" "I") ∈ wsG := zG 723 rfl rfl
set_option maxRecDepth 40000 in
theorem zw676 : (Jvm.Cond.fieldLink "TowerFieldsModel" (16 : Nat) "TowerFieldsModel" "slopeUp" "[I") ∈ wsG := zG 724 rfl rfl
set_option maxRecDepth 40000 in
theorem zw677 : (Jvm.Cond.fieldLink "TowerFieldsModel" (19 : Nat) "TowerFieldsModel" "slopeDown" "[I") ∈ wsG := zG 725 rfl rfl
set_option maxRecDepth 40000 in
theorem zw678 : (Jvm.Cond.fieldLink "TowerFieldsModel" (22 : Nat) "TowerFieldsModel" "a" "[I") ∈ wsG := zG 726 rfl rfl
set_option maxRecDepth 40000 in
theorem zw679 : (Jvm.Cond.fieldLink "TowerFieldsModel" (25 : Nat) "TowerFieldsModel" "b" "[I") ∈ wsG := zG 727 rfl rfl
set_option maxRecDepth 40000 in
theorem zw680 : (Jvm.Cond.fieldLink "TowerFieldsModel" (28 : Nat) "TowerFieldsModel" "c" "[I") ∈ wsG := zG 728 rfl rfl
set_option maxRecDepth 40000 in
theorem zw681 : (Jvm.Cond.fieldLink "TowerFieldsModel" (31 : Nat) "TowerFieldsModel" "d" "[I") ∈ wsG := zG 729 rfl rfl
set_option maxRecDepth 40000 in
theorem zw682 : (Jvm.Cond.fieldLink "TowerFieldsModel" (34 : Nat) "TowerFieldsModel" "e" "[I") ∈ wsG := zG 730 rfl rfl
set_option maxRecDepth 40000 in
theorem zw683 : (Jvm.Cond.fieldLink "TowerFieldsModel" (37 : Nat) "TowerFieldsModel" "up" "[I") ∈ wsG := zG 731 rfl rfl
set_option maxRecDepth 40000 in
theorem zw684 : (Jvm.Cond.fieldLink "TowerFieldsModel" (40 : Nat) "TowerFieldsModel" "down" "[I") ∈ wsG := zG 732 rfl rfl
set_option maxRecDepth 40000 in
theorem zw685 : (Jvm.Cond.fieldLink "TowerFieldsModel" (80 : Nat) "TowerFieldsModel" "columns" "I") ∈ wsG := zG 733 rfl rfl
set_option maxRecDepth 40000 in
theorem zw686 : (Jvm.Cond.fieldLink "TowerFieldsModel" (43 : Nat) "TowerFieldsModel" "pivot" "[I") ∈ wsG := zG 734 rfl rfl
set_option maxRecDepth 40000 in
theorem zw687 : (Jvm.Cond.fieldLink "TowerFieldsModel" (47 : Nat) "TowerFieldsModel" "column" "[I") ∈ wsG := zG 735 rfl rfl
set_option maxRecDepth 40000 in
theorem zw688 : (Jvm.Cond.fieldLink "TowerFieldsModel" (50 : Nat) "TowerFieldsModel" "from" "[I") ∈ wsG := zG 736 rfl rfl
set_option maxRecDepth 40000 in
theorem zw689 : (Jvm.Cond.fieldLink "TowerFieldsModel" (53 : Nat) "TowerFieldsModel" "now" "[I") ∈ wsG := zG 737 rfl rfl
set_option maxRecDepth 40000 in
theorem zw690 : (Jvm.Cond.fieldLink "TowerFieldsModel" (56 : Nat) "TowerFieldsModel" "mine" "[I") ∈ wsG := zG 738 rfl rfl
set_option maxRecDepth 40000 in
theorem zw691 : (Jvm.Cond.fieldLink "TowerFieldsModel" (59 : Nat) "TowerFieldsModel" "slot" "[I") ∈ wsG := zG 739 rfl rfl
set_option maxRecDepth 40000 in
theorem zw735 : (Jvm.Cond.methodLink "TowerFieldsLaw" (84 : Nat) ({ cls := "TowerFieldsModel", name := "thrown", desc := "()I" } : Jvm.MethodName)) ∈ wsG := zG 783 rfl rfl
set_option maxRecDepth 40000 in
theorem zw736 : (Jvm.Cond.instanceMethod ({ cls := "TowerFieldsModel", name := "thrown", desc := "()I" } : Jvm.MethodName)) ∈ wsG := zG 784 rfl rfl
set_option maxRecDepth 40000 in
theorem zw737 : (Jvm.Cond.selects "TowerFieldsModel" ({ cls := "TowerFieldsModel", name := "thrown", desc := "()I" } : Jvm.MethodName) ({ cls := "TowerFieldsModel", name := "thrown", desc := "()I" } : Jvm.MethodName)) ∈ wsG := zG 785 rfl rfl
set_option maxRecDepth 40000 in
theorem zw738 : (Jvm.Cond.code ({ cls := "TowerFieldsModel", name := "thrown", desc := "()I" } : Jvm.MethodName) prog_6_method_2_code (1 : Nat) (Option.some Jvm.ClassFile.FieldType.int)) ∈ wsG := zG 786 rfl rfl
set_option maxRecDepth 40000 in
theorem zw739 : (Jvm.Cond.methodLink "TowerFieldsLaw" (83 : Nat) ({ cls := "TowerFieldsModel", name := "number", desc := "(JJ)I" } : Jvm.MethodName)) ∈ wsG := zG 787 rfl rfl
set_option maxRecDepth 40000 in
theorem zw740 : (Jvm.Cond.instanceMethod ({ cls := "TowerFieldsModel", name := "number", desc := "(JJ)I" } : Jvm.MethodName)) ∈ wsG := zG 788 rfl rfl
set_option maxRecDepth 40000 in
theorem zw741 : (Jvm.Cond.selects "TowerFieldsModel" ({ cls := "TowerFieldsModel", name := "number", desc := "(JJ)I" } : Jvm.MethodName) ({ cls := "TowerFieldsModel", name := "number", desc := "(JJ)I" } : Jvm.MethodName)) ∈ wsG := zG 789 rfl rfl
set_option maxRecDepth 40000 in
theorem zw742 : (Jvm.Cond.code ({ cls := "TowerFieldsModel", name := "number", desc := "(JJ)I" } : Jvm.MethodName) prog_6_method_22_code (5 : Nat) (Option.some Jvm.ClassFile.FieldType.int)) ∈ wsG := zG 790 rfl rfl
set_option maxRecDepth 40000 in
theorem zw743 : (Jvm.Cond.methodLink "TowerFieldsModel" (76 : Nat) ({ cls := "TowerFieldsModel", name := "modulo", desc := "(J)I" } : Jvm.MethodName)) ∈ wsG := zG 791 rfl rfl
set_option maxRecDepth 40000 in
theorem zw744 : (Jvm.Cond.static ({ cls := "TowerFieldsModel", name := "modulo", desc := "(J)I" } : Jvm.MethodName)) ∈ wsG := zG 792 rfl rfl
set_option maxRecDepth 40000 in
theorem zw745 : (Jvm.Cond.code ({ cls := "TowerFieldsModel", name := "modulo", desc := "(J)I" } : Jvm.MethodName) prog_6_method_4_code (4 : Nat) (Option.some Jvm.ClassFile.FieldType.int)) ∈ wsG := zG 793 rfl rfl
set_option maxRecDepth 40000 in
theorem zw746 : (Jvm.Cond.constantLong "TowerFieldsModel" (66 : Nat) (32003 : Int64)) ∈ wsG := zG 794 rfl rfl
set_option maxRecDepth 40000 in
theorem zw747 : (Jvm.Cond.methodLink "TowerFieldsModel" (68 : Nat) ({ cls := "TowerFieldsModel", name := "clear", desc := "([I)V" } : Jvm.MethodName)) ∈ wsG := zG 795 rfl rfl
set_option maxRecDepth 40000 in
theorem zw748 : (Jvm.Cond.static ({ cls := "TowerFieldsModel", name := "clear", desc := "([I)V" } : Jvm.MethodName)) ∈ wsG := zG 796 rfl rfl
set_option maxRecDepth 40000 in
theorem zw749 : (Jvm.Cond.code ({ cls := "TowerFieldsModel", name := "clear", desc := "([I)V" } : Jvm.MethodName) prog_6_method_6_code (2 : Nat) (Option.none : Option Jvm.ClassFile.FieldType)) ∈ wsG := zG 797 rfl rfl
set_option maxRecDepth 40000 in
theorem zw750 : (Jvm.Cond.methodLink "TowerFieldsModel" (112 : Nat) ({ cls := "TowerFieldsModel", name := "one", desc := "([I)V" } : Jvm.MethodName)) ∈ wsG := zG 798 rfl rfl
set_option maxRecDepth 40000 in
theorem zw752 : (Jvm.Cond.instanceMethod ({ cls := "TowerFieldsModel", name := "one", desc := "([I)V" } : Jvm.MethodName)) ∈ wsG := zG 800 rfl rfl
set_option maxRecDepth 40000 in
theorem zw753 : (Jvm.Cond.code ({ cls := "TowerFieldsModel", name := "one", desc := "([I)V" } : Jvm.MethodName) prog_6_method_21_code (2 : Nat) (Option.none : Option Jvm.ClassFile.FieldType)) ∈ wsG := zG 801 rfl rfl
set_option maxRecDepth 40000 in
theorem zw754 : (Jvm.Cond.methodLink "TowerFieldsModel" (90 : Nat) ({ cls := "TowerFieldsModel", name := "inverse", desc := "(I)I" } : Jvm.MethodName)) ∈ wsG := zG 802 rfl rfl
set_option maxRecDepth 40000 in
theorem zw755 : (Jvm.Cond.static ({ cls := "TowerFieldsModel", name := "inverse", desc := "(I)I" } : Jvm.MethodName)) ∈ wsG := zG 803 rfl rfl
set_option maxRecDepth 40000 in
theorem zw756 : (Jvm.Cond.code ({ cls := "TowerFieldsModel", name := "inverse", desc := "(I)I" } : Jvm.MethodName) prog_6_method_5_code (6 : Nat) (Option.some Jvm.ClassFile.FieldType.int)) ∈ wsG := zG 804 rfl rfl
set_option maxRecDepth 40000 in
theorem zw757 : (Jvm.Cond.methodLink "TowerFieldsModel" (104 : Nat) ({ cls := "TowerFieldsModel", name := "keep", desc := "()I" } : Jvm.MethodName)) ∈ wsG := zG 805 rfl rfl
set_option maxRecDepth 40000 in
theorem zw759 : (Jvm.Cond.instanceMethod ({ cls := "TowerFieldsModel", name := "keep", desc := "()I" } : Jvm.MethodName)) ∈ wsG := zG 807 rfl rfl
set_option maxRecDepth 40000 in
theorem zw760 : (Jvm.Cond.code ({ cls := "TowerFieldsModel", name := "keep", desc := "()I" } : Jvm.MethodName) prog_6_method_17_code (3 : Nat) (Option.some Jvm.ClassFile.FieldType.int)) ∈ wsG := zG 808 rfl rfl
set_option maxRecDepth 40000 in
theorem zw761 : (Jvm.Cond.methodLink "TowerFieldsLaw" (90 : Nat) ({ cls := "TowerFieldsModel", name := "base", desc := "()I" } : Jvm.MethodName)) ∈ wsG := zG 809 rfl rfl
set_option maxRecDepth 40000 in
theorem zw762 : (Jvm.Cond.instanceMethod ({ cls := "TowerFieldsModel", name := "base", desc := "()I" } : Jvm.MethodName)) ∈ wsG := zG 810 rfl rfl
set_option maxRecDepth 40000 in
theorem zw763 : (Jvm.Cond.selects "TowerFieldsModel" ({ cls := "TowerFieldsModel", name := "base", desc := "()I" } : Jvm.MethodName) ({ cls := "TowerFieldsModel", name := "base", desc := "()I" } : Jvm.MethodName)) ∈ wsG := zG 811 rfl rfl
set_option maxRecDepth 40000 in
theorem zw764 : (Jvm.Cond.code ({ cls := "TowerFieldsModel", name := "base", desc := "()I" } : Jvm.MethodName) prog_6_method_23_code (1 : Nat) (Option.some Jvm.ClassFile.FieldType.int)) ∈ wsG := zG 812 rfl rfl
set_option maxRecDepth 40000 in
theorem zw765 : (Jvm.Cond.methodLink "TowerFieldsLaw" (94 : Nat) ({ cls := "TowerFieldsModel", name := "letter", desc := "(II)I" } : Jvm.MethodName)) ∈ wsG := zG 813 rfl rfl
set_option maxRecDepth 40000 in
theorem zw766 : (Jvm.Cond.instanceMethod ({ cls := "TowerFieldsModel", name := "letter", desc := "(II)I" } : Jvm.MethodName)) ∈ wsG := zG 814 rfl rfl
set_option maxRecDepth 40000 in
theorem zw767 : (Jvm.Cond.selects "TowerFieldsModel" ({ cls := "TowerFieldsModel", name := "letter", desc := "(II)I" } : Jvm.MethodName) ({ cls := "TowerFieldsModel", name := "letter", desc := "(II)I" } : Jvm.MethodName)) ∈ wsG := zG 815 rfl rfl
set_option maxRecDepth 40000 in
theorem zw768 : (Jvm.Cond.code ({ cls := "TowerFieldsModel", name := "letter", desc := "(II)I" } : Jvm.MethodName) prog_6_method_26_code (4 : Nat) (Option.some Jvm.ClassFile.FieldType.int)) ∈ wsG := zG 816 rfl rfl
set_option maxRecDepth 40000 in
theorem zw769 : (Jvm.Cond.methodLink "TowerFieldsModel" (115 : Nat) ({ cls := "TowerFieldsModel", name := "are", desc := "(II)Z" } : Jvm.MethodName)) ∈ wsG := zG 817 rfl rfl
set_option maxRecDepth 40000 in
theorem zw771 : (Jvm.Cond.instanceMethod ({ cls := "TowerFieldsModel", name := "are", desc := "(II)Z" } : Jvm.MethodName)) ∈ wsG := zG 819 rfl rfl
set_option maxRecDepth 40000 in
theorem zw772 : (Jvm.Cond.code ({ cls := "TowerFieldsModel", name := "are", desc := "(II)Z" } : Jvm.MethodName) prog_6_method_20_code (3 : Nat) (Option.some Jvm.ClassFile.FieldType.boolean)) ∈ wsG := zG 820 rfl rfl
set_option maxRecDepth 40000 in
theorem zw773 : (Jvm.Cond.methodLink "TowerFieldsModel" (108 : Nat) ({ cls := "TowerFieldsModel", name := "isElement", desc := "(I)Z" } : Jvm.MethodName)) ∈ wsG := zG 821 rfl rfl
set_option maxRecDepth 40000 in
theorem zw775 : (Jvm.Cond.instanceMethod ({ cls := "TowerFieldsModel", name := "isElement", desc := "(I)Z" } : Jvm.MethodName)) ∈ wsG := zG 823 rfl rfl
set_option maxRecDepth 40000 in
theorem zw776 : (Jvm.Cond.code ({ cls := "TowerFieldsModel", name := "isElement", desc := "(I)Z" } : Jvm.MethodName) prog_6_method_19_code (2 : Nat) (Option.some Jvm.ClassFile.FieldType.boolean)) ∈ wsG := zG 824 rfl rfl
set_option maxRecDepth 40000 in
theorem zw777 : (Jvm.Cond.methodLink "TowerFieldsModel" (122 : Nat) ({ cls := "TowerFieldsModel", name := "isLow", desc := "(I)Z" } : Jvm.MethodName)) ∈ wsG := zG 825 rfl rfl
set_option maxRecDepth 40000 in
theorem zw779 : (Jvm.Cond.instanceMethod ({ cls := "TowerFieldsModel", name := "isLow", desc := "(I)Z" } : Jvm.MethodName)) ∈ wsG := zG 827 rfl rfl
set_option maxRecDepth 40000 in
theorem zw780 : (Jvm.Cond.code ({ cls := "TowerFieldsModel", name := "isLow", desc := "(I)Z" } : Jvm.MethodName) prog_6_method_25_code (3 : Nat) (Option.some Jvm.ClassFile.FieldType.boolean)) ∈ wsG := zG 828 rfl rfl
set_option maxRecDepth 40000 in
theorem zw781 : (Jvm.Cond.methodLink "TowerFieldsModel" (101 : Nat) ({ cls := "TowerFieldsModel", name := "raise", desc := "(I)I" } : Jvm.MethodName)) ∈ wsG := zG 829 rfl rfl
set_option maxRecDepth 40000 in
theorem zw783 : (Jvm.Cond.instanceMethod ({ cls := "TowerFieldsModel", name := "raise", desc := "(I)I" } : Jvm.MethodName)) ∈ wsG := zG 831 rfl rfl
set_option maxRecDepth 40000 in
theorem zw784 : (Jvm.Cond.code ({ cls := "TowerFieldsModel", name := "raise", desc := "(I)I" } : Jvm.MethodName) prog_6_method_3_code (2 : Nat) (Option.some Jvm.ClassFile.FieldType.int)) ∈ wsG := zG 832 rfl rfl
set_option maxRecDepth 40000 in
theorem zw785 : (Jvm.Cond.methodLink "TowerFieldsModel" (125 : Nat) ({ cls := "TowerFieldsModel", name := "load", desc := "([I[II)V" } : Jvm.MethodName)) ∈ wsG := zG 833 rfl rfl
set_option maxRecDepth 40000 in
theorem zw787 : (Jvm.Cond.instanceMethod ({ cls := "TowerFieldsModel", name := "load", desc := "([I[II)V" } : Jvm.MethodName)) ∈ wsG := zG 835 rfl rfl
set_option maxRecDepth 40000 in
theorem zw788 : (Jvm.Cond.code ({ cls := "TowerFieldsModel", name := "load", desc := "([I[II)V" } : Jvm.MethodName) prog_6_method_10_code (5 : Nat) (Option.none : Option Jvm.ClassFile.FieldType)) ∈ wsG := zG 836 rfl rfl
set_option maxRecDepth 40000 in
theorem zw789 : (Jvm.Cond.methodLink "TowerFieldsModel" (129 : Nat) ({ cls := "TowerFieldsModel", name := "slope", desc := "([I[II)V" } : Jvm.MethodName)) ∈ wsG := zG 837 rfl rfl
set_option maxRecDepth 40000 in
theorem zw790 : (Jvm.Cond.static ({ cls := "TowerFieldsModel", name := "slope", desc := "([I[II)V" } : Jvm.MethodName)) ∈ wsG := zG 838 rfl rfl
set_option maxRecDepth 40000 in
theorem zw791 : (Jvm.Cond.code ({ cls := "TowerFieldsModel", name := "slope", desc := "([I[II)V" } : Jvm.MethodName) prog_6_method_13_code (5 : Nat) (Option.none : Option Jvm.ClassFile.FieldType)) ∈ wsG := zG 839 rfl rfl
set_option maxRecDepth 40000 in
theorem zw792 : (Jvm.Cond.methodLink "TowerFieldsModel" (132 : Nat) ({ cls := "TowerFieldsModel", name := "multiply", desc := "([I[I[I)V" } : Jvm.MethodName)) ∈ wsG := zG 840 rfl rfl
set_option maxRecDepth 40000 in
theorem zw794 : (Jvm.Cond.instanceMethod ({ cls := "TowerFieldsModel", name := "multiply", desc := "([I[I[I)V" } : Jvm.MethodName)) ∈ wsG := zG 842 rfl rfl
set_option maxRecDepth 40000 in
theorem zw795 : (Jvm.Cond.code ({ cls := "TowerFieldsModel", name := "multiply", desc := "([I[I[I)V" } : Jvm.MethodName) prog_6_method_11_code (7 : Nat) (Option.none : Option Jvm.ClassFile.FieldType)) ∈ wsG := zG 843 rfl rfl
set_option maxRecDepth 40000 in
theorem zw796 : (Jvm.Cond.methodLink "TowerFieldsModel" (72 : Nat) ({ cls := "TowerFieldsModel", name := "head", desc := "([II)I" } : Jvm.MethodName)) ∈ wsG := zG 844 rfl rfl
set_option maxRecDepth 40000 in
theorem zw797 : (Jvm.Cond.static ({ cls := "TowerFieldsModel", name := "head", desc := "([II)I" } : Jvm.MethodName)) ∈ wsG := zG 845 rfl rfl
set_option maxRecDepth 40000 in
theorem zw798 : (Jvm.Cond.code ({ cls := "TowerFieldsModel", name := "head", desc := "([II)I" } : Jvm.MethodName) prog_6_method_9_code (3 : Nat) (Option.some Jvm.ClassFile.FieldType.int)) ∈ wsG := zG 846 rfl rfl
set_option maxRecDepth 40000 in
theorem zw799 : (Jvm.Cond.methodLink "TowerFieldsModel" (136 : Nat) ({ cls := "TowerFieldsModel", name := "plus", desc := "([I[II)V" } : Jvm.MethodName)) ∈ wsG := zG 847 rfl rfl
set_option maxRecDepth 40000 in
theorem zw800 : (Jvm.Cond.static ({ cls := "TowerFieldsModel", name := "plus", desc := "([I[II)V" } : Jvm.MethodName)) ∈ wsG := zG 848 rfl rfl
set_option maxRecDepth 40000 in
theorem zw801 : (Jvm.Cond.code ({ cls := "TowerFieldsModel", name := "plus", desc := "([I[II)V" } : Jvm.MethodName) prog_6_method_12_code (4 : Nat) (Option.none : Option Jvm.ClassFile.FieldType)) ∈ wsG := zG 849 rfl rfl
set_option maxRecDepth 40000 in
theorem zw802 : (Jvm.Cond.methodLink "TowerFieldsModel" (139 : Nat) ({ cls := "TowerFieldsModel", name := "isNone", desc := "([I)Z" } : Jvm.MethodName)) ∈ wsG := zG 850 rfl rfl
set_option maxRecDepth 40000 in
theorem zw803 : (Jvm.Cond.static ({ cls := "TowerFieldsModel", name := "isNone", desc := "([I)Z" } : Jvm.MethodName)) ∈ wsG := zG 851 rfl rfl
set_option maxRecDepth 40000 in
theorem zw804 : (Jvm.Cond.code ({ cls := "TowerFieldsModel", name := "isNone", desc := "([I)Z" } : Jvm.MethodName) prog_6_method_8_code (3 : Nat) (Option.some Jvm.ClassFile.FieldType.boolean)) ∈ wsG := zG 852 rfl rfl
set_option maxRecDepth 40000 in
theorem zw805 : (Jvm.Cond.methodLink "TowerFieldsModel" (143 : Nat) ({ cls := "TowerFieldsModel", name := "copy", desc := "([I[I)V" } : Jvm.MethodName)) ∈ wsG := zG 853 rfl rfl
set_option maxRecDepth 40000 in
theorem zw806 : (Jvm.Cond.static ({ cls := "TowerFieldsModel", name := "copy", desc := "([I[I)V" } : Jvm.MethodName)) ∈ wsG := zG 854 rfl rfl
set_option maxRecDepth 40000 in
theorem zw807 : (Jvm.Cond.code ({ cls := "TowerFieldsModel", name := "copy", desc := "([I[I)V" } : Jvm.MethodName) prog_6_method_7_code (3 : Nat) (Option.none : Option Jvm.ClassFile.FieldType)) ∈ wsG := zG 855 rfl rfl
set_option maxRecDepth 40000 in
theorem zw808 : (Jvm.Cond.methodLink "TowerFieldsModel" (97 : Nat) ({ cls := "TowerFieldsModel", name := "reduce", desc := "()Z" } : Jvm.MethodName)) ∈ wsG := zG 856 rfl rfl
set_option maxRecDepth 40000 in
theorem zw810 : (Jvm.Cond.instanceMethod ({ cls := "TowerFieldsModel", name := "reduce", desc := "()Z" } : Jvm.MethodName)) ∈ wsG := zG 858 rfl rfl
set_option maxRecDepth 40000 in
theorem zw811 : (Jvm.Cond.code ({ cls := "TowerFieldsModel", name := "reduce", desc := "()Z" } : Jvm.MethodName) prog_6_method_14_code (3 : Nat) (Option.some Jvm.ClassFile.FieldType.boolean)) ∈ wsG := zG 859 rfl rfl
set_option maxRecDepth 40000 in
theorem zw812 : (Jvm.Cond.methodLink "TowerFieldsModel" (83 : Nat) ({ cls := "TowerFieldsModel", name := "hangs", desc := "([III)Z" } : Jvm.MethodName)) ∈ wsG := zG 860 rfl rfl
set_option maxRecDepth 40000 in
theorem zw814 : (Jvm.Cond.instanceMethod ({ cls := "TowerFieldsModel", name := "hangs", desc := "([III)Z" } : Jvm.MethodName)) ∈ wsG := zG 862 rfl rfl
set_option maxRecDepth 40000 in
theorem zw815 : (Jvm.Cond.code ({ cls := "TowerFieldsModel", name := "hangs", desc := "([III)Z" } : Jvm.MethodName) prog_6_method_15_code (8 : Nat) (Option.some Jvm.ClassFile.FieldType.boolean)) ∈ wsG := zG 863 rfl rfl
set_option maxRecDepth 40000 in
theorem zw816 : (Jvm.Cond.methodLink "TowerFieldsModel" (87 : Nat) ({ cls := "TowerFieldsModel", name := "settle", desc := "()V" } : Jvm.MethodName)) ∈ wsG := zG 864 rfl rfl
set_option maxRecDepth 40000 in
theorem zw818 : (Jvm.Cond.instanceMethod ({ cls := "TowerFieldsModel", name := "settle", desc := "()V" } : Jvm.MethodName)) ∈ wsG := zG 866 rfl rfl
set_option maxRecDepth 40000 in
theorem zw819 : (Jvm.Cond.code ({ cls := "TowerFieldsModel", name := "settle", desc := "()V" } : Jvm.MethodName) prog_6_method_16_code (3 : Nat) (Option.none : Option Jvm.ClassFile.FieldType)) ∈ wsG := zG 867 rfl rfl
set_option maxRecDepth 40000 in
theorem zw820 : (Jvm.Cond.methodLink "TowerFieldsModel" (147 : Nat) ({ cls := "TowerFieldsModel", name := "letterItself", desc := "()I" } : Jvm.MethodName)) ∈ wsG := zG 868 rfl rfl
set_option maxRecDepth 40000 in
theorem zw822 : (Jvm.Cond.instanceMethod ({ cls := "TowerFieldsModel", name := "letterItself", desc := "()I" } : Jvm.MethodName)) ∈ wsG := zG 870 rfl rfl
set_option maxRecDepth 40000 in
theorem zw823 : (Jvm.Cond.code ({ cls := "TowerFieldsModel", name := "letterItself", desc := "()I" } : Jvm.MethodName) prog_6_method_24_code (1 : Nat) (Option.some Jvm.ClassFile.FieldType.int)) ∈ wsG := zG 871 rfl rfl
set_option maxRecDepth 40000 in
theorem zw824 : (Jvm.Cond.methodLink "TowerFieldsLaw" (97 : Nat) ({ cls := "TowerFieldsModel", name := "top", desc := "()I" } : Jvm.MethodName)) ∈ wsG := zG 872 rfl rfl
set_option maxRecDepth 40000 in
theorem zw825 : (Jvm.Cond.instanceMethod ({ cls := "TowerFieldsModel", name := "top", desc := "()I" } : Jvm.MethodName)) ∈ wsG := zG 873 rfl rfl
set_option maxRecDepth 40000 in
theorem zw826 : (Jvm.Cond.selects "TowerFieldsModel" ({ cls := "TowerFieldsModel", name := "top", desc := "()I" } : Jvm.MethodName) ({ cls := "TowerFieldsModel", name := "top", desc := "()I" } : Jvm.MethodName)) ∈ wsG := zG 874 rfl rfl
set_option maxRecDepth 40000 in
theorem zw827 : (Jvm.Cond.code ({ cls := "TowerFieldsModel", name := "top", desc := "()I" } : Jvm.MethodName) prog_6_method_27_code (1 : Nat) (Option.some Jvm.ClassFile.FieldType.int)) ∈ wsG := zG 875 rfl rfl
set_option maxRecDepth 40000 in
theorem zw828 : (Jvm.Cond.methodLink "TowerFieldsLaw" (100 : Nat) ({ cls := "TowerFieldsModel", name := "add", desc := "(II)I" } : Jvm.MethodName)) ∈ wsG := zG 876 rfl rfl
set_option maxRecDepth 40000 in
theorem zw829 : (Jvm.Cond.instanceMethod ({ cls := "TowerFieldsModel", name := "add", desc := "(II)I" } : Jvm.MethodName)) ∈ wsG := zG 877 rfl rfl
set_option maxRecDepth 40000 in
theorem zw830 : (Jvm.Cond.selects "TowerFieldsModel" ({ cls := "TowerFieldsModel", name := "add", desc := "(II)I" } : Jvm.MethodName) ({ cls := "TowerFieldsModel", name := "add", desc := "(II)I" } : Jvm.MethodName)) ∈ wsG := zG 878 rfl rfl
set_option maxRecDepth 40000 in
theorem zw831 : (Jvm.Cond.code ({ cls := "TowerFieldsModel", name := "add", desc := "(II)I" } : Jvm.MethodName) prog_6_method_29_code (3 : Nat) (Option.some Jvm.ClassFile.FieldType.int)) ∈ wsG := zG 879 rfl rfl
set_option maxRecDepth 40000 in
theorem zw832 : (Jvm.Cond.methodLink "TowerFieldsModel" (153 : Nat) ({ cls := "TowerFieldsModel", name := "sum", desc := "(III)I" } : Jvm.MethodName)) ∈ wsG := zG 880 rfl rfl
set_option maxRecDepth 40000 in
theorem zw834 : (Jvm.Cond.instanceMethod ({ cls := "TowerFieldsModel", name := "sum", desc := "(III)I" } : Jvm.MethodName)) ∈ wsG := zG 882 rfl rfl
set_option maxRecDepth 40000 in
theorem zw835 : (Jvm.Cond.code ({ cls := "TowerFieldsModel", name := "sum", desc := "(III)I" } : Jvm.MethodName) prog_6_method_28_code (4 : Nat) (Option.some Jvm.ClassFile.FieldType.int)) ∈ wsG := zG 883 rfl rfl
set_option maxRecDepth 40000 in
theorem zw836 : (Jvm.Cond.methodLink "TowerFieldsModel" (150 : Nat) ({ cls := "TowerFieldsModel", name := "made", desc := "(I)I" } : Jvm.MethodName)) ∈ wsG := zG 884 rfl rfl
set_option maxRecDepth 40000 in
theorem zw838 : (Jvm.Cond.instanceMethod ({ cls := "TowerFieldsModel", name := "made", desc := "(I)I" } : Jvm.MethodName)) ∈ wsG := zG 886 rfl rfl
set_option maxRecDepth 40000 in
theorem zw839 : (Jvm.Cond.code ({ cls := "TowerFieldsModel", name := "made", desc := "(I)I" } : Jvm.MethodName) prog_6_method_18_code (2 : Nat) (Option.some Jvm.ClassFile.FieldType.int)) ∈ wsG := zG 887 rfl rfl
set_option maxRecDepth 40000 in
theorem zw840 : (Jvm.Cond.methodLink "TowerFieldsLaw" (103 : Nat) ({ cls := "TowerFieldsModel", name := "less", desc := "(II)I" } : Jvm.MethodName)) ∈ wsG := zG 888 rfl rfl
set_option maxRecDepth 40000 in
theorem zw841 : (Jvm.Cond.instanceMethod ({ cls := "TowerFieldsModel", name := "less", desc := "(II)I" } : Jvm.MethodName)) ∈ wsG := zG 889 rfl rfl
set_option maxRecDepth 40000 in
theorem zw842 : (Jvm.Cond.selects "TowerFieldsModel" ({ cls := "TowerFieldsModel", name := "less", desc := "(II)I" } : Jvm.MethodName) ({ cls := "TowerFieldsModel", name := "less", desc := "(II)I" } : Jvm.MethodName)) ∈ wsG := zG 890 rfl rfl
set_option maxRecDepth 40000 in
theorem zw843 : (Jvm.Cond.code ({ cls := "TowerFieldsModel", name := "less", desc := "(II)I" } : Jvm.MethodName) prog_6_method_30_code (3 : Nat) (Option.some Jvm.ClassFile.FieldType.int)) ∈ wsG := zG 891 rfl rfl
set_option maxRecDepth 40000 in
theorem zw844 : (Jvm.Cond.methodLink "TowerFieldsLaw" (106 : Nat) ({ cls := "TowerFieldsModel", name := "times", desc := "(II)I" } : Jvm.MethodName)) ∈ wsG := zG 892 rfl rfl
set_option maxRecDepth 40000 in
theorem zw845 : (Jvm.Cond.instanceMethod ({ cls := "TowerFieldsModel", name := "times", desc := "(II)I" } : Jvm.MethodName)) ∈ wsG := zG 893 rfl rfl
set_option maxRecDepth 40000 in
theorem zw846 : (Jvm.Cond.selects "TowerFieldsModel" ({ cls := "TowerFieldsModel", name := "times", desc := "(II)I" } : Jvm.MethodName) ({ cls := "TowerFieldsModel", name := "times", desc := "(II)I" } : Jvm.MethodName)) ∈ wsG := zG 894 rfl rfl
set_option maxRecDepth 40000 in
theorem zw847 : (Jvm.Cond.code ({ cls := "TowerFieldsModel", name := "times", desc := "(II)I" } : Jvm.MethodName) prog_6_method_31_code (3 : Nat) (Option.some Jvm.ClassFile.FieldType.int)) ∈ wsG := zG 895 rfl rfl
set_option maxRecDepth 40000 in
theorem zw848 : (Jvm.Cond.methodLink "TowerFieldsLaw" (109 : Nat) ({ cls := "TowerFieldsModel", name := "over", desc := "(II)I" } : Jvm.MethodName)) ∈ wsG := zG 896 rfl rfl
set_option maxRecDepth 40000 in
theorem zw849 : (Jvm.Cond.instanceMethod ({ cls := "TowerFieldsModel", name := "over", desc := "(II)I" } : Jvm.MethodName)) ∈ wsG := zG 897 rfl rfl
set_option maxRecDepth 40000 in
theorem zw850 : (Jvm.Cond.selects "TowerFieldsModel" ({ cls := "TowerFieldsModel", name := "over", desc := "(II)I" } : Jvm.MethodName) ({ cls := "TowerFieldsModel", name := "over", desc := "(II)I" } : Jvm.MethodName)) ∈ wsG := zG 898 rfl rfl
set_option maxRecDepth 40000 in
theorem zw851 : (Jvm.Cond.code ({ cls := "TowerFieldsModel", name := "over", desc := "(II)I" } : Jvm.MethodName) prog_6_method_32_code (3 : Nat) (Option.some Jvm.ClassFile.FieldType.int)) ∈ wsG := zG 899 rfl rfl
set_option maxRecDepth 40000 in
theorem zw852 : (Jvm.Cond.methodLink "TowerFieldsLaw" (113 : Nat) ({ cls := "TowerFieldsModel", name := "derive", desc := "(I)I" } : Jvm.MethodName)) ∈ wsG := zG 900 rfl rfl
set_option maxRecDepth 40000 in
theorem zw853 : (Jvm.Cond.instanceMethod ({ cls := "TowerFieldsModel", name := "derive", desc := "(I)I" } : Jvm.MethodName)) ∈ wsG := zG 901 rfl rfl
set_option maxRecDepth 40000 in
theorem zw854 : (Jvm.Cond.selects "TowerFieldsModel" ({ cls := "TowerFieldsModel", name := "derive", desc := "(I)I" } : Jvm.MethodName) ({ cls := "TowerFieldsModel", name := "derive", desc := "(I)I" } : Jvm.MethodName)) ∈ wsG := zG 902 rfl rfl
set_option maxRecDepth 40000 in
theorem zw855 : (Jvm.Cond.code ({ cls := "TowerFieldsModel", name := "derive", desc := "(I)I" } : Jvm.MethodName) prog_6_method_36_code (2 : Nat) (Option.some Jvm.ClassFile.FieldType.int)) ∈ wsG := zG 903 rfl rfl
set_option maxRecDepth 40000 in
theorem zw856 : (Jvm.Cond.methodLink "TowerFieldsModel" (160 : Nat) ({ cls := "TowerFieldsModel", name := "deriveUp", desc := "(I)V" } : Jvm.MethodName)) ∈ wsG := zG 904 rfl rfl
set_option maxRecDepth 40000 in
theorem zw858 : (Jvm.Cond.instanceMethod ({ cls := "TowerFieldsModel", name := "deriveUp", desc := "(I)V" } : Jvm.MethodName)) ∈ wsG := zG 906 rfl rfl
set_option maxRecDepth 40000 in
theorem zw859 : (Jvm.Cond.code ({ cls := "TowerFieldsModel", name := "deriveUp", desc := "(I)V" } : Jvm.MethodName) prog_6_method_34_code (2 : Nat) (Option.none : Option Jvm.ClassFile.FieldType)) ∈ wsG := zG 907 rfl rfl
set_option maxRecDepth 40000 in
theorem zw860 : (Jvm.Cond.methodLink "TowerFieldsModel" (157 : Nat) ({ cls := "TowerFieldsModel", name := "deriveRow", desc := "([I[I)V" } : Jvm.MethodName)) ∈ wsG := zG 908 rfl rfl
set_option maxRecDepth 40000 in
theorem zw862 : (Jvm.Cond.instanceMethod ({ cls := "TowerFieldsModel", name := "deriveRow", desc := "([I[I)V" } : Jvm.MethodName)) ∈ wsG := zG 910 rfl rfl
set_option maxRecDepth 40000 in
theorem zw863 : (Jvm.Cond.code ({ cls := "TowerFieldsModel", name := "deriveRow", desc := "([I[I)V" } : Jvm.MethodName) prog_6_method_33_code (3 : Nat) (Option.none : Option Jvm.ClassFile.FieldType)) ∈ wsG := zG 911 rfl rfl
set_option maxRecDepth 40000 in
theorem zw864 : (Jvm.Cond.methodLink "TowerFieldsModel" (164 : Nat) ({ cls := "TowerFieldsModel", name := "finish", desc := "([I[I)V" } : Jvm.MethodName)) ∈ wsG := zG 912 rfl rfl
set_option maxRecDepth 40000 in
theorem zw866 : (Jvm.Cond.instanceMethod ({ cls := "TowerFieldsModel", name := "finish", desc := "([I[I)V" } : Jvm.MethodName)) ∈ wsG := zG 914 rfl rfl
set_option maxRecDepth 40000 in
theorem zw867 : (Jvm.Cond.code ({ cls := "TowerFieldsModel", name := "finish", desc := "([I[I)V" } : Jvm.MethodName) prog_6_method_35_code (3 : Nat) (Option.none : Option Jvm.ClassFile.FieldType)) ∈ wsG := zG 915 rfl rfl
set_option maxRecDepth 40000 in
theorem zw868 : (Jvm.Cond.methodLink "TowerFieldsLaw" (116 : Nat) ({ cls := "TowerFieldsModel", name := "logarithmic", desc := "(I)I" } : Jvm.MethodName)) ∈ wsG := zG 916 rfl rfl
set_option maxRecDepth 40000 in
theorem zw869 : (Jvm.Cond.instanceMethod ({ cls := "TowerFieldsModel", name := "logarithmic", desc := "(I)I" } : Jvm.MethodName)) ∈ wsG := zG 917 rfl rfl
set_option maxRecDepth 40000 in
theorem zw870 : (Jvm.Cond.selects "TowerFieldsModel" ({ cls := "TowerFieldsModel", name := "logarithmic", desc := "(I)I" } : Jvm.MethodName) ({ cls := "TowerFieldsModel", name := "logarithmic", desc := "(I)I" } : Jvm.MethodName)) ∈ wsG := zG 918 rfl rfl
set_option maxRecDepth 40000 in
theorem zw871 : (Jvm.Cond.code ({ cls := "TowerFieldsModel", name := "logarithmic", desc := "(I)I" } : Jvm.MethodName) prog_6_method_37_code (2 : Nat) (Option.some Jvm.ClassFile.FieldType.int)) ∈ wsG := zG 919 rfl rfl
set_option maxRecDepth 40000 in
theorem zw872 : (Jvm.Cond.methodLink "TowerFieldsLaw" (122 : Nat) ({ cls := "TowerFieldsModel", name := "common", desc := "(II)I" } : Jvm.MethodName)) ∈ wsG := zG 920 rfl rfl
set_option maxRecDepth 40000 in
theorem zw873 : (Jvm.Cond.instanceMethod ({ cls := "TowerFieldsModel", name := "common", desc := "(II)I" } : Jvm.MethodName)) ∈ wsG := zG 921 rfl rfl
set_option maxRecDepth 40000 in
theorem zw874 : (Jvm.Cond.selects "TowerFieldsModel" ({ cls := "TowerFieldsModel", name := "common", desc := "(II)I" } : Jvm.MethodName) ({ cls := "TowerFieldsModel", name := "common", desc := "(II)I" } : Jvm.MethodName)) ∈ wsG := zG 922 rfl rfl
set_option maxRecDepth 40000 in
theorem zw875 : (Jvm.Cond.code ({ cls := "TowerFieldsModel", name := "common", desc := "(II)I" } : Jvm.MethodName) prog_6_method_41_code (3 : Nat) (Option.some Jvm.ClassFile.FieldType.int)) ∈ wsG := zG 923 rfl rfl
set_option maxRecDepth 40000 in
theorem zw876 : (Jvm.Cond.methodLink "TowerFieldsModel" (173 : Nat) ({ cls := "TowerFieldsModel", name := "shared", desc := "()V" } : Jvm.MethodName)) ∈ wsG := zG 924 rfl rfl
set_option maxRecDepth 40000 in
theorem zw878 : (Jvm.Cond.instanceMethod ({ cls := "TowerFieldsModel", name := "shared", desc := "()V" } : Jvm.MethodName)) ∈ wsG := zG 926 rfl rfl
set_option maxRecDepth 40000 in
theorem zw879 : (Jvm.Cond.code ({ cls := "TowerFieldsModel", name := "shared", desc := "()V" } : Jvm.MethodName) prog_6_method_40_code (1 : Nat) (Option.none : Option Jvm.ClassFile.FieldType)) ∈ wsG := zG 927 rfl rfl
set_option maxRecDepth 40000 in
theorem zw880 : (Jvm.Cond.methodLink "TowerFieldsModel" (167 : Nat) ({ cls := "TowerFieldsModel", name := "makeMonic", desc := "([I)V" } : Jvm.MethodName)) ∈ wsG := zG 928 rfl rfl
set_option maxRecDepth 40000 in
theorem zw882 : (Jvm.Cond.instanceMethod ({ cls := "TowerFieldsModel", name := "makeMonic", desc := "([I)V" } : Jvm.MethodName)) ∈ wsG := zG 930 rfl rfl
set_option maxRecDepth 40000 in
theorem zw883 : (Jvm.Cond.code ({ cls := "TowerFieldsModel", name := "makeMonic", desc := "([I)V" } : Jvm.MethodName) prog_6_method_39_code (5 : Nat) (Option.none : Option Jvm.ClassFile.FieldType)) ∈ wsG := zG 931 rfl rfl
set_option maxRecDepth 40000 in
theorem zw884 : (Jvm.Cond.methodLink "TowerFieldsModel" (170 : Nat) ({ cls := "TowerFieldsModel", name := "divide", desc := "([I)V" } : Jvm.MethodName)) ∈ wsG := zG 932 rfl rfl
set_option maxRecDepth 40000 in
theorem zw886 : (Jvm.Cond.instanceMethod ({ cls := "TowerFieldsModel", name := "divide", desc := "([I)V" } : Jvm.MethodName)) ∈ wsG := zG 934 rfl rfl
set_option maxRecDepth 40000 in
theorem zw887 : (Jvm.Cond.code ({ cls := "TowerFieldsModel", name := "divide", desc := "([I)V" } : Jvm.MethodName) prog_6_method_38_code (7 : Nat) (Option.none : Option Jvm.ClassFile.FieldType)) ∈ wsG := zG 935 rfl rfl
set_option maxRecDepth 40000 in
theorem zw888 : (Jvm.Cond.methodLink "TowerFieldsLaw" (119 : Nat) ({ cls := "TowerFieldsModel", name := "part", desc := "(II)I" } : Jvm.MethodName)) ∈ wsG := zG 936 rfl rfl
set_option maxRecDepth 40000 in
theorem zw889 : (Jvm.Cond.instanceMethod ({ cls := "TowerFieldsModel", name := "part", desc := "(II)I" } : Jvm.MethodName)) ∈ wsG := zG 937 rfl rfl
set_option maxRecDepth 40000 in
theorem zw890 : (Jvm.Cond.selects "TowerFieldsModel" ({ cls := "TowerFieldsModel", name := "part", desc := "(II)I" } : Jvm.MethodName) ({ cls := "TowerFieldsModel", name := "part", desc := "(II)I" } : Jvm.MethodName)) ∈ wsG := zG 938 rfl rfl
set_option maxRecDepth 40000 in
theorem zw891 : (Jvm.Cond.code ({ cls := "TowerFieldsModel", name := "part", desc := "(II)I" } : Jvm.MethodName) prog_6_method_43_code (5 : Nat) (Option.some Jvm.ClassFile.FieldType.int)) ∈ wsG := zG 939 rfl rfl
set_option maxRecDepth 40000 in
theorem zw892 : (Jvm.Cond.methodLink "TowerFieldsModel" (176 : Nat) ({ cls := "TowerFieldsModel", name := "bare", desc := "()V" } : Jvm.MethodName)) ∈ wsG := zG 940 rfl rfl
set_option maxRecDepth 40000 in
theorem zw894 : (Jvm.Cond.instanceMethod ({ cls := "TowerFieldsModel", name := "bare", desc := "()V" } : Jvm.MethodName)) ∈ wsG := zG 942 rfl rfl
set_option maxRecDepth 40000 in
theorem zw895 : (Jvm.Cond.code ({ cls := "TowerFieldsModel", name := "bare", desc := "()V" } : Jvm.MethodName) prog_6_method_42_code (4 : Nat) (Option.none : Option Jvm.ClassFile.FieldType)) ∈ wsG := zG 943 rfl rfl
set_option maxRecDepth 40000 in
theorem zw896 : (Jvm.Cond.methodLink "TowerFieldsLaw" (125 : Nat) ({ cls := "TowerFieldsModel", name := "same", desc := "(II)Z" } : Jvm.MethodName)) ∈ wsG := zG 944 rfl rfl
set_option maxRecDepth 40000 in
theorem zw897 : (Jvm.Cond.instanceMethod ({ cls := "TowerFieldsModel", name := "same", desc := "(II)Z" } : Jvm.MethodName)) ∈ wsG := zG 945 rfl rfl
set_option maxRecDepth 40000 in
theorem zw898 : (Jvm.Cond.selects "TowerFieldsModel" ({ cls := "TowerFieldsModel", name := "same", desc := "(II)Z" } : Jvm.MethodName) ({ cls := "TowerFieldsModel", name := "same", desc := "(II)Z" } : Jvm.MethodName)) ∈ wsG := zG 946 rfl rfl
set_option maxRecDepth 40000 in
theorem zw899 : (Jvm.Cond.code ({ cls := "TowerFieldsModel", name := "same", desc := "(II)Z" } : Jvm.MethodName) prog_6_method_44_code (5 : Nat) (Option.some Jvm.ClassFile.FieldType.boolean)) ∈ wsG := zG 947 rfl rfl
set_option maxRecDepth 40000 in
theorem zw900 : (Jvm.Cond.methodLink "TowerFieldsLaw" (128 : Nat) ({ cls := "TowerFieldsModel", name := "constant", desc := "(I)Z" } : Jvm.MethodName)) ∈ wsG := zG 948 rfl rfl
set_option maxRecDepth 40000 in
theorem zw901 : (Jvm.Cond.instanceMethod ({ cls := "TowerFieldsModel", name := "constant", desc := "(I)Z" } : Jvm.MethodName)) ∈ wsG := zG 949 rfl rfl
set_option maxRecDepth 40000 in
theorem zw902 : (Jvm.Cond.selects "TowerFieldsModel" ({ cls := "TowerFieldsModel", name := "constant", desc := "(I)Z" } : Jvm.MethodName) ({ cls := "TowerFieldsModel", name := "constant", desc := "(I)Z" } : Jvm.MethodName)) ∈ wsG := zG 950 rfl rfl
set_option maxRecDepth 40000 in
theorem zw903 : (Jvm.Cond.code ({ cls := "TowerFieldsModel", name := "constant", desc := "(I)Z" } : Jvm.MethodName) prog_6_method_45_code (2 : Nat) (Option.some Jvm.ClassFile.FieldType.boolean)) ∈ wsG := zG 951 rfl rfl
set_option maxRecDepth 40000 in
theorem zw904 : (Jvm.Cond.methodLink "TowerFieldsLaw" (131 : Nat) ({ cls := "TowerFieldsModel", name := "low", desc := "(I)Z" } : Jvm.MethodName)) ∈ wsG := zG 952 rfl rfl
set_option maxRecDepth 40000 in
theorem zw905 : (Jvm.Cond.instanceMethod ({ cls := "TowerFieldsModel", name := "low", desc := "(I)Z" } : Jvm.MethodName)) ∈ wsG := zG 953 rfl rfl
set_option maxRecDepth 40000 in
theorem zw906 : (Jvm.Cond.selects "TowerFieldsModel" ({ cls := "TowerFieldsModel", name := "low", desc := "(I)Z" } : Jvm.MethodName) ({ cls := "TowerFieldsModel", name := "low", desc := "(I)Z" } : Jvm.MethodName)) ∈ wsG := zG 954 rfl rfl
set_option maxRecDepth 40000 in
theorem zw907 : (Jvm.Cond.code ({ cls := "TowerFieldsModel", name := "low", desc := "(I)Z" } : Jvm.MethodName) prog_6_method_46_code (2 : Nat) (Option.some Jvm.ClassFile.FieldType.boolean)) ∈ wsG := zG 955 rfl rfl
set_option maxRecDepth 40000 in
theorem zw908 : (Jvm.Cond.methodLink "TowerFieldsLaw" (135 : Nat) ({ cls := "TowerFieldsModel", name := "at", desc := "(IIII)I" } : Jvm.MethodName)) ∈ wsG := zG 956 rfl rfl
set_option maxRecDepth 40000 in
theorem zw909 : (Jvm.Cond.instanceMethod ({ cls := "TowerFieldsModel", name := "at", desc := "(IIII)I" } : Jvm.MethodName)) ∈ wsG := zG 957 rfl rfl
set_option maxRecDepth 40000 in
theorem zw910 : (Jvm.Cond.selects "TowerFieldsModel" ({ cls := "TowerFieldsModel", name := "at", desc := "(IIII)I" } : Jvm.MethodName) ({ cls := "TowerFieldsModel", name := "at", desc := "(IIII)I" } : Jvm.MethodName)) ∈ wsG := zG 958 rfl rfl
set_option maxRecDepth 40000 in
theorem zw911 : (Jvm.Cond.code ({ cls := "TowerFieldsModel", name := "at", desc := "(IIII)I" } : Jvm.MethodName) prog_6_method_47_code (5 : Nat) (Option.some Jvm.ClassFile.FieldType.int)) ∈ wsG := zG 959 rfl rfl
set_option maxRecDepth 40000 in
theorem zw912 : (Jvm.Cond.methodLink "TowerFieldsLaw" (139 : Nat) ({ cls := "TowerFieldsModel", name := "count", desc := "()I" } : Jvm.MethodName)) ∈ wsG := zG 960 rfl rfl
set_option maxRecDepth 40000 in
theorem zw913 : (Jvm.Cond.instanceMethod ({ cls := "TowerFieldsModel", name := "count", desc := "()I" } : Jvm.MethodName)) ∈ wsG := zG 961 rfl rfl
set_option maxRecDepth 40000 in
theorem zw914 : (Jvm.Cond.selects "TowerFieldsModel" ({ cls := "TowerFieldsModel", name := "count", desc := "()I" } : Jvm.MethodName) ({ cls := "TowerFieldsModel", name := "count", desc := "()I" } : Jvm.MethodName)) ∈ wsG := zG 962 rfl rfl
set_option maxRecDepth 40000 in
theorem zw915 : (Jvm.Cond.code ({ cls := "TowerFieldsModel", name := "count", desc := "()I" } : Jvm.MethodName) prog_6_method_48_code (1 : Nat) (Option.some Jvm.ClassFile.FieldType.int)) ∈ wsG := zG 963 rfl rfl
set_option maxRecDepth 40000 in
theorem zw916 : (Jvm.Cond.constantLong "TowerFieldsLaw" (76 : Nat) (4294967295 : Int64)) ∈ wsG := zG 964 rfl rfl
set_option maxRecDepth 40000 in
theorem zw917 : (Jvm.Cond.arrayClass Jvm.ClassFile.FieldType.long) ∈ wsG := zG 965 rfl rfl
