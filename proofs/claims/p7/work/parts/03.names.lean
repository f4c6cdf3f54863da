/-! NAMES, written by wip/gen/mknames.py out of claim/JAVAP.txt and claim/Statement.lean -/
/-- the good words of the tables: every method's words are these, its own code ahead -/
def AW : List Cond := lw_tbl.filter goodWord
theorem aw_mem {i : Nat} {w : Cond} (h : tables_1[i]? = some w) (g : goodWord w = true) : w ∈ AW := List.mem_filter.mpr ⟨List.mem_append_right _ (List.mem_of_getElem? h), g⟩
theorem aw_sel {i : Nat} {w : Cond} (h : (k2_sels lw_privs)[i]? = some w) (g : goodWord w = true) : w ∈ AW := List.mem_filter.mpr ⟨List.mem_append_left _ (List.mem_of_getElem? h), g⟩
theorem aw_tbl {w : Cond} (h : w ∈ AW) : w ∈ lw_tbl := (List.mem_filter.mp h).1
theorem aw_gd {w : Cond} (h : w ∈ AW) : (w.onTables && w.keeps) = true ∨ ∃ ty, w = .arrayClass ty := good_of_word (List.mem_filter.mp h).2
theorem mm {w w0 : Cond} (h : w ∈ AW) : w ∈ w0 :: AW := List.mem_cons_of_mem _ h
theorem aw_G {w0 cd : Cond} (h : cd ∈ AW) : GoodIn (w0 :: AW) (cd :: AW) := fun w hw => (List.mem_cons.mp hw).elim (fun e => by rw [e]; exact ⟨mm h, aw_gd h⟩) (fun h => ⟨mm h, aw_gd h⟩)
theorem aw_V {w0 cd : Cond} {own : String} {idx : Nat} {C : String} {y : MethodName} (h1 : .methodLink own idx y ∈ AW) (h2 : .instanceMethod y ∈ AW) (h3 : .selects C y y ∈ AW) (h4 : .initialized C ∈ AW) (h5 : cd ∈ AW) : GoodIn (w0 :: AW) (wsV own idx C y (cd :: AW)) := by
  intro w hw
  rcases List.mem_append.mp hw with h | h
  · simp only [List.mem_cons, List.not_mem_nil, or_false] at h
    rcases h with h | h | h | h
    · rw [h]; exact ⟨mm h1, aw_gd h1⟩
    · rw [h]; exact ⟨mm h2, aw_gd h2⟩
    · rw [h]; exact ⟨mm h3, aw_gd h3⟩
    · rw [h]; exact ⟨mm h4, aw_gd h4⟩
  · exact aw_G h5 w h
theorem aw_S {w0 cd : Cond} {own : String} {idx : Nat} {y : MethodName} (h1 : .methodLink own idx y ∈ AW) (h2 : .static y ∈ AW) (h4 : .initialized own ∈ AW) (h5 : cd ∈ AW) : GoodIn (w0 :: AW) (wsS own idx y (cd :: AW)) := by
  intro w hw
  rcases List.mem_append.mp hw with h | h
  · simp only [List.mem_cons, List.not_mem_nil, or_false] at h
    rcases h with h | h | h
    · rw [h]; exact ⟨mm h1, aw_gd h1⟩
    · rw [h]; exact ⟨mm h2, aw_gd h2⟩
    · rw [h]; exact ⟨mm h4, aw_gd h4⟩
  · exact aw_G h5 w h

theorem aw_0 : (Jvm.Cond.initialized "ProducerBookLaw" : Cond) ∈ AW := aw_mem (i := 0) rfl rfl
theorem aw_1 : (Jvm.Cond.initialized "ProducerBook" : Cond) ∈ AW := aw_mem (i := 1) rfl rfl
theorem aw_2 : (Jvm.Cond.initialized "ProducerBook$Log" : Cond) ∈ AW := aw_mem (i := 2) rfl rfl
theorem aw_3 : (Jvm.Cond.initialized "ProducerBook$Known" : Cond) ∈ AW := aw_mem (i := 3) rfl rfl
theorem aw_4 : (Jvm.Cond.initialized "ProducerBookModel" : Cond) ∈ AW := aw_mem (i := 4) rfl rfl
theorem aw_5 : (Jvm.Cond.initialized "java/lang/Throwable" : Cond) ∈ AW := aw_mem (i := 5) rfl rfl
theorem aw_6 : (Jvm.Cond.initialized "java/lang/Exception" : Cond) ∈ AW := aw_mem (i := 6) rfl rfl
theorem aw_7 : (Jvm.Cond.initialized "java/lang/RuntimeException" : Cond) ∈ AW := aw_mem (i := 7) rfl rfl
theorem aw_8 : (Jvm.Cond.initialized "java/lang/IllegalArgumentException" : Cond) ∈ AW := aw_mem (i := 8) rfl rfl
theorem aw_9 : (Jvm.Cond.initialized "java/lang/IllegalStateException" : Cond) ∈ AW := aw_mem (i := 9) rfl rfl
theorem aw_10 : (Jvm.Cond.initialized "java/lang/Math" : Cond) ∈ AW := aw_mem (i := 10) rfl rfl
theorem aw_11 : (Jvm.Cond.initialized "java/lang/System" : Cond) ∈ AW := aw_mem (i := 11) rfl rfl
theorem aw_12 : (Jvm.Cond.classLink "ProducerBookLaw" (8 : Nat) "ProducerBook" : Cond) ∈ AW := aw_mem (i := 12) rfl rfl
theorem aw_13 : (Jvm.Cond.instantiable "ProducerBook" (2 : Nat) : Cond) ∈ AW := aw_mem (i := 13) rfl rfl
theorem aw_14 : (Jvm.Cond.methodLink "ProducerBookLaw" (36 : Nat) ({ cls := "ProducerBook", name := "<init>", desc := "()V" } : Jvm.MethodName) : Cond) ∈ AW := aw_mem (i := 14) rfl rfl
theorem aw_15 : (Jvm.Cond.instanceMethod ({ cls := "ProducerBook", name := "<init>", desc := "()V" } : Jvm.MethodName) : Cond) ∈ AW := aw_mem (i := 15) rfl rfl
theorem aw_16 : (Jvm.Cond.code ({ cls := "ProducerBook", name := "<init>", desc := "()V" } : Jvm.MethodName) prog_1_method_1_code (1 : Nat) (Option.none : Option Jvm.ClassFile.FieldType) : Cond) ∈ AW := aw_mem (i := 16) rfl rfl
theorem aw_17 : (Jvm.Cond.methodLink "ProducerBook" (1 : Nat) ({ cls := "java/lang/Object", name := "<init>", desc := "()V" } : Jvm.MethodName) : Cond) ∈ AW := aw_mem (i := 17) rfl rfl
theorem aw_18 : (Jvm.Cond.instanceMethod ({ cls := "java/lang/Object", name := "<init>", desc := "()V" } : Jvm.MethodName) : Cond) ∈ AW := aw_mem (i := 18) rfl rfl
theorem aw_19 : (Jvm.Cond.code ({ cls := "java/lang/Object", name := "<init>", desc := "()V" } : Jvm.MethodName) object_method_1_code (1 : Nat) (Option.none : Option Jvm.ClassFile.FieldType) : Cond) ∈ AW := aw_mem (i := 19) rfl rfl
theorem aw_20 : (Jvm.Cond.classLink "ProducerBook" (7 : Nat) "ProducerBook$Log" : Cond) ∈ AW := aw_mem (i := 20) rfl rfl
theorem aw_21 : (Jvm.Cond.instantiable "ProducerBook$Log" (8 : Nat) : Cond) ∈ AW := aw_mem (i := 21) rfl rfl
theorem aw_23 : (Jvm.Cond.instanceMethod ({ cls := "ProducerBook$Log", name := "<init>", desc := "()V" } : Jvm.MethodName) : Cond) ∈ AW := aw_mem (i := 23) rfl rfl
theorem aw_24 : (Jvm.Cond.code ({ cls := "ProducerBook$Log", name := "<init>", desc := "()V" } : Jvm.MethodName) prog_3_method_1_code (1 : Nat) (Option.none : Option Jvm.ClassFile.FieldType) : Cond) ∈ AW := aw_mem (i := 24) rfl rfl
theorem aw_25 : (Jvm.Cond.methodLink "ProducerBook$Log" (3 : Nat) ({ cls := "java/lang/Object", name := "<init>", desc := "()V" } : Jvm.MethodName) : Cond) ∈ AW := aw_mem (i := 25) rfl rfl
theorem aw_26 : (Jvm.Cond.fieldLink "ProducerBook$Log" (9 : Nat) "ProducerBook$Log" "base" "[I" : Cond) ∈ AW := aw_mem (i := 26) rfl rfl
theorem aw_27 : (Jvm.Cond.fieldLink "ProducerBook" (89 : Nat) "ProducerBook$Log" "base" "[I" : Cond) ∈ AW := aw_mem (i := 27) rfl rfl
theorem aw_28 : (Jvm.Cond.fieldLink "ProducerBook$Log" (15 : Nat) "ProducerBook$Log" "producer" "[J" : Cond) ∈ AW := aw_mem (i := 28) rfl rfl
theorem aw_29 : (Jvm.Cond.fieldLink "ProducerBook" (97 : Nat) "ProducerBook$Log" "producer" "[J" : Cond) ∈ AW := aw_mem (i := 29) rfl rfl
theorem aw_30 : (Jvm.Cond.fieldLink "ProducerBook$Log" (19 : Nat) "ProducerBook$Log" "epoch" "[I" : Cond) ∈ AW := aw_mem (i := 30) rfl rfl
theorem aw_31 : (Jvm.Cond.fieldLink "ProducerBook" (79 : Nat) "ProducerBook$Log" "epoch" "[I" : Cond) ∈ AW := aw_mem (i := 31) rfl rfl
theorem aw_32 : (Jvm.Cond.fieldLink "ProducerBook$Log" (22 : Nat) "ProducerBook$Log" "sequence" "[I" : Cond) ∈ AW := aw_mem (i := 32) rfl rfl
theorem aw_33 : (Jvm.Cond.fieldLink "ProducerBook" (83 : Nat) "ProducerBook$Log" "sequence" "[I" : Cond) ∈ AW := aw_mem (i := 33) rfl rfl
theorem aw_34 : (Jvm.Cond.fieldLink "ProducerBook$Log" (25 : Nat) "ProducerBook$Log" "last" "[I" : Cond) ∈ AW := aw_mem (i := 34) rfl rfl
theorem aw_35 : (Jvm.Cond.fieldLink "ProducerBook" (86 : Nat) "ProducerBook$Log" "last" "[I" : Cond) ∈ AW := aw_mem (i := 35) rfl rfl
theorem aw_36 : (Jvm.Cond.fieldLink "ProducerBook$Log" (28 : Nat) "ProducerBook$Log" "newer" "[I" : Cond) ∈ AW := aw_mem (i := 36) rfl rfl
theorem aw_37 : (Jvm.Cond.fieldLink "ProducerBook$Log" (31 : Nat) "ProducerBook$Log" "size" "I" : Cond) ∈ AW := aw_mem (i := 37) rfl rfl
theorem aw_38 : (Jvm.Cond.fieldLink "ProducerBook" (55 : Nat) "ProducerBook$Log" "size" "I" : Cond) ∈ AW := aw_mem (i := 38) rfl rfl
theorem aw_39 : (Jvm.Cond.fieldLink "ProducerBook$Log" (35 : Nat) "ProducerBook$Log" "end" "I" : Cond) ∈ AW := aw_mem (i := 39) rfl rfl
theorem aw_40 : (Jvm.Cond.fieldLink "ProducerBook" (108 : Nat) "ProducerBook$Log" "end" "I" : Cond) ∈ AW := aw_mem (i := 40) rfl rfl
theorem aw_58 : (Jvm.Cond.arrayClass Jvm.ClassFile.FieldType.int : Cond) ∈ AW := aw_mem (i := 58) rfl rfl
theorem aw_59 : (Jvm.Cond.arrayClass Jvm.ClassFile.FieldType.long : Cond) ∈ AW := aw_mem (i := 59) rfl rfl
theorem aw_60 : (Jvm.Cond.classLink "ProducerBook" (16 : Nat) "ProducerBook$Known" : Cond) ∈ AW := aw_mem (i := 60) rfl rfl
theorem aw_61 : (Jvm.Cond.instantiable "ProducerBook$Known" (2 : Nat) : Cond) ∈ AW := aw_mem (i := 61) rfl rfl
theorem aw_63 : (Jvm.Cond.instanceMethod ({ cls := "ProducerBook$Known", name := "<init>", desc := "()V" } : Jvm.MethodName) : Cond) ∈ AW := aw_mem (i := 63) rfl rfl
theorem aw_64 : (Jvm.Cond.code ({ cls := "ProducerBook$Known", name := "<init>", desc := "()V" } : Jvm.MethodName) prog_2_method_1_code (1 : Nat) (Option.none : Option Jvm.ClassFile.FieldType) : Cond) ∈ AW := aw_mem (i := 64) rfl rfl
theorem aw_65 : (Jvm.Cond.methodLink "ProducerBook$Known" (3 : Nat) ({ cls := "java/lang/Object", name := "<init>", desc := "()V" } : Jvm.MethodName) : Cond) ∈ AW := aw_mem (i := 65) rfl rfl
theorem aw_66 : (Jvm.Cond.fieldLink "ProducerBook$Known" (9 : Nat) "ProducerBook$Known" "places" "[I" : Cond) ∈ AW := aw_mem (i := 66) rfl rfl
theorem aw_67 : (Jvm.Cond.fieldLink "ProducerBook$Log" (50 : Nat) "ProducerBook$Known" "places" "[I" : Cond) ∈ AW := aw_mem (i := 67) rfl rfl
theorem aw_68 : (Jvm.Cond.fieldLink "ProducerBook$Known" (15 : Nat) "ProducerBook$Known" "size" "I" : Cond) ∈ AW := aw_mem (i := 68) rfl rfl
theorem aw_69 : (Jvm.Cond.fieldLink "ProducerBook$Log" (39 : Nat) "ProducerBook$Known" "size" "I" : Cond) ∈ AW := aw_mem (i := 69) rfl rfl
theorem aw_70 : (Jvm.Cond.fieldLink "ProducerBook" (75 : Nat) "ProducerBook$Known" "size" "I" : Cond) ∈ AW := aw_mem (i := 70) rfl rfl
theorem aw_76 : (Jvm.Cond.fieldLink "ProducerBook" (10 : Nat) "ProducerBook" "log" "LProducerBook$Log;" : Cond) ∈ AW := aw_mem (i := 76) rfl rfl
theorem aw_77 : (Jvm.Cond.fieldLink "ProducerBook" (19 : Nat) "ProducerBook" "recalled" "LProducerBook$Known;" : Cond) ∈ AW := aw_mem (i := 77) rfl rfl
theorem aw_83 : (Jvm.Cond.methodLink "ProducerBookLaw" (56 : Nat) ({ cls := "ProducerBook", name := "thin", desc := "()I" } : Jvm.MethodName) : Cond) ∈ AW := aw_mem (i := 83) rfl rfl
theorem aw_84 : (Jvm.Cond.instanceMethod ({ cls := "ProducerBook", name := "thin", desc := "()I" } : Jvm.MethodName) : Cond) ∈ AW := aw_mem (i := 84) rfl rfl
theorem aw_85 : (Jvm.Cond.selects "ProducerBook" ({ cls := "ProducerBook", name := "thin", desc := "()I" } : Jvm.MethodName) ({ cls := "ProducerBook", name := "thin", desc := "()I" } : Jvm.MethodName) : Cond) ∈ AW := aw_mem (i := 85) rfl rfl
theorem aw_86 : (Jvm.Cond.code ({ cls := "ProducerBook", name := "thin", desc := "()I" } : Jvm.MethodName) prog_1_method_5_code (1 : Nat) (Option.some Jvm.ClassFile.FieldType.int) : Cond) ∈ AW := aw_mem (i := 86) rfl rfl
theorem aw_87 : (Jvm.Cond.methodLink "ProducerBook" (69 : Nat) ({ cls := "ProducerBook$Log", name := "removeUnknown", desc := "()I" } : Jvm.MethodName) : Cond) ∈ AW := aw_mem (i := 87) rfl rfl
theorem aw_88 : (Jvm.Cond.instanceMethod ({ cls := "ProducerBook$Log", name := "removeUnknown", desc := "()I" } : Jvm.MethodName) : Cond) ∈ AW := aw_mem (i := 88) rfl rfl
theorem aw_89 : (Jvm.Cond.selects "ProducerBook$Log" ({ cls := "ProducerBook$Log", name := "removeUnknown", desc := "()I" } : Jvm.MethodName) ({ cls := "ProducerBook$Log", name := "removeUnknown", desc := "()I" } : Jvm.MethodName) : Cond) ∈ AW := aw_mem (i := 89) rfl rfl
theorem aw_90 : (Jvm.Cond.code ({ cls := "ProducerBook$Log", name := "removeUnknown", desc := "()I" } : Jvm.MethodName) prog_3_method_9_code (3 : Nat) (Option.some Jvm.ClassFile.FieldType.int) : Cond) ∈ AW := aw_mem (i := 90) rfl rfl
theorem aw_91 : (Jvm.Cond.methodLink "ProducerBook$Log" (42 : Nat) ({ cls := "ProducerBook$Log", name := "isKnown", desc := "(I)Z" } : Jvm.MethodName) : Cond) ∈ AW := aw_mem (i := 91) rfl rfl
theorem aw_92 : (Jvm.Cond.instanceMethod ({ cls := "ProducerBook$Log", name := "isKnown", desc := "(I)Z" } : Jvm.MethodName) : Cond) ∈ AW := aw_mem (i := 92) rfl rfl
theorem aw_93 : (Jvm.Cond.selects "ProducerBook$Log" ({ cls := "ProducerBook$Log", name := "isKnown", desc := "(I)Z" } : Jvm.MethodName) ({ cls := "ProducerBook$Log", name := "isKnown", desc := "(I)Z" } : Jvm.MethodName) : Cond) ∈ AW := aw_mem (i := 93) rfl rfl
theorem aw_94 : (Jvm.Cond.code ({ cls := "ProducerBook$Log", name := "isKnown", desc := "(I)Z" } : Jvm.MethodName) prog_3_method_3_code (2 : Nat) (Option.some Jvm.ClassFile.FieldType.boolean) : Cond) ∈ AW := aw_mem (i := 94) rfl rfl
theorem aw_95 : (Jvm.Cond.methodLink "ProducerBook$Log" (72 : Nat) ({ cls := "ProducerBook$Log", name := "move", desc := "(III)V" } : Jvm.MethodName) : Cond) ∈ AW := aw_mem (i := 95) rfl rfl
theorem aw_97 : (Jvm.Cond.instanceMethod ({ cls := "ProducerBook$Log", name := "move", desc := "(III)V" } : Jvm.MethodName) : Cond) ∈ AW := aw_mem (i := 97) rfl rfl
theorem aw_98 : (Jvm.Cond.code ({ cls := "ProducerBook$Log", name := "move", desc := "(III)V" } : Jvm.MethodName) prog_3_method_11_code (4 : Nat) (Option.none : Option Jvm.ClassFile.FieldType) : Cond) ∈ AW := aw_mem (i := 98) rfl rfl
theorem aw_99 : (Jvm.Cond.methodLink "ProducerBook$Log" (76 : Nat) ({ cls := "java/lang/System", name := "arraycopy", desc := "(Ljava/lang/Object;ILjava/lang/Object;II)V" } : Jvm.MethodName) : Cond) ∈ AW := aw_mem (i := 99) rfl rfl
theorem aw_100 : (Jvm.Cond.static ({ cls := "java/lang/System", name := "arraycopy", desc := "(Ljava/lang/Object;ILjava/lang/Object;II)V" } : Jvm.MethodName) : Cond) ∈ AW := aw_mem (i := 100) rfl rfl
theorem aw_101 : (Jvm.Cond.native ({ cls := "java/lang/System", name := "arraycopy", desc := "(Ljava/lang/Object;ILjava/lang/Object;II)V" } : Jvm.MethodName) : Cond) ∈ AW := aw_mem (i := 101) rfl rfl
theorem aw_102 : (Jvm.Cond.methodLink "ProducerBookLaw" (42 : Nat) ({ cls := "ProducerBookLaw", name := "offer", desc := "(LProducerBook;JIII[J)I" } : Jvm.MethodName) : Cond) ∈ AW := aw_mem (i := 102) rfl rfl
theorem aw_103 : (Jvm.Cond.static ({ cls := "ProducerBookLaw", name := "offer", desc := "(LProducerBook;JIII[J)I" } : Jvm.MethodName) : Cond) ∈ AW := aw_mem (i := 103) rfl rfl
theorem aw_104 : (Jvm.Cond.codeWith ({ cls := "ProducerBookLaw", name := "offer", desc := "(LProducerBook;JIII[J)I" } : Jvm.MethodName) method_3_code (8 : Nat) (Option.some Jvm.ClassFile.FieldType.int) [((0 : Nat), (15 : Nat), (18 : Nat), (13 : Nat)), ((0 : Nat), (15 : Nat), (22 : Nat), (15 : Nat))] : Cond) ∈ AW := aw_mem (i := 104) rfl rfl
theorem aw_105 : (Jvm.Cond.classLink "ProducerBookLaw" (13 : Nat) "java/lang/IllegalArgumentException" : Cond) ∈ AW := aw_mem (i := 105) rfl rfl
theorem aw_106 : (Jvm.Cond.classLink "ProducerBookLaw" (15 : Nat) "java/lang/IllegalStateException" : Cond) ∈ AW := aw_mem (i := 106) rfl rfl
theorem aw_107 : (Jvm.Cond.methodLink "ProducerBookLaw" (7 : Nat) ({ cls := "ProducerBook", name := "offer", desc := "(JIII)I" } : Jvm.MethodName) : Cond) ∈ AW := aw_mem (i := 107) rfl rfl
theorem aw_108 : (Jvm.Cond.instanceMethod ({ cls := "ProducerBook", name := "offer", desc := "(JIII)I" } : Jvm.MethodName) : Cond) ∈ AW := aw_mem (i := 108) rfl rfl
theorem aw_109 : (Jvm.Cond.selects "ProducerBook" ({ cls := "ProducerBook", name := "offer", desc := "(JIII)I" } : Jvm.MethodName) ({ cls := "ProducerBook", name := "offer", desc := "(JIII)I" } : Jvm.MethodName) : Cond) ∈ AW := aw_mem (i := 109) rfl rfl
theorem aw_110 : (Jvm.Cond.code ({ cls := "ProducerBook", name := "offer", desc := "(JIII)I" } : Jvm.MethodName) prog_1_method_2_code (7 : Nat) (Option.some Jvm.ClassFile.FieldType.int) : Cond) ∈ AW := aw_mem (i := 110) rfl rfl
theorem aw_111 : (Jvm.Cond.methodLink "ProducerBook" (23 : Nat) ({ cls := "ProducerBook", name := "isLegal", desc := "(JIII)Z" } : Jvm.MethodName) : Cond) ∈ AW := aw_mem (i := 111) rfl rfl
theorem aw_112 : (Jvm.Cond.static ({ cls := "ProducerBook", name := "isLegal", desc := "(JIII)Z" } : Jvm.MethodName) : Cond) ∈ AW := aw_mem (i := 112) rfl rfl
theorem aw_113 : (Jvm.Cond.code ({ cls := "ProducerBook", name := "isLegal", desc := "(JIII)Z" } : Jvm.MethodName) prog_1_method_9_code (5 : Nat) (Option.some Jvm.ClassFile.FieldType.boolean) : Cond) ∈ AW := aw_mem (i := 113) rfl rfl
theorem aw_114 : (Jvm.Cond.constantLong "ProducerBook" (113 : Nat) (-1 : Int64) : Cond) ∈ AW := aw_mem (i := 114) rfl rfl
theorem aw_115 : (Jvm.Cond.classLink "ProducerBook" (27 : Nat) "java/lang/IllegalArgumentException" : Cond) ∈ AW := aw_mem (i := 115) rfl rfl
theorem aw_116 : (Jvm.Cond.instantiable "java/lang/IllegalArgumentException" (6 : Nat) : Cond) ∈ AW := aw_mem (i := 116) rfl rfl
theorem aw_124 : (Jvm.Cond.selects "java/lang/IllegalArgumentException" ({ cls := "java/lang/Throwable", name := "fillInStackTrace", desc := "(I)Ljava/lang/Throwable;" } : Jvm.MethodName) ({ cls := "java/lang/Throwable", name := "fillInStackTrace", desc := "(I)Ljava/lang/Throwable;" } : Jvm.MethodName) : Cond) ∈ AW := aw_mem (i := 124) rfl rfl
theorem aw_125 : (Jvm.Cond.selects "java/lang/IllegalArgumentException" ({ cls := "java/lang/Throwable", name := "fillInStackTrace", desc := "()Ljava/lang/Throwable;" } : Jvm.MethodName) ({ cls := "java/lang/Throwable", name := "fillInStackTrace", desc := "()Ljava/lang/Throwable;" } : Jvm.MethodName) : Cond) ∈ AW := aw_mem (i := 125) rfl rfl
theorem aw_136 : (Jvm.Cond.fieldLink "java/lang/Throwable" (198 : Nat) "java/lang/Throwable" "backtrace" "Ljava/lang/Object;" : Cond) ∈ AW := aw_mem (i := 136) rfl rfl
theorem aw_138 : (Jvm.Cond.instanceMethod ({ cls := "java/lang/Throwable", name := "<init>", desc := "()V" } : Jvm.MethodName) : Cond) ∈ AW := aw_mem (i := 138) rfl rfl
theorem aw_139 : (Jvm.Cond.code ({ cls := "java/lang/Throwable", name := "<init>", desc := "()V" } : Jvm.MethodName) prog_13_method_1_code (1 : Nat) (Option.none : Option Jvm.ClassFile.FieldType) : Cond) ∈ AW := aw_mem (i := 139) rfl rfl
theorem aw_140 : (Jvm.Cond.methodLink "java/lang/Throwable" (1 : Nat) ({ cls := "java/lang/Object", name := "<init>", desc := "()V" } : Jvm.MethodName) : Cond) ∈ AW := aw_mem (i := 140) rfl rfl
theorem aw_141 : (Jvm.Cond.fieldLink "java/lang/Throwable" (13 : Nat) "java/lang/Throwable" "UNASSIGNED_STACK" "[Ljava/lang/StackTraceElement;" : Cond) ∈ AW := aw_mem (i := 141) rfl rfl
theorem aw_143 : (Jvm.Cond.fieldLink "java/lang/Throwable" (20 : Nat) "java/lang/Throwable" "SUPPRESSED_SENTINEL" "Ljava/util/List;" : Cond) ∈ AW := aw_mem (i := 143) rfl rfl
theorem aw_145 : (Jvm.Cond.methodLink "java/lang/Throwable" (27 : Nat) ({ cls := "java/lang/Throwable", name := "fillInStackTrace", desc := "()Ljava/lang/Throwable;" } : Jvm.MethodName) : Cond) ∈ AW := aw_mem (i := 145) rfl rfl
theorem aw_146 : (Jvm.Cond.instanceMethod ({ cls := "java/lang/Throwable", name := "fillInStackTrace", desc := "()Ljava/lang/Throwable;" } : Jvm.MethodName) : Cond) ∈ AW := aw_mem (i := 146) rfl rfl
theorem aw_148 : (Jvm.Cond.selects "java/lang/IllegalStateException" ({ cls := "java/lang/Throwable", name := "fillInStackTrace", desc := "()Ljava/lang/Throwable;" } : Jvm.MethodName) ({ cls := "java/lang/Throwable", name := "fillInStackTrace", desc := "()Ljava/lang/Throwable;" } : Jvm.MethodName) : Cond) ∈ AW := aw_mem (i := 148) rfl rfl
theorem aw_150 : (Jvm.Cond.methodLink "java/lang/Throwable" (202 : Nat) ({ cls := "java/lang/Throwable", name := "fillInStackTrace", desc := "(I)Ljava/lang/Throwable;" } : Jvm.MethodName) : Cond) ∈ AW := aw_mem (i := 150) rfl rfl
theorem aw_152 : (Jvm.Cond.instanceMethod ({ cls := "java/lang/Throwable", name := "fillInStackTrace", desc := "(I)Ljava/lang/Throwable;" } : Jvm.MethodName) : Cond) ∈ AW := aw_mem (i := 152) rfl rfl
theorem aw_153 : (Jvm.Cond.instantiable "java/lang/Throwable" (6 : Nat) : Cond) ∈ AW := aw_mem (i := 153) rfl rfl
theorem aw_154 : (Jvm.Cond.native ({ cls := "java/lang/Throwable", name := "fillInStackTrace", desc := "(I)Ljava/lang/Throwable;" } : Jvm.MethodName) : Cond) ∈ AW := aw_mem (i := 154) rfl rfl
theorem aw_156 : (Jvm.Cond.methodLink "ProducerBook" (31 : Nat) ({ cls := "java/lang/IllegalArgumentException", name := "<init>", desc := "(Ljava/lang/String;)V" } : Jvm.MethodName) : Cond) ∈ AW := aw_mem (i := 156) rfl rfl
theorem aw_157 : (Jvm.Cond.instanceMethod ({ cls := "java/lang/IllegalArgumentException", name := "<init>", desc := "(Ljava/lang/String;)V" } : Jvm.MethodName) : Cond) ∈ AW := aw_mem (i := 157) rfl rfl
theorem aw_158 : (Jvm.Cond.code ({ cls := "java/lang/IllegalArgumentException", name := "<init>", desc := "(Ljava/lang/String;)V" } : Jvm.MethodName) prog_7_method_2_code (2 : Nat) (Option.none : Option Jvm.ClassFile.FieldType) : Cond) ∈ AW := aw_mem (i := 158) rfl rfl
theorem aw_159 : (Jvm.Cond.methodLink "java/lang/IllegalArgumentException" (7 : Nat) ({ cls := "java/lang/RuntimeException", name := "<init>", desc := "(Ljava/lang/String;)V" } : Jvm.MethodName) : Cond) ∈ AW := aw_mem (i := 159) rfl rfl
theorem aw_160 : (Jvm.Cond.instanceMethod ({ cls := "java/lang/RuntimeException", name := "<init>", desc := "(Ljava/lang/String;)V" } : Jvm.MethodName) : Cond) ∈ AW := aw_mem (i := 160) rfl rfl
theorem aw_161 : (Jvm.Cond.code ({ cls := "java/lang/RuntimeException", name := "<init>", desc := "(Ljava/lang/String;)V" } : Jvm.MethodName) prog_10_method_2_code (2 : Nat) (Option.none : Option Jvm.ClassFile.FieldType) : Cond) ∈ AW := aw_mem (i := 161) rfl rfl
theorem aw_162 : (Jvm.Cond.methodLink "java/lang/RuntimeException" (7 : Nat) ({ cls := "java/lang/Exception", name := "<init>", desc := "(Ljava/lang/String;)V" } : Jvm.MethodName) : Cond) ∈ AW := aw_mem (i := 162) rfl rfl
theorem aw_163 : (Jvm.Cond.instanceMethod ({ cls := "java/lang/Exception", name := "<init>", desc := "(Ljava/lang/String;)V" } : Jvm.MethodName) : Cond) ∈ AW := aw_mem (i := 163) rfl rfl
theorem aw_164 : (Jvm.Cond.code ({ cls := "java/lang/Exception", name := "<init>", desc := "(Ljava/lang/String;)V" } : Jvm.MethodName) prog_6_method_2_code (2 : Nat) (Option.none : Option Jvm.ClassFile.FieldType) : Cond) ∈ AW := aw_mem (i := 164) rfl rfl
theorem aw_165 : (Jvm.Cond.methodLink "java/lang/Exception" (7 : Nat) ({ cls := "java/lang/Throwable", name := "<init>", desc := "(Ljava/lang/String;)V" } : Jvm.MethodName) : Cond) ∈ AW := aw_mem (i := 165) rfl rfl
theorem aw_166 : (Jvm.Cond.instanceMethod ({ cls := "java/lang/Throwable", name := "<init>", desc := "(Ljava/lang/String;)V" } : Jvm.MethodName) : Cond) ∈ AW := aw_mem (i := 166) rfl rfl
theorem aw_167 : (Jvm.Cond.code ({ cls := "java/lang/Throwable", name := "<init>", desc := "(Ljava/lang/String;)V" } : Jvm.MethodName) prog_13_method_2_code (2 : Nat) (Option.none : Option Jvm.ClassFile.FieldType) : Cond) ∈ AW := aw_mem (i := 167) rfl rfl
theorem aw_168 : (Jvm.Cond.fieldLink "java/lang/Throwable" (198 : Nat) "java/lang/Throwable" "backtrace" "Ljava/lang/Object;" : Cond) ∈ AW := aw_mem (i := 168) rfl rfl
theorem aw_169 : (Jvm.Cond.fieldLink "java/lang/Throwable" (31 : Nat) "java/lang/Throwable" "detailMessage" "Ljava/lang/String;" : Cond) ∈ AW := aw_mem (i := 169) rfl rfl
theorem aw_170 : (Jvm.Cond.fieldLink "java/lang/Throwable" (7 : Nat) "java/lang/Throwable" "cause" "Ljava/lang/Throwable;" : Cond) ∈ AW := aw_mem (i := 170) rfl rfl
theorem aw_171 : (Jvm.Cond.fieldLink "java/lang/Throwable" (17 : Nat) "java/lang/Throwable" "stackTrace" "[Ljava/lang/StackTraceElement;" : Cond) ∈ AW := aw_mem (i := 171) rfl rfl
theorem aw_172 : (Jvm.Cond.fieldLink "java/lang/Throwable" (24 : Nat) "java/lang/Throwable" "suppressedExceptions" "Ljava/util/List;" : Cond) ∈ AW := aw_mem (i := 172) rfl rfl
theorem aw_181 : (Jvm.Cond.arrayClass Jvm.ClassFile.FieldType.byte : Cond) ∈ AW := aw_mem (i := 181) rfl rfl
theorem aw_182 : (Jvm.Cond.methodLink "ProducerBook" (34 : Nat) ({ cls := "ProducerBook$Log", name := "recall", desc := "(JLProducerBook$Known;)V" } : Jvm.MethodName) : Cond) ∈ AW := aw_mem (i := 182) rfl rfl
theorem aw_183 : (Jvm.Cond.instanceMethod ({ cls := "ProducerBook$Log", name := "recall", desc := "(JLProducerBook$Known;)V" } : Jvm.MethodName) : Cond) ∈ AW := aw_mem (i := 183) rfl rfl
theorem aw_184 : (Jvm.Cond.selects "ProducerBook$Log" ({ cls := "ProducerBook$Log", name := "recall", desc := "(JLProducerBook$Known;)V" } : Jvm.MethodName) ({ cls := "ProducerBook$Log", name := "recall", desc := "(JLProducerBook$Known;)V" } : Jvm.MethodName) : Cond) ∈ AW := aw_mem (i := 184) rfl rfl
theorem aw_185 : (Jvm.Cond.code ({ cls := "ProducerBook$Log", name := "recall", desc := "(JLProducerBook$Known;)V" } : Jvm.MethodName) prog_3_method_4_code (5 : Nat) (Option.none : Option Jvm.ClassFile.FieldType) : Cond) ∈ AW := aw_mem (i := 185) rfl rfl
theorem aw_186 : (Jvm.Cond.methodLink "ProducerBook$Log" (46 : Nat) ({ cls := "ProducerBook$Known", name := "addOlder", desc := "(I)V" } : Jvm.MethodName) : Cond) ∈ AW := aw_mem (i := 186) rfl rfl
theorem aw_187 : (Jvm.Cond.instanceMethod ({ cls := "ProducerBook$Known", name := "addOlder", desc := "(I)V" } : Jvm.MethodName) : Cond) ∈ AW := aw_mem (i := 187) rfl rfl
theorem aw_188 : (Jvm.Cond.selects "ProducerBook$Known" ({ cls := "ProducerBook$Known", name := "addOlder", desc := "(I)V" } : Jvm.MethodName) ({ cls := "ProducerBook$Known", name := "addOlder", desc := "(I)V" } : Jvm.MethodName) : Cond) ∈ AW := aw_mem (i := 188) rfl rfl
theorem aw_189 : (Jvm.Cond.code ({ cls := "ProducerBook$Known", name := "addOlder", desc := "(I)V" } : Jvm.MethodName) prog_2_method_4_code (2 : Nat) (Option.none : Option Jvm.ClassFile.FieldType) : Cond) ∈ AW := aw_mem (i := 189) rfl rfl
theorem aw_190 : (Jvm.Cond.methodLink "ProducerBook" (38 : Nat) ({ cls := "ProducerBook", name := "send", desc := "(JIII)I" } : Jvm.MethodName) : Cond) ∈ AW := aw_mem (i := 190) rfl rfl
theorem aw_192 : (Jvm.Cond.instanceMethod ({ cls := "ProducerBook", name := "send", desc := "(JIII)I" } : Jvm.MethodName) : Cond) ∈ AW := aw_mem (i := 192) rfl rfl
theorem aw_193 : (Jvm.Cond.code ({ cls := "ProducerBook", name := "send", desc := "(JIII)I" } : Jvm.MethodName) prog_1_method_11_code (7 : Nat) (Option.some Jvm.ClassFile.FieldType.int) : Cond) ∈ AW := aw_mem (i := 193) rfl rfl
theorem aw_194 : (Jvm.Cond.methodLink "ProducerBook" (116 : Nat) ({ cls := "ProducerBook", name := "answerOfKnown", desc := "(III)I" } : Jvm.MethodName) : Cond) ∈ AW := aw_mem (i := 194) rfl rfl
theorem aw_196 : (Jvm.Cond.instanceMethod ({ cls := "ProducerBook", name := "answerOfKnown", desc := "(III)I" } : Jvm.MethodName) : Cond) ∈ AW := aw_mem (i := 196) rfl rfl
theorem aw_197 : (Jvm.Cond.code ({ cls := "ProducerBook", name := "answerOfKnown", desc := "(III)I" } : Jvm.MethodName) prog_1_method_12_code (8 : Nat) (Option.some Jvm.ClassFile.FieldType.int) : Cond) ∈ AW := aw_mem (i := 197) rfl rfl
theorem aw_198 : (Jvm.Cond.methodLink "ProducerBook" (76 : Nat) ({ cls := "ProducerBook$Known", name := "latest", desc := "()I" } : Jvm.MethodName) : Cond) ∈ AW := aw_mem (i := 198) rfl rfl
theorem aw_199 : (Jvm.Cond.instanceMethod ({ cls := "ProducerBook$Known", name := "latest", desc := "()I" } : Jvm.MethodName) : Cond) ∈ AW := aw_mem (i := 199) rfl rfl
theorem aw_200 : (Jvm.Cond.selects "ProducerBook$Known" ({ cls := "ProducerBook$Known", name := "latest", desc := "()I" } : Jvm.MethodName) ({ cls := "ProducerBook$Known", name := "latest", desc := "()I" } : Jvm.MethodName) : Cond) ∈ AW := aw_mem (i := 200) rfl rfl
theorem aw_201 : (Jvm.Cond.code ({ cls := "ProducerBook$Known", name := "latest", desc := "()I" } : Jvm.MethodName) prog_2_method_2_code (1 : Nat) (Option.some Jvm.ClassFile.FieldType.int) : Cond) ∈ AW := aw_mem (i := 201) rfl rfl
theorem aw_202 : (Jvm.Cond.methodLink "ProducerBook" (124 : Nat) ({ cls := "ProducerBook$Log", name := "baseOfSame", desc := "(LProducerBook$Known;III)I" } : Jvm.MethodName) : Cond) ∈ AW := aw_mem (i := 202) rfl rfl
theorem aw_203 : (Jvm.Cond.instanceMethod ({ cls := "ProducerBook$Log", name := "baseOfSame", desc := "(LProducerBook$Known;III)I" } : Jvm.MethodName) : Cond) ∈ AW := aw_mem (i := 203) rfl rfl
theorem aw_204 : (Jvm.Cond.selects "ProducerBook$Log" ({ cls := "ProducerBook$Log", name := "baseOfSame", desc := "(LProducerBook$Known;III)I" } : Jvm.MethodName) ({ cls := "ProducerBook$Log", name := "baseOfSame", desc := "(LProducerBook$Known;III)I" } : Jvm.MethodName) : Cond) ∈ AW := aw_mem (i := 204) rfl rfl
theorem aw_205 : (Jvm.Cond.code ({ cls := "ProducerBook$Log", name := "baseOfSame", desc := "(LProducerBook$Known;III)I" } : Jvm.MethodName) prog_3_method_5_code (7 : Nat) (Option.some Jvm.ClassFile.FieldType.int) : Cond) ∈ AW := aw_mem (i := 205) rfl rfl
theorem aw_206 : (Jvm.Cond.methodLink "ProducerBook" (59 : Nat) ({ cls := "ProducerBook", name := "sequenceBehind", desc := "(II)I" } : Jvm.MethodName) : Cond) ∈ AW := aw_mem (i := 206) rfl rfl
theorem aw_207 : (Jvm.Cond.static ({ cls := "ProducerBook", name := "sequenceBehind", desc := "(II)I" } : Jvm.MethodName) : Cond) ∈ AW := aw_mem (i := 207) rfl rfl
theorem aw_208 : (Jvm.Cond.code ({ cls := "ProducerBook", name := "sequenceBehind", desc := "(II)I" } : Jvm.MethodName) prog_1_method_10_code (2 : Nat) (Option.some Jvm.ClassFile.FieldType.int) : Cond) ∈ AW := aw_mem (i := 208) rfl rfl
theorem aw_209 : (Jvm.Cond.constant "ProducerBook" (115 : Nat) (2147483647 : Int32) : Cond) ∈ AW := aw_mem (i := 209) rfl rfl
theorem aw_210 : (Jvm.Cond.methodLink "ProducerBook" (120 : Nat) ({ cls := "ProducerBook$Log", name := "append", desc := "(LProducerBook$Known;JIII)I" } : Jvm.MethodName) : Cond) ∈ AW := aw_mem (i := 210) rfl rfl
theorem aw_211 : (Jvm.Cond.instanceMethod ({ cls := "ProducerBook$Log", name := "append", desc := "(LProducerBook$Known;JIII)I" } : Jvm.MethodName) : Cond) ∈ AW := aw_mem (i := 211) rfl rfl
theorem aw_212 : (Jvm.Cond.selects "ProducerBook$Log" ({ cls := "ProducerBook$Log", name := "append", desc := "(LProducerBook$Known;JIII)I" } : Jvm.MethodName) ({ cls := "ProducerBook$Log", name := "append", desc := "(LProducerBook$Known;JIII)I" } : Jvm.MethodName) : Cond) ∈ AW := aw_mem (i := 212) rfl rfl
theorem aw_213 : (Jvm.Cond.code ({ cls := "ProducerBook$Log", name := "append", desc := "(LProducerBook$Known;JIII)I" } : Jvm.MethodName) prog_3_method_6_code (8 : Nat) (Option.some Jvm.ClassFile.FieldType.int) : Cond) ∈ AW := aw_mem (i := 213) rfl rfl
theorem aw_214 : (Jvm.Cond.methodLink "ProducerBook$Log" (53 : Nat) ({ cls := "ProducerBook$Log", name := "hasRoom", desc := "(II)Z" } : Jvm.MethodName) : Cond) ∈ AW := aw_mem (i := 214) rfl rfl
theorem aw_215 : (Jvm.Cond.instanceMethod ({ cls := "ProducerBook$Log", name := "hasRoom", desc := "(II)Z" } : Jvm.MethodName) : Cond) ∈ AW := aw_mem (i := 215) rfl rfl
theorem aw_216 : (Jvm.Cond.selects "ProducerBook$Log" ({ cls := "ProducerBook$Log", name := "hasRoom", desc := "(II)Z" } : Jvm.MethodName) ({ cls := "ProducerBook$Log", name := "hasRoom", desc := "(II)Z" } : Jvm.MethodName) : Cond) ∈ AW := aw_mem (i := 216) rfl rfl
theorem aw_217 : (Jvm.Cond.code ({ cls := "ProducerBook$Log", name := "hasRoom", desc := "(II)Z" } : Jvm.MethodName) prog_3_method_2_code (3 : Nat) (Option.some Jvm.ClassFile.FieldType.boolean) : Cond) ∈ AW := aw_mem (i := 217) rfl rfl
theorem aw_218 : (Jvm.Cond.constant "ProducerBook$Log" (38 : Nat) (1000000 : Int32) : Cond) ∈ AW := aw_mem (i := 218) rfl rfl
theorem aw_219 : (Jvm.Cond.constantLong "ProducerBook$Log" (57 : Nat) (-1 : Int64) : Cond) ∈ AW := aw_mem (i := 219) rfl rfl
theorem aw_220 : (Jvm.Cond.methodLink "ProducerBook$Log" (59 : Nat) ({ cls := "ProducerBook$Log", name := "becomeLatest", desc := "(LProducerBook$Known;I)V" } : Jvm.MethodName) : Cond) ∈ AW := aw_mem (i := 220) rfl rfl
theorem aw_222 : (Jvm.Cond.instanceMethod ({ cls := "ProducerBook$Log", name := "becomeLatest", desc := "(LProducerBook$Known;I)V" } : Jvm.MethodName) : Cond) ∈ AW := aw_mem (i := 222) rfl rfl
theorem aw_223 : (Jvm.Cond.code ({ cls := "ProducerBook$Log", name := "becomeLatest", desc := "(LProducerBook$Known;I)V" } : Jvm.MethodName) prog_3_method_7_code (4 : Nat) (Option.none : Option Jvm.ClassFile.FieldType) : Cond) ∈ AW := aw_mem (i := 223) rfl rfl
theorem aw_224 : (Jvm.Cond.methodLink "ProducerBook$Log" (63 : Nat) ({ cls := "ProducerBook$Known", name := "addLatest", desc := "(I)V" } : Jvm.MethodName) : Cond) ∈ AW := aw_mem (i := 224) rfl rfl
theorem aw_225 : (Jvm.Cond.instanceMethod ({ cls := "ProducerBook$Known", name := "addLatest", desc := "(I)V" } : Jvm.MethodName) : Cond) ∈ AW := aw_mem (i := 225) rfl rfl
theorem aw_226 : (Jvm.Cond.selects "ProducerBook$Known" ({ cls := "ProducerBook$Known", name := "addLatest", desc := "(I)V" } : Jvm.MethodName) ({ cls := "ProducerBook$Known", name := "addLatest", desc := "(I)V" } : Jvm.MethodName) : Cond) ∈ AW := aw_mem (i := 226) rfl rfl
theorem aw_227 : (Jvm.Cond.code ({ cls := "ProducerBook$Known", name := "addLatest", desc := "(I)V" } : Jvm.MethodName) prog_2_method_5_code (3 : Nat) (Option.none : Option Jvm.ClassFile.FieldType) : Cond) ∈ AW := aw_mem (i := 227) rfl rfl
theorem aw_228 : (Jvm.Cond.classLink "ProducerBook" (42 : Nat) "java/lang/IllegalStateException" : Cond) ∈ AW := aw_mem (i := 228) rfl rfl
theorem aw_229 : (Jvm.Cond.instantiable "java/lang/IllegalStateException" (6 : Nat) : Cond) ∈ AW := aw_mem (i := 229) rfl rfl
theorem aw_231 : (Jvm.Cond.selects "java/lang/IllegalStateException" ({ cls := "java/lang/Throwable", name := "fillInStackTrace", desc := "(I)Ljava/lang/Throwable;" } : Jvm.MethodName) ({ cls := "java/lang/Throwable", name := "fillInStackTrace", desc := "(I)Ljava/lang/Throwable;" } : Jvm.MethodName) : Cond) ∈ AW := aw_mem (i := 231) rfl rfl
theorem aw_238 : (Jvm.Cond.methodLink "ProducerBook" (46 : Nat) ({ cls := "java/lang/IllegalStateException", name := "<init>", desc := "(Ljava/lang/String;)V" } : Jvm.MethodName) : Cond) ∈ AW := aw_mem (i := 238) rfl rfl
theorem aw_239 : (Jvm.Cond.instanceMethod ({ cls := "java/lang/IllegalStateException", name := "<init>", desc := "(Ljava/lang/String;)V" } : Jvm.MethodName) : Cond) ∈ AW := aw_mem (i := 239) rfl rfl
theorem aw_240 : (Jvm.Cond.code ({ cls := "java/lang/IllegalStateException", name := "<init>", desc := "(Ljava/lang/String;)V" } : Jvm.MethodName) prog_8_method_2_code (2 : Nat) (Option.none : Option Jvm.ClassFile.FieldType) : Cond) ∈ AW := aw_mem (i := 240) rfl rfl
theorem aw_241 : (Jvm.Cond.methodLink "java/lang/IllegalStateException" (7 : Nat) ({ cls := "java/lang/RuntimeException", name := "<init>", desc := "(Ljava/lang/String;)V" } : Jvm.MethodName) : Cond) ∈ AW := aw_mem (i := 241) rfl rfl
theorem aw_244 : (Jvm.Cond.methodLink "ProducerBookLaw" (48 : Nat) ({ cls := "ProducerBookLaw", name := "offers", desc := "(LProducerBook;IJIII[J)I" } : Jvm.MethodName) : Cond) ∈ AW := aw_mem (i := 244) rfl rfl
theorem aw_245 : (Jvm.Cond.static ({ cls := "ProducerBookLaw", name := "offers", desc := "(LProducerBook;IJIII[J)I" } : Jvm.MethodName) : Cond) ∈ AW := aw_mem (i := 245) rfl rfl
theorem aw_246 : (Jvm.Cond.codeWith ({ cls := "ProducerBookLaw", name := "offers", desc := "(LProducerBook;IJIII[J)I" } : Jvm.MethodName) method_4_code (9 : Nat) (Option.some Jvm.ClassFile.FieldType.int) [((0 : Nat), (17 : Nat), (20 : Nat), (13 : Nat)), ((0 : Nat), (17 : Nat), (24 : Nat), (15 : Nat))] : Cond) ∈ AW := aw_mem (i := 246) rfl rfl
theorem aw_247 : (Jvm.Cond.methodLink "ProducerBookLaw" (17 : Nat) ({ cls := "ProducerBook", name := "offers", desc := "(IJIII)I" } : Jvm.MethodName) : Cond) ∈ AW := aw_mem (i := 247) rfl rfl
theorem aw_248 : (Jvm.Cond.instanceMethod ({ cls := "ProducerBook", name := "offers", desc := "(IJIII)I" } : Jvm.MethodName) : Cond) ∈ AW := aw_mem (i := 248) rfl rfl
theorem aw_249 : (Jvm.Cond.selects "ProducerBook" ({ cls := "ProducerBook", name := "offers", desc := "(IJIII)I" } : Jvm.MethodName) ({ cls := "ProducerBook", name := "offers", desc := "(IJIII)I" } : Jvm.MethodName) : Cond) ∈ AW := aw_mem (i := 249) rfl rfl
theorem aw_250 : (Jvm.Cond.code ({ cls := "ProducerBook", name := "offers", desc := "(IJIII)I" } : Jvm.MethodName) prog_1_method_3_code (10 : Nat) (Option.some Jvm.ClassFile.FieldType.int) : Cond) ∈ AW := aw_mem (i := 250) rfl rfl
theorem aw_252 : (Jvm.Cond.methodLink "ProducerBook" (49 : Nat) ({ cls := "ProducerBook$Log", name := "hasRoom", desc := "(II)Z" } : Jvm.MethodName) : Cond) ∈ AW := aw_mem (i := 252) rfl rfl
theorem aw_254 : (Jvm.Cond.methodLink "ProducerBookLaw" (52 : Nat) ({ cls := "ProducerBookLaw", name := "drop", desc := "(LProducerBook;I[J)I" } : Jvm.MethodName) : Cond) ∈ AW := aw_mem (i := 254) rfl rfl
theorem aw_255 : (Jvm.Cond.static ({ cls := "ProducerBookLaw", name := "drop", desc := "(LProducerBook;I[J)I" } : Jvm.MethodName) : Cond) ∈ AW := aw_mem (i := 255) rfl rfl
theorem aw_256 : (Jvm.Cond.codeWith ({ cls := "ProducerBookLaw", name := "drop", desc := "(LProducerBook;I[J)I" } : Jvm.MethodName) method_5_code (4 : Nat) (Option.some Jvm.ClassFile.FieldType.int) [((0 : Nat), (9 : Nat), (12 : Nat), (13 : Nat))] : Cond) ∈ AW := aw_mem (i := 256) rfl rfl
theorem aw_257 : (Jvm.Cond.methodLink "ProducerBookLaw" (21 : Nat) ({ cls := "ProducerBook", name := "drop", desc := "(I)I" } : Jvm.MethodName) : Cond) ∈ AW := aw_mem (i := 257) rfl rfl
theorem aw_258 : (Jvm.Cond.instanceMethod ({ cls := "ProducerBook", name := "drop", desc := "(I)I" } : Jvm.MethodName) : Cond) ∈ AW := aw_mem (i := 258) rfl rfl
theorem aw_259 : (Jvm.Cond.selects "ProducerBook" ({ cls := "ProducerBook", name := "drop", desc := "(I)I" } : Jvm.MethodName) ({ cls := "ProducerBook", name := "drop", desc := "(I)I" } : Jvm.MethodName) : Cond) ∈ AW := aw_mem (i := 259) rfl rfl
theorem aw_260 : (Jvm.Cond.code ({ cls := "ProducerBook", name := "drop", desc := "(I)I" } : Jvm.MethodName) prog_1_method_4_code (2 : Nat) (Option.some Jvm.ClassFile.FieldType.int) : Cond) ∈ AW := aw_mem (i := 260) rfl rfl
theorem aw_262 : (Jvm.Cond.methodLink "ProducerBook" (65 : Nat) ({ cls := "ProducerBook$Log", name := "removeFirst", desc := "(I)I" } : Jvm.MethodName) : Cond) ∈ AW := aw_mem (i := 262) rfl rfl
theorem aw_263 : (Jvm.Cond.instanceMethod ({ cls := "ProducerBook$Log", name := "removeFirst", desc := "(I)I" } : Jvm.MethodName) : Cond) ∈ AW := aw_mem (i := 263) rfl rfl
theorem aw_264 : (Jvm.Cond.selects "ProducerBook$Log" ({ cls := "ProducerBook$Log", name := "removeFirst", desc := "(I)I" } : Jvm.MethodName) ({ cls := "ProducerBook$Log", name := "removeFirst", desc := "(I)I" } : Jvm.MethodName) : Cond) ∈ AW := aw_mem (i := 264) rfl rfl
theorem aw_265 : (Jvm.Cond.code ({ cls := "ProducerBook$Log", name := "removeFirst", desc := "(I)I" } : Jvm.MethodName) prog_3_method_8_code (3 : Nat) (Option.some Jvm.ClassFile.FieldType.int) : Cond) ∈ AW := aw_mem (i := 265) rfl rfl
theorem aw_266 : (Jvm.Cond.methodLink "ProducerBook$Log" (66 : Nat) ({ cls := "java/lang/Math", name := "min", desc := "(II)I" } : Jvm.MethodName) : Cond) ∈ AW := aw_mem (i := 266) rfl rfl
theorem aw_267 : (Jvm.Cond.static ({ cls := "java/lang/Math", name := "min", desc := "(II)I" } : Jvm.MethodName) : Cond) ∈ AW := aw_mem (i := 267) rfl rfl
theorem aw_268 : (Jvm.Cond.code ({ cls := "java/lang/Math", name := "min", desc := "(II)I" } : Jvm.MethodName) prog_9_method_69_code (2 : Nat) (Option.some Jvm.ClassFile.FieldType.int) : Cond) ∈ AW := aw_mem (i := 268) rfl rfl
theorem aw_269 : (Jvm.Cond.methodLink "ProducerBookLaw" (61 : Nat) ({ cls := "ProducerBookLaw", name := "known", desc := "(LProducerBook;JI[J)I" } : Jvm.MethodName) : Cond) ∈ AW := aw_mem (i := 269) rfl rfl
theorem aw_270 : (Jvm.Cond.static ({ cls := "ProducerBookLaw", name := "known", desc := "(LProducerBook;JI[J)I" } : Jvm.MethodName) : Cond) ∈ AW := aw_mem (i := 270) rfl rfl
theorem aw_271 : (Jvm.Cond.codeWith ({ cls := "ProducerBookLaw", name := "known", desc := "(LProducerBook;JI[J)I" } : Jvm.MethodName) method_6_code (6 : Nat) (Option.some Jvm.ClassFile.FieldType.int) [((0 : Nat), (11 : Nat), (14 : Nat), (13 : Nat))] : Cond) ∈ AW := aw_mem (i := 271) rfl rfl
theorem aw_272 : (Jvm.Cond.methodLink "ProducerBookLaw" (25 : Nat) ({ cls := "ProducerBook", name := "known", desc := "(JI)I" } : Jvm.MethodName) : Cond) ∈ AW := aw_mem (i := 272) rfl rfl
theorem aw_273 : (Jvm.Cond.instanceMethod ({ cls := "ProducerBook", name := "known", desc := "(JI)I" } : Jvm.MethodName) : Cond) ∈ AW := aw_mem (i := 273) rfl rfl
theorem aw_274 : (Jvm.Cond.selects "ProducerBook" ({ cls := "ProducerBook", name := "known", desc := "(JI)I" } : Jvm.MethodName) ({ cls := "ProducerBook", name := "known", desc := "(JI)I" } : Jvm.MethodName) : Cond) ∈ AW := aw_mem (i := 274) rfl rfl
theorem aw_275 : (Jvm.Cond.code ({ cls := "ProducerBook", name := "known", desc := "(JI)I" } : Jvm.MethodName) prog_1_method_6_code (5 : Nat) (Option.some Jvm.ClassFile.FieldType.int) : Cond) ∈ AW := aw_mem (i := 275) rfl rfl
theorem aw_277 : (Jvm.Cond.methodLink "ProducerBook" (92 : Nat) ({ cls := "ProducerBook$Known", name := "first", desc := "()I" } : Jvm.MethodName) : Cond) ∈ AW := aw_mem (i := 277) rfl rfl
theorem aw_278 : (Jvm.Cond.instanceMethod ({ cls := "ProducerBook$Known", name := "first", desc := "()I" } : Jvm.MethodName) : Cond) ∈ AW := aw_mem (i := 278) rfl rfl
theorem aw_279 : (Jvm.Cond.selects "ProducerBook$Known" ({ cls := "ProducerBook$Known", name := "first", desc := "()I" } : Jvm.MethodName) ({ cls := "ProducerBook$Known", name := "first", desc := "()I" } : Jvm.MethodName) : Cond) ∈ AW := aw_mem (i := 279) rfl rfl
theorem aw_280 : (Jvm.Cond.code ({ cls := "ProducerBook$Known", name := "first", desc := "()I" } : Jvm.MethodName) prog_2_method_3_code (1 : Nat) (Option.some Jvm.ClassFile.FieldType.int) : Cond) ∈ AW := aw_mem (i := 280) rfl rfl
theorem aw_281 : (Jvm.Cond.methodLink "ProducerBookLaw" (65 : Nat) ({ cls := "ProducerBookLaw", name := "batch", desc := "(LProducerBook;II[J)I" } : Jvm.MethodName) : Cond) ∈ AW := aw_mem (i := 281) rfl rfl
theorem aw_282 : (Jvm.Cond.static ({ cls := "ProducerBookLaw", name := "batch", desc := "(LProducerBook;II[J)I" } : Jvm.MethodName) : Cond) ∈ AW := aw_mem (i := 282) rfl rfl
theorem aw_283 : (Jvm.Cond.codeWith ({ cls := "ProducerBookLaw", name := "batch", desc := "(LProducerBook;II[J)I" } : Jvm.MethodName) method_7_code (5 : Nat) (Option.some Jvm.ClassFile.FieldType.int) [((0 : Nat), (9 : Nat), (12 : Nat), (13 : Nat))] : Cond) ∈ AW := aw_mem (i := 283) rfl rfl
theorem aw_284 : (Jvm.Cond.methodLink "ProducerBookLaw" (29 : Nat) ({ cls := "ProducerBook", name := "batch", desc := "(II)J" } : Jvm.MethodName) : Cond) ∈ AW := aw_mem (i := 284) rfl rfl
theorem aw_285 : (Jvm.Cond.instanceMethod ({ cls := "ProducerBook", name := "batch", desc := "(II)J" } : Jvm.MethodName) : Cond) ∈ AW := aw_mem (i := 285) rfl rfl
theorem aw_286 : (Jvm.Cond.selects "ProducerBook" ({ cls := "ProducerBook", name := "batch", desc := "(II)J" } : Jvm.MethodName) ({ cls := "ProducerBook", name := "batch", desc := "(II)J" } : Jvm.MethodName) : Cond) ∈ AW := aw_mem (i := 286) rfl rfl
theorem aw_287 : (Jvm.Cond.code ({ cls := "ProducerBook", name := "batch", desc := "(II)J" } : Jvm.MethodName) prog_1_method_7_code (3 : Nat) (Option.some Jvm.ClassFile.FieldType.long) : Cond) ∈ AW := aw_mem (i := 287) rfl rfl
theorem aw_289 : (Jvm.Cond.methodLink "ProducerBook" (101 : Nat) ({ cls := "ProducerBook$Log", name := "isKnown", desc := "(I)Z" } : Jvm.MethodName) : Cond) ∈ AW := aw_mem (i := 289) rfl rfl
theorem aw_290 : (Jvm.Cond.methodLink "ProducerBookLaw" (72 : Nat) ({ cls := "ProducerBookLaw", name := "count", desc := "(LProducerBook;I[J)I" } : Jvm.MethodName) : Cond) ∈ AW := aw_mem (i := 290) rfl rfl
theorem aw_291 : (Jvm.Cond.static ({ cls := "ProducerBookLaw", name := "count", desc := "(LProducerBook;I[J)I" } : Jvm.MethodName) : Cond) ∈ AW := aw_mem (i := 291) rfl rfl
theorem aw_292 : (Jvm.Cond.codeWith ({ cls := "ProducerBookLaw", name := "count", desc := "(LProducerBook;I[J)I" } : Jvm.MethodName) method_8_code (4 : Nat) (Option.some Jvm.ClassFile.FieldType.int) [((0 : Nat), (9 : Nat), (12 : Nat), (13 : Nat))] : Cond) ∈ AW := aw_mem (i := 292) rfl rfl
theorem aw_293 : (Jvm.Cond.methodLink "ProducerBookLaw" (33 : Nat) ({ cls := "ProducerBook", name := "count", desc := "(I)I" } : Jvm.MethodName) : Cond) ∈ AW := aw_mem (i := 293) rfl rfl
theorem aw_294 : (Jvm.Cond.instanceMethod ({ cls := "ProducerBook", name := "count", desc := "(I)I" } : Jvm.MethodName) : Cond) ∈ AW := aw_mem (i := 294) rfl rfl
theorem aw_295 : (Jvm.Cond.selects "ProducerBook" ({ cls := "ProducerBook", name := "count", desc := "(I)I" } : Jvm.MethodName) ({ cls := "ProducerBook", name := "count", desc := "(I)I" } : Jvm.MethodName) : Cond) ∈ AW := aw_mem (i := 295) rfl rfl
theorem aw_296 : (Jvm.Cond.code ({ cls := "ProducerBook", name := "count", desc := "(I)I" } : Jvm.MethodName) prog_1_method_8_code (2 : Nat) (Option.some Jvm.ClassFile.FieldType.int) : Cond) ∈ AW := aw_mem (i := 296) rfl rfl
theorem aw_297 : (Jvm.Cond.methodLink "ProducerBook" (105 : Nat) ({ cls := "ProducerBook$Log", name := "countProducers", desc := "()I" } : Jvm.MethodName) : Cond) ∈ AW := aw_mem (i := 297) rfl rfl
theorem aw_298 : (Jvm.Cond.instanceMethod ({ cls := "ProducerBook$Log", name := "countProducers", desc := "()I" } : Jvm.MethodName) : Cond) ∈ AW := aw_mem (i := 298) rfl rfl
theorem aw_299 : (Jvm.Cond.selects "ProducerBook$Log" ({ cls := "ProducerBook$Log", name := "countProducers", desc := "()I" } : Jvm.MethodName) ({ cls := "ProducerBook$Log", name := "countProducers", desc := "()I" } : Jvm.MethodName) : Cond) ∈ AW := aw_mem (i := 299) rfl rfl
theorem aw_300 : (Jvm.Cond.code ({ cls := "ProducerBook$Log", name := "countProducers", desc := "()I" } : Jvm.MethodName) prog_3_method_10_code (3 : Nat) (Option.some Jvm.ClassFile.FieldType.int) : Cond) ∈ AW := aw_mem (i := 300) rfl rfl
theorem aw_302 : (Jvm.Cond.classLink "ProducerBookLaw" (37 : Nat) "ProducerBookModel" : Cond) ∈ AW := aw_mem (i := 302) rfl rfl
theorem aw_303 : (Jvm.Cond.instantiable "ProducerBookModel" (8 : Nat) : Cond) ∈ AW := aw_mem (i := 303) rfl rfl
theorem aw_304 : (Jvm.Cond.methodLink "ProducerBookLaw" (39 : Nat) ({ cls := "ProducerBookModel", name := "<init>", desc := "()V" } : Jvm.MethodName) : Cond) ∈ AW := aw_mem (i := 304) rfl rfl
theorem aw_305 : (Jvm.Cond.instanceMethod ({ cls := "ProducerBookModel", name := "<init>", desc := "()V" } : Jvm.MethodName) : Cond) ∈ AW := aw_mem (i := 305) rfl rfl
theorem aw_306 : (Jvm.Cond.code ({ cls := "ProducerBookModel", name := "<init>", desc := "()V" } : Jvm.MethodName) prog_5_method_1_code (1 : Nat) (Option.none : Option Jvm.ClassFile.FieldType) : Cond) ∈ AW := aw_mem (i := 306) rfl rfl
theorem aw_307 : (Jvm.Cond.methodLink "ProducerBookModel" (1 : Nat) ({ cls := "java/lang/Object", name := "<init>", desc := "()V" } : Jvm.MethodName) : Cond) ∈ AW := aw_mem (i := 307) rfl rfl
theorem aw_308 : (Jvm.Cond.fieldLink "ProducerBookModel" (26 : Nat) "ProducerBookModel" "code" "I" : Cond) ∈ AW := aw_mem (i := 308) rfl rfl
theorem aw_309 : (Jvm.Cond.fieldLink "ProducerBookModel" (32 : Nat) "ProducerBookModel" "count" "I" : Cond) ∈ AW := aw_mem (i := 309) rfl rfl
theorem aw_310 : (Jvm.Cond.fieldLink "ProducerBookModel" (45 : Nat) "ProducerBookModel" "end" "I" : Cond) ∈ AW := aw_mem (i := 310) rfl rfl
theorem aw_311 : (Jvm.Cond.fieldLink "ProducerBookModel" (7 : Nat) "ProducerBookModel" "base" "[I" : Cond) ∈ AW := aw_mem (i := 311) rfl rfl
theorem aw_312 : (Jvm.Cond.fieldLink "ProducerBookModel" (13 : Nat) "ProducerBookModel" "producer" "[J" : Cond) ∈ AW := aw_mem (i := 312) rfl rfl
theorem aw_313 : (Jvm.Cond.fieldLink "ProducerBookModel" (17 : Nat) "ProducerBookModel" "epoch" "[I" : Cond) ∈ AW := aw_mem (i := 313) rfl rfl
theorem aw_314 : (Jvm.Cond.fieldLink "ProducerBookModel" (20 : Nat) "ProducerBookModel" "sequence" "[I" : Cond) ∈ AW := aw_mem (i := 314) rfl rfl
theorem aw_315 : (Jvm.Cond.fieldLink "ProducerBookModel" (23 : Nat) "ProducerBookModel" "last" "[I" : Cond) ∈ AW := aw_mem (i := 315) rfl rfl
theorem aw_333 : (Jvm.Cond.methodLink "ProducerBookLaw" (69 : Nat) ({ cls := "ProducerBookModel", name := "thrown", desc := "()I" } : Jvm.MethodName) : Cond) ∈ AW := aw_mem (i := 333) rfl rfl
theorem aw_334 : (Jvm.Cond.instanceMethod ({ cls := "ProducerBookModel", name := "thrown", desc := "()I" } : Jvm.MethodName) : Cond) ∈ AW := aw_mem (i := 334) rfl rfl
theorem aw_335 : (Jvm.Cond.selects "ProducerBookModel" ({ cls := "ProducerBookModel", name := "thrown", desc := "()I" } : Jvm.MethodName) ({ cls := "ProducerBookModel", name := "thrown", desc := "()I" } : Jvm.MethodName) : Cond) ∈ AW := aw_mem (i := 335) rfl rfl
theorem aw_336 : (Jvm.Cond.code ({ cls := "ProducerBookModel", name := "thrown", desc := "()I" } : Jvm.MethodName) prog_5_method_2_code (1 : Nat) (Option.some Jvm.ClassFile.FieldType.int) : Cond) ∈ AW := aw_mem (i := 336) rfl rfl
theorem aw_337 : (Jvm.Cond.methodLink "ProducerBookLaw" (47 : Nat) ({ cls := "ProducerBookModel", name := "offer", desc := "(JIII)I" } : Jvm.MethodName) : Cond) ∈ AW := aw_mem (i := 337) rfl rfl
theorem aw_338 : (Jvm.Cond.instanceMethod ({ cls := "ProducerBookModel", name := "offer", desc := "(JIII)I" } : Jvm.MethodName) : Cond) ∈ AW := aw_mem (i := 338) rfl rfl
theorem aw_339 : (Jvm.Cond.selects "ProducerBookModel" ({ cls := "ProducerBookModel", name := "offer", desc := "(JIII)I" } : Jvm.MethodName) ({ cls := "ProducerBookModel", name := "offer", desc := "(JIII)I" } : Jvm.MethodName) : Cond) ∈ AW := aw_mem (i := 339) rfl rfl
theorem aw_340 : (Jvm.Cond.code ({ cls := "ProducerBookModel", name := "offer", desc := "(JIII)I" } : Jvm.MethodName) prog_5_method_8_code (7 : Nat) (Option.some Jvm.ClassFile.FieldType.int) : Cond) ∈ AW := aw_mem (i := 340) rfl rfl
theorem aw_341 : (Jvm.Cond.methodLink "ProducerBookModel" (48 : Nat) ({ cls := "ProducerBookModel", name := "isBatch", desc := "(JIII)Z" } : Jvm.MethodName) : Cond) ∈ AW := aw_mem (i := 341) rfl rfl
theorem aw_342 : (Jvm.Cond.static ({ cls := "ProducerBookModel", name := "isBatch", desc := "(JIII)Z" } : Jvm.MethodName) : Cond) ∈ AW := aw_mem (i := 342) rfl rfl
theorem aw_343 : (Jvm.Cond.code ({ cls := "ProducerBookModel", name := "isBatch", desc := "(JIII)Z" } : Jvm.MethodName) prog_5_method_3_code (5 : Nat) (Option.some Jvm.ClassFile.FieldType.boolean) : Cond) ∈ AW := aw_mem (i := 343) rfl rfl
theorem aw_344 : (Jvm.Cond.constantLong "ProducerBookModel" (30 : Nat) (-1 : Int64) : Cond) ∈ AW := aw_mem (i := 344) rfl rfl
theorem aw_345 : (Jvm.Cond.methodLink "ProducerBookModel" (52 : Nat) ({ cls := "ProducerBookModel", name := "judged", desc := "(JIII)I" } : Jvm.MethodName) : Cond) ∈ AW := aw_mem (i := 345) rfl rfl
theorem aw_347 : (Jvm.Cond.instanceMethod ({ cls := "ProducerBookModel", name := "judged", desc := "(JIII)I" } : Jvm.MethodName) : Cond) ∈ AW := aw_mem (i := 347) rfl rfl
theorem aw_348 : (Jvm.Cond.code ({ cls := "ProducerBookModel", name := "judged", desc := "(JIII)I" } : Jvm.MethodName) prog_5_method_6_code (9 : Nat) (Option.some Jvm.ClassFile.FieldType.int) : Cond) ∈ AW := aw_mem (i := 348) rfl rfl
theorem aw_349 : (Jvm.Cond.methodLink "ProducerBookModel" (37 : Nat) ({ cls := "ProducerBookModel", name := "knownOne", desc := "(JI)I" } : Jvm.MethodName) : Cond) ∈ AW := aw_mem (i := 349) rfl rfl
theorem aw_351 : (Jvm.Cond.instanceMethod ({ cls := "ProducerBookModel", name := "knownOne", desc := "(JI)I" } : Jvm.MethodName) : Cond) ∈ AW := aw_mem (i := 351) rfl rfl
theorem aw_352 : (Jvm.Cond.code ({ cls := "ProducerBookModel", name := "knownOne", desc := "(JI)I" } : Jvm.MethodName) prog_5_method_4_code (6 : Nat) (Option.some Jvm.ClassFile.FieldType.int) : Cond) ∈ AW := aw_mem (i := 352) rfl rfl
theorem aw_353 : (Jvm.Cond.methodLink "ProducerBookModel" (41 : Nat) ({ cls := "ProducerBookModel", name := "after", desc := "(II)I" } : Jvm.MethodName) : Cond) ∈ AW := aw_mem (i := 353) rfl rfl
theorem aw_354 : (Jvm.Cond.static ({ cls := "ProducerBookModel", name := "after", desc := "(II)I" } : Jvm.MethodName) : Cond) ∈ AW := aw_mem (i := 354) rfl rfl
theorem aw_355 : (Jvm.Cond.code ({ cls := "ProducerBookModel", name := "after", desc := "(II)I" } : Jvm.MethodName) prog_5_method_5_code (4 : Nat) (Option.some Jvm.ClassFile.FieldType.int) : Cond) ∈ AW := aw_mem (i := 355) rfl rfl
theorem aw_356 : (Jvm.Cond.constantLong "ProducerBookModel" (35 : Nat) (2147483648 : Int64) : Cond) ∈ AW := aw_mem (i := 356) rfl rfl
theorem aw_357 : (Jvm.Cond.constant "ProducerBookModel" (56 : Nat) (1000000 : Int32) : Cond) ∈ AW := aw_mem (i := 357) rfl rfl
theorem aw_358 : (Jvm.Cond.methodLink "ProducerBookModel" (57 : Nat) ({ cls := "ProducerBookModel", name := "come", desc := "(JIII)V" } : Jvm.MethodName) : Cond) ∈ AW := aw_mem (i := 358) rfl rfl
theorem aw_360 : (Jvm.Cond.instanceMethod ({ cls := "ProducerBookModel", name := "come", desc := "(JIII)V" } : Jvm.MethodName) : Cond) ∈ AW := aw_mem (i := 360) rfl rfl
theorem aw_361 : (Jvm.Cond.code ({ cls := "ProducerBookModel", name := "come", desc := "(JIII)V" } : Jvm.MethodName) prog_5_method_7_code (6 : Nat) (Option.none : Option Jvm.ClassFile.FieldType) : Cond) ∈ AW := aw_mem (i := 361) rfl rfl
theorem aw_362 : (Jvm.Cond.methodLink "ProducerBookLaw" (51 : Nat) ({ cls := "ProducerBookModel", name := "offers", desc := "(IJIII)I" } : Jvm.MethodName) : Cond) ∈ AW := aw_mem (i := 362) rfl rfl
theorem aw_363 : (Jvm.Cond.instanceMethod ({ cls := "ProducerBookModel", name := "offers", desc := "(IJIII)I" } : Jvm.MethodName) : Cond) ∈ AW := aw_mem (i := 363) rfl rfl
theorem aw_364 : (Jvm.Cond.selects "ProducerBookModel" ({ cls := "ProducerBookModel", name := "offers", desc := "(IJIII)I" } : Jvm.MethodName) ({ cls := "ProducerBookModel", name := "offers", desc := "(IJIII)I" } : Jvm.MethodName) : Cond) ∈ AW := aw_mem (i := 364) rfl rfl
theorem aw_365 : (Jvm.Cond.code ({ cls := "ProducerBookModel", name := "offers", desc := "(IJIII)I" } : Jvm.MethodName) prog_5_method_9_code (10 : Nat) (Option.some Jvm.ClassFile.FieldType.int) : Cond) ∈ AW := aw_mem (i := 365) rfl rfl
theorem aw_366 : (Jvm.Cond.methodLink "ProducerBookLaw" (55 : Nat) ({ cls := "ProducerBookModel", name := "drop", desc := "(I)I" } : Jvm.MethodName) : Cond) ∈ AW := aw_mem (i := 366) rfl rfl
theorem aw_367 : (Jvm.Cond.instanceMethod ({ cls := "ProducerBookModel", name := "drop", desc := "(I)I" } : Jvm.MethodName) : Cond) ∈ AW := aw_mem (i := 367) rfl rfl
theorem aw_368 : (Jvm.Cond.selects "ProducerBookModel" ({ cls := "ProducerBookModel", name := "drop", desc := "(I)I" } : Jvm.MethodName) ({ cls := "ProducerBookModel", name := "drop", desc := "(I)I" } : Jvm.MethodName) : Cond) ∈ AW := aw_mem (i := 368) rfl rfl
theorem aw_369 : (Jvm.Cond.code ({ cls := "ProducerBookModel", name := "drop", desc := "(I)I" } : Jvm.MethodName) prog_5_method_11_code (4 : Nat) (Option.some Jvm.ClassFile.FieldType.int) : Cond) ∈ AW := aw_mem (i := 369) rfl rfl
theorem aw_370 : (Jvm.Cond.methodLink "ProducerBookModel" (61 : Nat) ({ cls := "ProducerBookModel", name := "copy", desc := "(II)V" } : Jvm.MethodName) : Cond) ∈ AW := aw_mem (i := 370) rfl rfl
theorem aw_372 : (Jvm.Cond.instanceMethod ({ cls := "ProducerBookModel", name := "copy", desc := "(II)V" } : Jvm.MethodName) : Cond) ∈ AW := aw_mem (i := 372) rfl rfl
theorem aw_373 : (Jvm.Cond.code ({ cls := "ProducerBookModel", name := "copy", desc := "(II)V" } : Jvm.MethodName) prog_5_method_10_code (3 : Nat) (Option.none : Option Jvm.ClassFile.FieldType) : Cond) ∈ AW := aw_mem (i := 373) rfl rfl
theorem aw_374 : (Jvm.Cond.methodLink "ProducerBookLaw" (60 : Nat) ({ cls := "ProducerBookModel", name := "thin", desc := "()I" } : Jvm.MethodName) : Cond) ∈ AW := aw_mem (i := 374) rfl rfl
theorem aw_375 : (Jvm.Cond.instanceMethod ({ cls := "ProducerBookModel", name := "thin", desc := "()I" } : Jvm.MethodName) : Cond) ∈ AW := aw_mem (i := 375) rfl rfl
theorem aw_376 : (Jvm.Cond.selects "ProducerBookModel" ({ cls := "ProducerBookModel", name := "thin", desc := "()I" } : Jvm.MethodName) ({ cls := "ProducerBookModel", name := "thin", desc := "()I" } : Jvm.MethodName) : Cond) ∈ AW := aw_mem (i := 376) rfl rfl
theorem aw_377 : (Jvm.Cond.code ({ cls := "ProducerBookModel", name := "thin", desc := "()I" } : Jvm.MethodName) prog_5_method_14_code (4 : Nat) (Option.some Jvm.ClassFile.FieldType.int) : Cond) ∈ AW := aw_mem (i := 377) rfl rfl
theorem aw_378 : (Jvm.Cond.methodLink "ProducerBookModel" (69 : Nat) ({ cls := "ProducerBookModel", name := "isKnown", desc := "(I)Z" } : Jvm.MethodName) : Cond) ∈ AW := aw_mem (i := 378) rfl rfl
theorem aw_380 : (Jvm.Cond.instanceMethod ({ cls := "ProducerBookModel", name := "isKnown", desc := "(I)Z" } : Jvm.MethodName) : Cond) ∈ AW := aw_mem (i := 380) rfl rfl
theorem aw_381 : (Jvm.Cond.code ({ cls := "ProducerBookModel", name := "isKnown", desc := "(I)Z" } : Jvm.MethodName) prog_5_method_13_code (2 : Nat) (Option.some Jvm.ClassFile.FieldType.boolean) : Cond) ∈ AW := aw_mem (i := 381) rfl rfl
theorem aw_382 : (Jvm.Cond.methodLink "ProducerBookModel" (65 : Nat) ({ cls := "ProducerBookModel", name := "laterOnes", desc := "(I)I" } : Jvm.MethodName) : Cond) ∈ AW := aw_mem (i := 382) rfl rfl
theorem aw_384 : (Jvm.Cond.instanceMethod ({ cls := "ProducerBookModel", name := "laterOnes", desc := "(I)I" } : Jvm.MethodName) : Cond) ∈ AW := aw_mem (i := 384) rfl rfl
theorem aw_385 : (Jvm.Cond.code ({ cls := "ProducerBookModel", name := "laterOnes", desc := "(I)I" } : Jvm.MethodName) prog_5_method_12_code (4 : Nat) (Option.some Jvm.ClassFile.FieldType.int) : Cond) ∈ AW := aw_mem (i := 385) rfl rfl
theorem aw_386 : (Jvm.Cond.methodLink "ProducerBookLaw" (64 : Nat) ({ cls := "ProducerBookModel", name := "known", desc := "(JI)I" } : Jvm.MethodName) : Cond) ∈ AW := aw_mem (i := 386) rfl rfl
theorem aw_387 : (Jvm.Cond.instanceMethod ({ cls := "ProducerBookModel", name := "known", desc := "(JI)I" } : Jvm.MethodName) : Cond) ∈ AW := aw_mem (i := 387) rfl rfl
theorem aw_388 : (Jvm.Cond.selects "ProducerBookModel" ({ cls := "ProducerBookModel", name := "known", desc := "(JI)I" } : Jvm.MethodName) ({ cls := "ProducerBookModel", name := "known", desc := "(JI)I" } : Jvm.MethodName) : Cond) ∈ AW := aw_mem (i := 388) rfl rfl
theorem aw_389 : (Jvm.Cond.code ({ cls := "ProducerBookModel", name := "known", desc := "(JI)I" } : Jvm.MethodName) prog_5_method_15_code (6 : Nat) (Option.some Jvm.ClassFile.FieldType.int) : Cond) ∈ AW := aw_mem (i := 389) rfl rfl
theorem aw_390 : (Jvm.Cond.methodLink "ProducerBookLaw" (68 : Nat) ({ cls := "ProducerBookModel", name := "batch", desc := "(II)J" } : Jvm.MethodName) : Cond) ∈ AW := aw_mem (i := 390) rfl rfl
theorem aw_391 : (Jvm.Cond.instanceMethod ({ cls := "ProducerBookModel", name := "batch", desc := "(II)J" } : Jvm.MethodName) : Cond) ∈ AW := aw_mem (i := 391) rfl rfl
theorem aw_392 : (Jvm.Cond.selects "ProducerBookModel" ({ cls := "ProducerBookModel", name := "batch", desc := "(II)J" } : Jvm.MethodName) ({ cls := "ProducerBookModel", name := "batch", desc := "(II)J" } : Jvm.MethodName) : Cond) ∈ AW := aw_mem (i := 392) rfl rfl
theorem aw_393 : (Jvm.Cond.code ({ cls := "ProducerBookModel", name := "batch", desc := "(II)J" } : Jvm.MethodName) prog_5_method_16_code (3 : Nat) (Option.some Jvm.ClassFile.FieldType.long) : Cond) ∈ AW := aw_mem (i := 393) rfl rfl
theorem aw_394 : (Jvm.Cond.methodLink "ProducerBookLaw" (74 : Nat) ({ cls := "ProducerBookModel", name := "count", desc := "(I)I" } : Jvm.MethodName) : Cond) ∈ AW := aw_mem (i := 394) rfl rfl
theorem aw_395 : (Jvm.Cond.instanceMethod ({ cls := "ProducerBookModel", name := "count", desc := "(I)I" } : Jvm.MethodName) : Cond) ∈ AW := aw_mem (i := 395) rfl rfl
theorem aw_396 : (Jvm.Cond.selects "ProducerBookModel" ({ cls := "ProducerBookModel", name := "count", desc := "(I)I" } : Jvm.MethodName) ({ cls := "ProducerBookModel", name := "count", desc := "(I)I" } : Jvm.MethodName) : Cond) ∈ AW := aw_mem (i := 396) rfl rfl
theorem aw_397 : (Jvm.Cond.code ({ cls := "ProducerBookModel", name := "count", desc := "(I)I" } : Jvm.MethodName) prog_5_method_17_code (4 : Nat) (Option.some Jvm.ClassFile.FieldType.int) : Cond) ∈ AW := aw_mem (i := 397) rfl rfl
theorem aw_398 : (Jvm.Cond.constantLong "ProducerBookLaw" (40 : Nat) (4294967295 : Int64) : Cond) ∈ AW := aw_mem (i := 398) rfl rfl
theorem aw_s0 : (Cond.selects "ProducerBook$Log" ⟨"ProducerBook$Log", "move", "(III)V"⟩ ⟨"ProducerBook$Log", "move", "(III)V"⟩) ∈ AW := aw_sel (i := 0) rfl rfl
theorem aw_s1 : (Cond.selects "java/lang/Throwable" ⟨"java/lang/Throwable", "fillInStackTrace", "(I)Ljava/lang/Throwable;"⟩ ⟨"java/lang/Throwable", "fillInStackTrace", "(I)Ljava/lang/Throwable;"⟩) ∈ AW := aw_sel (i := 1) rfl rfl
theorem aw_s2 : (Cond.selects "ProducerBook" ⟨"ProducerBook", "send", "(JIII)I"⟩ ⟨"ProducerBook", "send", "(JIII)I"⟩) ∈ AW := aw_sel (i := 2) rfl rfl
theorem aw_s3 : (Cond.selects "ProducerBook" ⟨"ProducerBook", "answerOfKnown", "(III)I"⟩ ⟨"ProducerBook", "answerOfKnown", "(III)I"⟩) ∈ AW := aw_sel (i := 3) rfl rfl
theorem aw_s4 : (Cond.selects "ProducerBook$Log" ⟨"ProducerBook$Log", "becomeLatest", "(LProducerBook$Known;I)V"⟩ ⟨"ProducerBook$Log", "becomeLatest", "(LProducerBook$Known;I)V"⟩) ∈ AW := aw_sel (i := 4) rfl rfl
theorem aw_s5 : (Cond.selects "ProducerBookModel" ⟨"ProducerBookModel", "judged", "(JIII)I"⟩ ⟨"ProducerBookModel", "judged", "(JIII)I"⟩) ∈ AW := aw_sel (i := 5) rfl rfl
theorem aw_s6 : (Cond.selects "ProducerBookModel" ⟨"ProducerBookModel", "knownOne", "(JI)I"⟩ ⟨"ProducerBookModel", "knownOne", "(JI)I"⟩) ∈ AW := aw_sel (i := 6) rfl rfl
theorem aw_s7 : (Cond.selects "ProducerBookModel" ⟨"ProducerBookModel", "come", "(JIII)V"⟩ ⟨"ProducerBookModel", "come", "(JIII)V"⟩) ∈ AW := aw_sel (i := 7) rfl rfl
theorem aw_s8 : (Cond.selects "ProducerBookModel" ⟨"ProducerBookModel", "copy", "(II)V"⟩ ⟨"ProducerBookModel", "copy", "(II)V"⟩) ∈ AW := aw_sel (i := 8) rfl rfl
theorem aw_s9 : (Cond.selects "ProducerBookModel" ⟨"ProducerBookModel", "isKnown", "(I)Z"⟩ ⟨"ProducerBookModel", "isKnown", "(I)Z"⟩) ∈ AW := aw_sel (i := 9) rfl rfl
theorem aw_s10 : (Cond.selects "ProducerBookModel" ⟨"ProducerBookModel", "laterOnes", "(I)I"⟩ ⟨"ProducerBookModel", "laterOnes", "(I)I"⟩) ∈ AW := aw_sel (i := 10) rfl rfl
abbrev RX0 : String := "ProducerBook$Known"
def TX0 : u_T := fun k => match k with
  | 0 => ("ProducerBook$Known", "places", "[I", true)
  | _ => ("ProducerBook$Known", "size", "I", false)
def tyX0 : Nat → FieldType := fun k => match k with
  | 0 => .array .int
  | _ => .int
theorem nX0 : ∀ a, a < 2 → ∀ b, b < 2 → a ≠ b → (TX0 a).2.1 ≠ (TX0 b).2.1 := by decide +kernel
theorem tyX0_ok : ∀ k, k < 2 → parseFieldDescriptor (TX0 k).2.2.1 = some (tyX0 k) := by decide +kernel
theorem inX0 : ∀ w ∈ u_ws RX0 TX0 2, w ∈ AW := by
  intro w hw
  obtain ⟨k, hk, rfl⟩ := List.mem_map.mp hw
  have hk := List.mem_range.mp hk
  match k, hk with
  | 0, _ => exact aw_mem (i := 71) rfl rfl
  | 1, _ => exact aw_mem (i := 73) rfl rfl
  | k + 2, hk => exact absurd hk (by omega)
abbrev RX1 : String := "ProducerBook$Log"
def TX1 : u_T := fun k => match k with
  | 0 => ("ProducerBook$Log", "base", "[I", true)
  | 1 => ("ProducerBook$Log", "producer", "[J", true)
  | 2 => ("ProducerBook$Log", "epoch", "[I", true)
  | 3 => ("ProducerBook$Log", "sequence", "[I", true)
  | 4 => ("ProducerBook$Log", "last", "[I", true)
  | 5 => ("ProducerBook$Log", "newer", "[I", true)
  | 6 => ("ProducerBook$Log", "size", "I", false)
  | _ => ("ProducerBook$Log", "end", "I", false)
def tyX1 : Nat → FieldType := fun k => match k with
  | 0 => .array .int
  | 1 => .array .long
  | 2 => .array .int
  | 3 => .array .int
  | 4 => .array .int
  | 5 => .array .int
  | 6 => .int
  | _ => .int
theorem nX1 : ∀ a, a < 8 → ∀ b, b < 8 → a ≠ b → (TX1 a).2.1 ≠ (TX1 b).2.1 := by decide +kernel
theorem tyX1_ok : ∀ k, k < 8 → parseFieldDescriptor (TX1 k).2.2.1 = some (tyX1 k) := by decide +kernel
theorem inX1 : ∀ w ∈ u_ws RX1 TX1 8, w ∈ AW := by
  intro w hw
  obtain ⟨k, hk, rfl⟩ := List.mem_map.mp hw
  have hk := List.mem_range.mp hk
  match k, hk with
  | 0, _ => exact aw_mem (i := 41) rfl rfl
  | 1, _ => exact aw_mem (i := 43) rfl rfl
  | 2, _ => exact aw_mem (i := 45) rfl rfl
  | 3, _ => exact aw_mem (i := 47) rfl rfl
  | 4, _ => exact aw_mem (i := 49) rfl rfl
  | 5, _ => exact aw_mem (i := 51) rfl rfl
  | 6, _ => exact aw_mem (i := 53) rfl rfl
  | 7, _ => exact aw_mem (i := 55) rfl rfl
  | k + 8, hk => exact absurd hk (by omega)
abbrev RX2 : String := "ProducerBook"
def TX2 : u_T := fun k => match k with
  | 0 => ("ProducerBook", "log", "LProducerBook$Log;", true)
  | _ => ("ProducerBook", "recalled", "LProducerBook$Known;", true)
def tyX2 : Nat → FieldType := fun k => match k with
  | 0 => .object "ProducerBook$Log"
  | _ => .object "ProducerBook$Known"
theorem nX2 : ∀ a, a < 2 → ∀ b, b < 2 → a ≠ b → (TX2 a).2.1 ≠ (TX2 b).2.1 := by decide +kernel
theorem tyX2_ok : ∀ k, k < 2 → parseFieldDescriptor (TX2 k).2.2.1 = some (tyX2 k) := by decide +kernel
theorem inX2 : ∀ w ∈ u_ws RX2 TX2 2, w ∈ AW := by
  intro w hw
  obtain ⟨k, hk, rfl⟩ := List.mem_map.mp hw
  have hk := List.mem_range.mp hk
  match k, hk with
  | 0, _ => exact aw_mem (i := 78) rfl rfl
  | 1, _ => exact aw_mem (i := 80) rfl rfl
  | k + 2, hk => exact absurd hk (by omega)
abbrev RX3 : String := "ProducerBookModel"
def TX3 : u_T := fun k => match k with
  | 0 => ("ProducerBookModel", "code", "I", false)
  | 1 => ("ProducerBookModel", "count", "I", false)
  | 2 => ("ProducerBookModel", "end", "I", false)
  | 3 => ("ProducerBookModel", "base", "[I", true)
  | 4 => ("ProducerBookModel", "producer", "[J", true)
  | 5 => ("ProducerBookModel", "epoch", "[I", true)
  | 6 => ("ProducerBookModel", "sequence", "[I", true)
  | _ => ("ProducerBookModel", "last", "[I", true)
def tyX3 : Nat → FieldType := fun k => match k with
  | 0 => .int
  | 1 => .int
  | 2 => .int
  | 3 => .array .int
  | 4 => .array .long
  | 5 => .array .int
  | 6 => .array .int
  | _ => .array .int
theorem nX3 : ∀ a, a < 8 → ∀ b, b < 8 → a ≠ b → (TX3 a).2.1 ≠ (TX3 b).2.1 := by decide +kernel
theorem tyX3_ok : ∀ k, k < 8 → parseFieldDescriptor (TX3 k).2.2.1 = some (tyX3 k) := by decide +kernel
theorem inX3 : ∀ w ∈ u_ws RX3 TX3 8, w ∈ AW := by
  intro w hw
  obtain ⟨k, hk, rfl⟩ := List.mem_map.mp hw
  have hk := List.mem_range.mp hk
  match k, hk with
  | 0, _ => exact aw_mem (i := 316) rfl rfl
  | 1, _ => exact aw_mem (i := 318) rfl rfl
  | 2, _ => exact aw_mem (i := 320) rfl rfl
  | 3, _ => exact aw_mem (i := 322) rfl rfl
  | 4, _ => exact aw_mem (i := 324) rfl rfl
  | 5, _ => exact aw_mem (i := 326) rfl rfl
  | 6, _ => exact aw_mem (i := 328) rfl rfl
  | 7, _ => exact aw_mem (i := 330) rfl rfl
  | k + 8, hk => exact absurd hk (by omega)
abbrev RL : String := "ProducerBookLaw"
abbrev classes : List vw_C := [(RX0, TX0, 2), (RX1, TX1, 8), (RX2, TX2, 2), (RX3, TX3, 8)]
abbrev cX2_init : ByteArray := prog_1_method_1_code
abbrev yX2_init : MethodName := ⟨"ProducerBook", "<init>", "()V"⟩
abbrev wsX2_init : List Cond := .code yX2_init cX2_init 1 none :: AW
abbrev cX2_offer : ByteArray := prog_1_method_2_code
abbrev yX2_offer : MethodName := ⟨"ProducerBook", "offer", "(JIII)I"⟩
abbrev wsX2_offer : List Cond := .code yX2_offer cX2_offer 7 (some .int) :: AW
abbrev cX2_offers : ByteArray := prog_1_method_3_code
abbrev yX2_offers : MethodName := ⟨"ProducerBook", "offers", "(IJIII)I"⟩
abbrev wsX2_offers : List Cond := .code yX2_offers cX2_offers 10 (some .int) :: AW
abbrev cX2_drop : ByteArray := prog_1_method_4_code
abbrev yX2_drop : MethodName := ⟨"ProducerBook", "drop", "(I)I"⟩
abbrev wsX2_drop : List Cond := .code yX2_drop cX2_drop 2 (some .int) :: AW
abbrev cX2_thin : ByteArray := prog_1_method_5_code
abbrev yX2_thin : MethodName := ⟨"ProducerBook", "thin", "()I"⟩
abbrev wsX2_thin : List Cond := .code yX2_thin cX2_thin 1 (some .int) :: AW
abbrev cX2_known : ByteArray := prog_1_method_6_code
abbrev yX2_known : MethodName := ⟨"ProducerBook", "known", "(JI)I"⟩
abbrev wsX2_known : List Cond := .code yX2_known cX2_known 5 (some .int) :: AW
abbrev cX2_batch : ByteArray := prog_1_method_7_code
abbrev yX2_batch : MethodName := ⟨"ProducerBook", "batch", "(II)J"⟩
abbrev wsX2_batch : List Cond := .code yX2_batch cX2_batch 3 (some .long) :: AW
abbrev cX2_count : ByteArray := prog_1_method_8_code
abbrev yX2_count : MethodName := ⟨"ProducerBook", "count", "(I)I"⟩
abbrev wsX2_count : List Cond := .code yX2_count cX2_count 2 (some .int) :: AW
abbrev cX2_isLegal : ByteArray := prog_1_method_9_code
abbrev yX2_isLegal : MethodName := ⟨"ProducerBook", "isLegal", "(JIII)Z"⟩
abbrev wsX2_isLegal : List Cond := .code yX2_isLegal cX2_isLegal 5 (some .boolean) :: AW
abbrev cX2_sequenceBehind : ByteArray := prog_1_method_10_code
abbrev yX2_sequenceBehind : MethodName := ⟨"ProducerBook", "sequenceBehind", "(II)I"⟩
abbrev wsX2_sequenceBehind : List Cond := .code yX2_sequenceBehind cX2_sequenceBehind 2 (some .int) :: AW
abbrev cX2_send : ByteArray := prog_1_method_11_code
abbrev yX2_send : MethodName := ⟨"ProducerBook", "send", "(JIII)I"⟩
abbrev wsX2_send : List Cond := .code yX2_send cX2_send 7 (some .int) :: AW
abbrev cX2_answerOfKnown : ByteArray := prog_1_method_12_code
abbrev yX2_answerOfKnown : MethodName := ⟨"ProducerBook", "answerOfKnown", "(III)I"⟩
abbrev wsX2_answerOfKnown : List Cond := .code yX2_answerOfKnown cX2_answerOfKnown 8 (some .int) :: AW
abbrev cX3_init : ByteArray := prog_5_method_1_code
abbrev yX3_init : MethodName := ⟨"ProducerBookModel", "<init>", "()V"⟩
abbrev wsX3_init : List Cond := .code yX3_init cX3_init 1 none :: AW
abbrev cX3_thrown : ByteArray := prog_5_method_2_code
abbrev yX3_thrown : MethodName := ⟨"ProducerBookModel", "thrown", "()I"⟩
abbrev wsX3_thrown : List Cond := .code yX3_thrown cX3_thrown 1 (some .int) :: AW
abbrev cX3_isBatch : ByteArray := prog_5_method_3_code
abbrev yX3_isBatch : MethodName := ⟨"ProducerBookModel", "isBatch", "(JIII)Z"⟩
abbrev wsX3_isBatch : List Cond := .code yX3_isBatch cX3_isBatch 5 (some .boolean) :: AW
abbrev cX3_knownOne : ByteArray := prog_5_method_4_code
abbrev yX3_knownOne : MethodName := ⟨"ProducerBookModel", "knownOne", "(JI)I"⟩
abbrev wsX3_knownOne : List Cond := .code yX3_knownOne cX3_knownOne 6 (some .int) :: AW
abbrev cX3_after : ByteArray := prog_5_method_5_code
abbrev yX3_after : MethodName := ⟨"ProducerBookModel", "after", "(II)I"⟩
abbrev wsX3_after : List Cond := .code yX3_after cX3_after 4 (some .int) :: AW
abbrev cX3_judged : ByteArray := prog_5_method_6_code
abbrev yX3_judged : MethodName := ⟨"ProducerBookModel", "judged", "(JIII)I"⟩
abbrev wsX3_judged : List Cond := .code yX3_judged cX3_judged 9 (some .int) :: AW
abbrev cX3_come : ByteArray := prog_5_method_7_code
abbrev yX3_come : MethodName := ⟨"ProducerBookModel", "come", "(JIII)V"⟩
abbrev wsX3_come : List Cond := .code yX3_come cX3_come 6 none :: AW
abbrev cX3_offer : ByteArray := prog_5_method_8_code
abbrev yX3_offer : MethodName := ⟨"ProducerBookModel", "offer", "(JIII)I"⟩
abbrev wsX3_offer : List Cond := .code yX3_offer cX3_offer 7 (some .int) :: AW
abbrev cX3_offers : ByteArray := prog_5_method_9_code
abbrev yX3_offers : MethodName := ⟨"ProducerBookModel", "offers", "(IJIII)I"⟩
abbrev wsX3_offers : List Cond := .code yX3_offers cX3_offers 10 (some .int) :: AW
abbrev cX3_copy : ByteArray := prog_5_method_10_code
abbrev yX3_copy : MethodName := ⟨"ProducerBookModel", "copy", "(II)V"⟩
abbrev wsX3_copy : List Cond := .code yX3_copy cX3_copy 3 none :: AW
abbrev cX3_drop : ByteArray := prog_5_method_11_code
abbrev yX3_drop : MethodName := ⟨"ProducerBookModel", "drop", "(I)I"⟩
abbrev wsX3_drop : List Cond := .code yX3_drop cX3_drop 4 (some .int) :: AW
abbrev cX3_laterOnes : ByteArray := prog_5_method_12_code
abbrev yX3_laterOnes : MethodName := ⟨"ProducerBookModel", "laterOnes", "(I)I"⟩
abbrev wsX3_laterOnes : List Cond := .code yX3_laterOnes cX3_laterOnes 4 (some .int) :: AW
abbrev cX3_isKnown : ByteArray := prog_5_method_13_code
abbrev yX3_isKnown : MethodName := ⟨"ProducerBookModel", "isKnown", "(I)Z"⟩
abbrev wsX3_isKnown : List Cond := .code yX3_isKnown cX3_isKnown 2 (some .boolean) :: AW
abbrev cX3_thin : ByteArray := prog_5_method_14_code
abbrev yX3_thin : MethodName := ⟨"ProducerBookModel", "thin", "()I"⟩
abbrev wsX3_thin : List Cond := .code yX3_thin cX3_thin 4 (some .int) :: AW
abbrev cX3_known : ByteArray := prog_5_method_15_code
abbrev yX3_known : MethodName := ⟨"ProducerBookModel", "known", "(JI)I"⟩
abbrev wsX3_known : List Cond := .code yX3_known cX3_known 6 (some .int) :: AW
abbrev cX3_batch : ByteArray := prog_5_method_16_code
abbrev yX3_batch : MethodName := ⟨"ProducerBookModel", "batch", "(II)J"⟩
abbrev wsX3_batch : List Cond := .code yX3_batch cX3_batch 3 (some .long) :: AW
abbrev cX3_count : ByteArray := prog_5_method_17_code
abbrev yX3_count : MethodName := ⟨"ProducerBookModel", "count", "(I)I"⟩
abbrev wsX3_count : List Cond := .code yX3_count cX3_count 4 (some .int) :: AW
abbrev cX0_init : ByteArray := prog_2_method_1_code
abbrev yX0_init : MethodName := ⟨"ProducerBook$Known", "<init>", "()V"⟩
abbrev wsX0_init : List Cond := .code yX0_init cX0_init 1 none :: AW
abbrev cX0_latest : ByteArray := prog_2_method_2_code
abbrev yX0_latest : MethodName := ⟨"ProducerBook$Known", "latest", "()I"⟩
abbrev wsX0_latest : List Cond := .code yX0_latest cX0_latest 1 (some .int) :: AW
abbrev cX0_first : ByteArray := prog_2_method_3_code
abbrev yX0_first : MethodName := ⟨"ProducerBook$Known", "first", "()I"⟩
abbrev wsX0_first : List Cond := .code yX0_first cX0_first 1 (some .int) :: AW
abbrev cX0_addOlder : ByteArray := prog_2_method_4_code
abbrev yX0_addOlder : MethodName := ⟨"ProducerBook$Known", "addOlder", "(I)V"⟩
abbrev wsX0_addOlder : List Cond := .code yX0_addOlder cX0_addOlder 2 none :: AW
abbrev cX0_addLatest : ByteArray := prog_2_method_5_code
abbrev yX0_addLatest : MethodName := ⟨"ProducerBook$Known", "addLatest", "(I)V"⟩
abbrev wsX0_addLatest : List Cond := .code yX0_addLatest cX0_addLatest 3 none :: AW
abbrev cX1_init : ByteArray := prog_3_method_1_code
abbrev yX1_init : MethodName := ⟨"ProducerBook$Log", "<init>", "()V"⟩
abbrev wsX1_init : List Cond := .code yX1_init cX1_init 1 none :: AW
abbrev cX1_hasRoom : ByteArray := prog_3_method_2_code
abbrev yX1_hasRoom : MethodName := ⟨"ProducerBook$Log", "hasRoom", "(II)Z"⟩
abbrev wsX1_hasRoom : List Cond := .code yX1_hasRoom cX1_hasRoom 3 (some .boolean) :: AW
abbrev cX1_isKnown : ByteArray := prog_3_method_3_code
abbrev yX1_isKnown : MethodName := ⟨"ProducerBook$Log", "isKnown", "(I)Z"⟩
abbrev wsX1_isKnown : List Cond := .code yX1_isKnown cX1_isKnown 2 (some .boolean) :: AW
abbrev cX1_recall : ByteArray := prog_3_method_4_code
abbrev yX1_recall : MethodName := ⟨"ProducerBook$Log", "recall", "(JLProducerBook$Known;)V"⟩
abbrev wsX1_recall : List Cond := .code yX1_recall cX1_recall 5 none :: AW
abbrev cX1_baseOfSame : ByteArray := prog_3_method_5_code
abbrev yX1_baseOfSame : MethodName := ⟨"ProducerBook$Log", "baseOfSame", "(LProducerBook$Known;III)I"⟩
abbrev wsX1_baseOfSame : List Cond := .code yX1_baseOfSame cX1_baseOfSame 7 (some .int) :: AW
abbrev cX1_append : ByteArray := prog_3_method_6_code
abbrev yX1_append : MethodName := ⟨"ProducerBook$Log", "append", "(LProducerBook$Known;JIII)I"⟩
abbrev wsX1_append : List Cond := .code yX1_append cX1_append 8 (some .int) :: AW
abbrev cX1_becomeLatest : ByteArray := prog_3_method_7_code
abbrev yX1_becomeLatest : MethodName := ⟨"ProducerBook$Log", "becomeLatest", "(LProducerBook$Known;I)V"⟩
abbrev wsX1_becomeLatest : List Cond := .code yX1_becomeLatest cX1_becomeLatest 4 none :: AW
abbrev cX1_removeFirst : ByteArray := prog_3_method_8_code
abbrev yX1_removeFirst : MethodName := ⟨"ProducerBook$Log", "removeFirst", "(I)I"⟩
abbrev wsX1_removeFirst : List Cond := .code yX1_removeFirst cX1_removeFirst 3 (some .int) :: AW
abbrev cX1_removeUnknown : ByteArray := prog_3_method_9_code
abbrev yX1_removeUnknown : MethodName := ⟨"ProducerBook$Log", "removeUnknown", "()I"⟩
abbrev wsX1_removeUnknown : List Cond := .code yX1_removeUnknown cX1_removeUnknown 3 (some .int) :: AW
abbrev cX1_countProducers : ByteArray := prog_3_method_10_code
abbrev yX1_countProducers : MethodName := ⟨"ProducerBook$Log", "countProducers", "()I"⟩
abbrev wsX1_countProducers : List Cond := .code yX1_countProducers cX1_countProducers 3 (some .int) :: AW
abbrev cX1_move : ByteArray := prog_3_method_11_code
abbrev yX1_move : MethodName := ⟨"ProducerBook$Log", "move", "(III)V"⟩
abbrev wsX1_move : List Cond := .code yX1_move cX1_move 4 none :: AW
abbrev cL_offer : ByteArray := method_3_code
abbrev yL_offer : MethodName := ⟨"ProducerBookLaw", "offer", "(LProducerBook;JIII[J)I"⟩
abbrev wsL_offer : List Cond := .codeWith yL_offer cL_offer 8 (some .int) [(0, 15, 18, 13), (0, 15, 22, 15)] :: AW
abbrev cL_offers : ByteArray := method_4_code
abbrev yL_offers : MethodName := ⟨"ProducerBookLaw", "offers", "(LProducerBook;IJIII[J)I"⟩
abbrev wsL_offers : List Cond := .codeWith yL_offers cL_offers 9 (some .int) [(0, 17, 20, 13), (0, 17, 24, 15)] :: AW
abbrev cL_drop : ByteArray := method_5_code
abbrev yL_drop : MethodName := ⟨"ProducerBookLaw", "drop", "(LProducerBook;I[J)I"⟩
abbrev wsL_drop : List Cond := .codeWith yL_drop cL_drop 4 (some .int) [(0, 9, 12, 13)] :: AW
abbrev cL_known : ByteArray := method_6_code
abbrev yL_known : MethodName := ⟨"ProducerBookLaw", "known", "(LProducerBook;JI[J)I"⟩
abbrev wsL_known : List Cond := .codeWith yL_known cL_known 6 (some .int) [(0, 11, 14, 13)] :: AW
abbrev cL_batch : ByteArray := method_7_code
abbrev yL_batch : MethodName := ⟨"ProducerBookLaw", "batch", "(LProducerBook;II[J)I"⟩
abbrev wsL_batch : List Cond := .codeWith yL_batch cL_batch 5 (some .int) [(0, 9, 12, 13)] :: AW
abbrev cL_count : ByteArray := method_8_code
abbrev yL_count : MethodName := ⟨"ProducerBookLaw", "count", "(LProducerBook;I[J)I"⟩
abbrev wsL_count : List Cond := .codeWith yL_count cL_count 4 (some .int) [(0, 9, 12, 13)] :: AW
abbrev cL_law : ByteArray := code
abbrev yL_law : MethodName := ⟨"ProducerBookLaw", "law", "([I)Z"⟩
