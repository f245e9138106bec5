def ht_tb : List Cond := lw_tbl.filter goodWord
theorem ht_wt {w : Cond} (i : Nat) (h : tables_1[i]? = some w) (hg : goodWord w = true) : w ∈ ht_tb := List.mem_filter.mpr ⟨List.mem_append_right _ (List.mem_of_getElem? h), hg⟩
theorem ht_wp {w : Cond} (i : Nat) (h : (k2_sels lw_privs)[i]? = some w) (hg : goodWord w = true) : w ∈ ht_tb := List.mem_filter.mpr ⟨List.mem_append_left _ (List.mem_of_getElem? h), hg⟩
theorem w0 : Jvm.Cond.initialized "HybridTrackLaw" ∈ ht_tb := ht_wt 0 rfl rfl
theorem w1 : Jvm.Cond.initialized "HybridTrack" ∈ ht_tb := ht_wt 1 rfl rfl
theorem w2 : Jvm.Cond.initialized "HybridTrack$Vehicle" ∈ ht_tb := ht_wt 2 rfl rfl
theorem w3 : Jvm.Cond.initialized "HybridTrackModel" ∈ ht_tb := ht_wt 3 rfl rfl
theorem w4 : Jvm.Cond.initialized "java/lang/Throwable" ∈ ht_tb := ht_wt 4 rfl rfl
theorem w5 : Jvm.Cond.initialized "java/lang/Exception" ∈ ht_tb := ht_wt 5 rfl rfl
theorem w6 : Jvm.Cond.initialized "java/lang/RuntimeException" ∈ ht_tb := ht_wt 6 rfl rfl
theorem w7 : Jvm.Cond.initialized "java/lang/IllegalArgumentException" ∈ ht_tb := ht_wt 7 rfl rfl
theorem w8 : Jvm.Cond.initialized "java/lang/IllegalStateException" ∈ ht_tb := ht_wt 8 rfl rfl
theorem w9 : Jvm.Cond.initialized "java/util/NoSuchElementException" ∈ ht_tb := ht_wt 9 rfl rfl
theorem w10 : Jvm.Cond.classLink "HybridTrackLaw" (8 : Nat) "HybridTrack" ∈ ht_tb := ht_wt 10 rfl rfl
theorem w11 : Jvm.Cond.instantiable "HybridTrack" (7 : Nat) ∈ ht_tb := ht_wt 11 rfl rfl
theorem w12 : Jvm.Cond.methodLink "HybridTrackLaw" (57 : Nat) ({ cls := "HybridTrack", name := "<init>", desc := "()V" } : Jvm.MethodName) ∈ ht_tb := ht_wt 12 rfl rfl
theorem w13 : Jvm.Cond.instanceMethod ({ cls := "HybridTrack", name := "<init>", desc := "()V" } : Jvm.MethodName) ∈ ht_tb := ht_wt 13 rfl rfl
theorem w14 : Jvm.Cond.code ({ cls := "HybridTrack", name := "<init>", desc := "()V" } : Jvm.MethodName) prog_1_method_1_code (2 : Nat) (Option.none : Option Jvm.ClassFile.FieldType) ∈ ht_tb := ht_wt 14 rfl rfl
theorem w15 : Jvm.Cond.methodLink "HybridTrack" (1 : Nat) ({ cls := "java/lang/Object", name := "<init>", desc := "()V" } : Jvm.MethodName) ∈ ht_tb := ht_wt 15 rfl rfl
theorem w16 : Jvm.Cond.instanceMethod ({ cls := "java/lang/Object", name := "<init>", desc := "()V" } : Jvm.MethodName) ∈ ht_tb := ht_wt 16 rfl rfl
theorem w17 : Jvm.Cond.code ({ cls := "java/lang/Object", name := "<init>", desc := "()V" } : Jvm.MethodName) object_method_1_code (1 : Nat) (Option.none : Option Jvm.ClassFile.FieldType) ∈ ht_tb := ht_wt 17 rfl rfl
theorem w18 : Jvm.Cond.classLink "HybridTrack" (9 : Nat) "HybridTrack$Vehicle" ∈ ht_tb := ht_wt 18 rfl rfl
theorem w20 : Jvm.Cond.instantiable "HybridTrack$Vehicle" (13 : Nat) ∈ ht_tb := ht_wt 20 rfl rfl
theorem w22 : Jvm.Cond.instanceMethod ({ cls := "HybridTrack$Vehicle", name := "<init>", desc := "()V" } : Jvm.MethodName) ∈ ht_tb := ht_wt 22 rfl rfl
theorem w23 : Jvm.Cond.code ({ cls := "HybridTrack$Vehicle", name := "<init>", desc := "()V" } : Jvm.MethodName) prog_2_method_1_code (1 : Nat) (Option.none : Option Jvm.ClassFile.FieldType) ∈ ht_tb := ht_wt 23 rfl rfl
theorem w24 : Jvm.Cond.methodLink "HybridTrack$Vehicle" (3 : Nat) ({ cls := "java/lang/Object", name := "<init>", desc := "()V" } : Jvm.MethodName) ∈ ht_tb := ht_wt 24 rfl rfl
theorem w25 : Jvm.Cond.fieldLink "HybridTrack$Vehicle" (9 : Nat) "HybridTrack$Vehicle" "isTrain" "Z" ∈ ht_tb := ht_wt 25 rfl rfl
theorem w27 : Jvm.Cond.fieldLink "HybridTrack$Vehicle" (15 : Nat) "HybridTrack$Vehicle" "onTrack" "Z" ∈ ht_tb := ht_wt 27 rfl rfl
theorem w29 : Jvm.Cond.fieldLink "HybridTrack$Vehicle" (18 : Nat) "HybridTrack$Vehicle" "front" "I" ∈ ht_tb := ht_wt 29 rfl rfl
theorem w31 : Jvm.Cond.fieldLink "HybridTrack$Vehicle" (22 : Nat) "HybridTrack$Vehicle" "length" "I" ∈ ht_tb := ht_wt 31 rfl rfl
theorem w33 : Jvm.Cond.fieldLink "HybridTrack$Vehicle" (25 : Nat) "HybridTrack$Vehicle" "speed" "I" ∈ ht_tb := ht_wt 33 rfl rfl
theorem w35 : Jvm.Cond.fieldLink "HybridTrack$Vehicle" (28 : Nat) "HybridTrack$Vehicle" "end" "I" ∈ ht_tb := ht_wt 35 rfl rfl
theorem w37 : Jvm.Cond.fieldLink "HybridTrack$Vehicle" (31 : Nat) "HybridTrack$Vehicle" "silent" "Z" ∈ ht_tb := ht_wt 37 rfl rfl
theorem w39 : Jvm.Cond.fieldLink "HybridTrack$Vehicle" (34 : Nat) "HybridTrack$Vehicle" "whole" "Z" ∈ ht_tb := ht_wt 39 rfl rfl
theorem w41 : Jvm.Cond.fieldLink "HybridTrack$Vehicle" (37 : Nat) "HybridTrack$Vehicle" "age" "I" ∈ ht_tb := ht_wt 41 rfl rfl
theorem w43 : Jvm.Cond.fieldLink "HybridTrack$Vehicle" (40 : Nat) "HybridTrack$Vehicle" "reportedFront" "I" ∈ ht_tb := ht_wt 43 rfl rfl
theorem w45 : Jvm.Cond.fieldLink "HybridTrack$Vehicle" (43 : Nat) "HybridTrack$Vehicle" "reportedWhole" "Z" ∈ ht_tb := ht_wt 45 rfl rfl
theorem w47 : Jvm.Cond.fieldLink "HybridTrack$Vehicle" (46 : Nat) "HybridTrack$Vehicle" "tailSection" "I" ∈ ht_tb := ht_wt 47 rfl rfl
theorem w48 : Jvm.Cond.fieldLink "HybridTrack$Vehicle" (49 : Nat) "HybridTrack$Vehicle" "tailSectionBefore" "I" ∈ ht_tb := ht_wt 48 rfl rfl
theorem w49 : Jvm.Cond.lays "HybridTrack$Vehicle" "HybridTrack$Vehicle" "isTrain" "Z" ∈ ht_tb := ht_wt 49 rfl rfl
theorem w51 : Jvm.Cond.lays "HybridTrack$Vehicle" "HybridTrack$Vehicle" "onTrack" "Z" ∈ ht_tb := ht_wt 51 rfl rfl
theorem w53 : Jvm.Cond.lays "HybridTrack$Vehicle" "HybridTrack$Vehicle" "front" "I" ∈ ht_tb := ht_wt 53 rfl rfl
theorem w55 : Jvm.Cond.lays "HybridTrack$Vehicle" "HybridTrack$Vehicle" "length" "I" ∈ ht_tb := ht_wt 55 rfl rfl
theorem w57 : Jvm.Cond.lays "HybridTrack$Vehicle" "HybridTrack$Vehicle" "speed" "I" ∈ ht_tb := ht_wt 57 rfl rfl
theorem w59 : Jvm.Cond.lays "HybridTrack$Vehicle" "HybridTrack$Vehicle" "end" "I" ∈ ht_tb := ht_wt 59 rfl rfl
theorem w61 : Jvm.Cond.lays "HybridTrack$Vehicle" "HybridTrack$Vehicle" "silent" "Z" ∈ ht_tb := ht_wt 61 rfl rfl
theorem w63 : Jvm.Cond.lays "HybridTrack$Vehicle" "HybridTrack$Vehicle" "whole" "Z" ∈ ht_tb := ht_wt 63 rfl rfl
theorem w65 : Jvm.Cond.lays "HybridTrack$Vehicle" "HybridTrack$Vehicle" "age" "I" ∈ ht_tb := ht_wt 65 rfl rfl
theorem w67 : Jvm.Cond.lays "HybridTrack$Vehicle" "HybridTrack$Vehicle" "reportedFront" "I" ∈ ht_tb := ht_wt 67 rfl rfl
theorem w69 : Jvm.Cond.lays "HybridTrack$Vehicle" "HybridTrack$Vehicle" "reportedWhole" "Z" ∈ ht_tb := ht_wt 69 rfl rfl
theorem w71 : Jvm.Cond.lays "HybridTrack$Vehicle" "HybridTrack$Vehicle" "tailSection" "I" ∈ ht_tb := ht_wt 71 rfl rfl
theorem w73 : Jvm.Cond.lays "HybridTrack$Vehicle" "HybridTrack$Vehicle" "tailSectionBefore" "I" ∈ ht_tb := ht_wt 73 rfl rfl
theorem w76 : Jvm.Cond.arrayClass Jvm.ClassFile.FieldType.int ∈ ht_tb := ht_wt 76 rfl rfl
theorem w77 : Jvm.Cond.fieldLink "HybridTrack" (11 : Nat) "HybridTrack" "vehicles" "[LHybridTrack$Vehicle;" ∈ ht_tb := ht_wt 77 rfl rfl
theorem w78 : Jvm.Cond.fieldLink "HybridTrack" (15 : Nat) "HybridTrack" "came" "I" ∈ ht_tb := ht_wt 78 rfl rfl
theorem w79 : Jvm.Cond.fieldLink "HybridTrack" (19 : Nat) "HybridTrack" "ticksMade" "I" ∈ ht_tb := ht_wt 79 rfl rfl
theorem w80 : Jvm.Cond.fieldLink "HybridTrack" (22 : Nat) "HybridTrack" "states" "[I" ∈ ht_tb := ht_wt 80 rfl rfl
theorem w81 : Jvm.Cond.fieldLink "HybridTrack" (26 : Nat) "HybridTrack" "locatedTrains" "[I" ∈ ht_tb := ht_wt 81 rfl rfl
theorem w82 : Jvm.Cond.fieldLink "HybridTrack" (29 : Nat) "HybridTrack" "loneTrain" "[I" ∈ ht_tb := ht_wt 82 rfl rfl
theorem w83 : Jvm.Cond.fieldLink "HybridTrack" (32 : Nat) "HybridTrack" "loneTrainBefore" "[I" ∈ ht_tb := ht_wt 83 rfl rfl
theorem w84 : Jvm.Cond.laysFinal "HybridTrack" "HybridTrack" "vehicles" "[LHybridTrack$Vehicle;" ∈ ht_tb := ht_wt 84 rfl rfl
theorem w86 : Jvm.Cond.lays "HybridTrack" "HybridTrack" "came" "I" ∈ ht_tb := ht_wt 86 rfl rfl
theorem w88 : Jvm.Cond.lays "HybridTrack" "HybridTrack" "ticksMade" "I" ∈ ht_tb := ht_wt 88 rfl rfl
theorem w90 : Jvm.Cond.laysFinal "HybridTrack" "HybridTrack" "states" "[I" ∈ ht_tb := ht_wt 90 rfl rfl
theorem w92 : Jvm.Cond.laysFinal "HybridTrack" "HybridTrack" "locatedTrains" "[I" ∈ ht_tb := ht_wt 92 rfl rfl
theorem w94 : Jvm.Cond.laysFinal "HybridTrack" "HybridTrack" "loneTrain" "[I" ∈ ht_tb := ht_wt 94 rfl rfl
theorem w96 : Jvm.Cond.laysFinal "HybridTrack" "HybridTrack" "loneTrainBefore" "[I" ∈ ht_tb := ht_wt 96 rfl rfl
theorem w99 : Jvm.Cond.methodLink "HybridTrackLaw" (61 : Nat) ({ cls := "HybridTrackLaw", name := "enter", desc := "(LHybridTrack;II[J)I" } : Jvm.MethodName) ∈ ht_tb := ht_wt 99 rfl rfl
theorem w100 : Jvm.Cond.static ({ cls := "HybridTrackLaw", name := "enter", desc := "(LHybridTrack;II[J)I" } : Jvm.MethodName) ∈ ht_tb := ht_wt 100 rfl rfl
theorem w101 : Jvm.Cond.codeWith ({ cls := "HybridTrackLaw", name := "enter", desc := "(LHybridTrack;II[J)I" } : Jvm.MethodName) method_3_code (5 : Nat) (Option.some Jvm.ClassFile.FieldType.int) [((0 : Nat), (10 : Nat), (13 : Nat), (13 : Nat)), ((0 : Nat), (10 : Nat), (17 : Nat), (15 : Nat))] ∈ ht_tb := ht_wt 101 rfl rfl
theorem w102 : Jvm.Cond.classLink "HybridTrackLaw" (13 : Nat) "java/lang/IllegalArgumentException" ∈ ht_tb := ht_wt 102 rfl rfl
theorem w103 : Jvm.Cond.classLink "HybridTrackLaw" (15 : Nat) "java/lang/IllegalStateException" ∈ ht_tb := ht_wt 103 rfl rfl
theorem w104 : Jvm.Cond.methodLink "HybridTrackLaw" (7 : Nat) ({ cls := "HybridTrack", name := "enter", desc := "(II)I" } : Jvm.MethodName) ∈ ht_tb := ht_wt 104 rfl rfl
theorem w105 : Jvm.Cond.instanceMethod ({ cls := "HybridTrack", name := "enter", desc := "(II)I" } : Jvm.MethodName) ∈ ht_tb := ht_wt 105 rfl rfl
theorem w106 : Jvm.Cond.selects "HybridTrack" ({ cls := "HybridTrack", name := "enter", desc := "(II)I" } : Jvm.MethodName) ({ cls := "HybridTrack", name := "enter", desc := "(II)I" } : Jvm.MethodName) ∈ ht_tb := ht_wt 106 rfl rfl
theorem w107 : Jvm.Cond.code ({ cls := "HybridTrack", name := "enter", desc := "(II)I" } : Jvm.MethodName) prog_1_method_2_code (4 : Nat) (Option.some Jvm.ClassFile.FieldType.int) ∈ ht_tb := ht_wt 107 rfl rfl
theorem w108 : Jvm.Cond.classLink "HybridTrack" (36 : Nat) "java/lang/IllegalArgumentException" ∈ ht_tb := ht_wt 108 rfl rfl
theorem w109 : Jvm.Cond.instantiable "java/lang/IllegalArgumentException" (6 : Nat) ∈ ht_tb := ht_wt 109 rfl rfl
theorem w117 : Jvm.Cond.selects "java/lang/IllegalArgumentException" ({ cls := "java/lang/Throwable", name := "fillInStackTrace", desc := "(I)Ljava/lang/Throwable;" } : Jvm.MethodName) ({ cls := "java/lang/Throwable", name := "fillInStackTrace", desc := "(I)Ljava/lang/Throwable;" } : Jvm.MethodName) ∈ ht_tb := ht_wt 117 rfl rfl
theorem w118 : Jvm.Cond.selects "java/lang/IllegalArgumentException" ({ cls := "java/lang/Throwable", name := "fillInStackTrace", desc := "()Ljava/lang/Throwable;" } : Jvm.MethodName) ({ cls := "java/lang/Throwable", name := "fillInStackTrace", desc := "()Ljava/lang/Throwable;" } : Jvm.MethodName) ∈ ht_tb := ht_wt 118 rfl rfl
theorem w119 : Jvm.Cond.lays "java/lang/IllegalArgumentException" "java/lang/Throwable" "cause" "Ljava/lang/Throwable;" ∈ ht_tb := ht_wt 119 rfl rfl
theorem w120 : Jvm.Cond.lays "java/lang/Throwable" "java/lang/Throwable" "cause" "Ljava/lang/Throwable;" ∈ ht_tb := ht_wt 120 rfl rfl
theorem w121 : Jvm.Cond.lays "java/lang/IllegalArgumentException" "java/lang/Throwable" "stackTrace" "[Ljava/lang/StackTraceElement;" ∈ ht_tb := ht_wt 121 rfl rfl
theorem w122 : Jvm.Cond.lays "java/lang/Throwable" "java/lang/Throwable" "stackTrace" "[Ljava/lang/StackTraceElement;" ∈ ht_tb := ht_wt 122 rfl rfl
theorem w123 : Jvm.Cond.lays "java/lang/IllegalArgumentException" "java/lang/Throwable" "suppressedExceptions" "Ljava/util/List;" ∈ ht_tb := ht_wt 123 rfl rfl
theorem w124 : Jvm.Cond.lays "java/lang/Throwable" "java/lang/Throwable" "suppressedExceptions" "Ljava/util/List;" ∈ ht_tb := ht_wt 124 rfl rfl
theorem w125 : Jvm.Cond.lays "java/lang/IllegalArgumentException" "java/lang/Throwable" "detailMessage" "Ljava/lang/String;" ∈ ht_tb := ht_wt 125 rfl rfl
theorem w126 : Jvm.Cond.lays "java/lang/Throwable" "java/lang/Throwable" "detailMessage" "Ljava/lang/String;" ∈ ht_tb := ht_wt 126 rfl rfl
theorem w127 : Jvm.Cond.lays "java/lang/IllegalArgumentException" "java/lang/Throwable" "backtrace" "Ljava/lang/Object;" ∈ ht_tb := ht_wt 127 rfl rfl
theorem w128 : Jvm.Cond.lays "java/lang/Throwable" "java/lang/Throwable" "backtrace" "Ljava/lang/Object;" ∈ ht_tb := ht_wt 128 rfl rfl
theorem w129 : Jvm.Cond.fieldLink "java/lang/Throwable" (198 : Nat) "java/lang/Throwable" "backtrace" "Ljava/lang/Object;" ∈ ht_tb := ht_wt 129 rfl rfl
theorem w131 : Jvm.Cond.instanceMethod ({ cls := "java/lang/Throwable", name := "<init>", desc := "()V" } : Jvm.MethodName) ∈ ht_tb := ht_wt 131 rfl rfl
theorem w132 : Jvm.Cond.code ({ cls := "java/lang/Throwable", name := "<init>", desc := "()V" } : Jvm.MethodName) prog_10_method_1_code (1 : Nat) (Option.none : Option Jvm.ClassFile.FieldType) ∈ ht_tb := ht_wt 132 rfl rfl
theorem w133 : Jvm.Cond.methodLink "java/lang/Throwable" (1 : Nat) ({ cls := "java/lang/Object", name := "<init>", desc := "()V" } : Jvm.MethodName) ∈ ht_tb := ht_wt 133 rfl rfl
theorem w134 : Jvm.Cond.fieldLink "java/lang/Throwable" (13 : Nat) "java/lang/Throwable" "UNASSIGNED_STACK" "[Ljava/lang/StackTraceElement;" ∈ ht_tb := ht_wt 134 rfl rfl
theorem w136 : Jvm.Cond.fieldLink "java/lang/Throwable" (20 : Nat) "java/lang/Throwable" "SUPPRESSED_SENTINEL" "Ljava/util/List;" ∈ ht_tb := ht_wt 136 rfl rfl
theorem w138 : Jvm.Cond.methodLink "java/lang/Throwable" (27 : Nat) ({ cls := "java/lang/Throwable", name := "fillInStackTrace", desc := "()Ljava/lang/Throwable;" } : Jvm.MethodName) ∈ ht_tb := ht_wt 138 rfl rfl
theorem w139 : Jvm.Cond.instanceMethod ({ cls := "java/lang/Throwable", name := "fillInStackTrace", desc := "()Ljava/lang/Throwable;" } : Jvm.MethodName) ∈ ht_tb := ht_wt 139 rfl rfl
theorem w141 : Jvm.Cond.selects "java/lang/IllegalStateException" ({ cls := "java/lang/Throwable", name := "fillInStackTrace", desc := "()Ljava/lang/Throwable;" } : Jvm.MethodName) ({ cls := "java/lang/Throwable", name := "fillInStackTrace", desc := "()Ljava/lang/Throwable;" } : Jvm.MethodName) ∈ ht_tb := ht_wt 141 rfl rfl
theorem w142 : Jvm.Cond.selects "java/util/NoSuchElementException" ({ cls := "java/lang/Throwable", name := "fillInStackTrace", desc := "()Ljava/lang/Throwable;" } : Jvm.MethodName) ({ cls := "java/lang/Throwable", name := "fillInStackTrace", desc := "()Ljava/lang/Throwable;" } : Jvm.MethodName) ∈ ht_tb := ht_wt 142 rfl rfl
theorem w144 : Jvm.Cond.methodLink "java/lang/Throwable" (202 : Nat) ({ cls := "java/lang/Throwable", name := "fillInStackTrace", desc := "(I)Ljava/lang/Throwable;" } : Jvm.MethodName) ∈ ht_tb := ht_wt 144 rfl rfl
theorem w146 : Jvm.Cond.instanceMethod ({ cls := "java/lang/Throwable", name := "fillInStackTrace", desc := "(I)Ljava/lang/Throwable;" } : Jvm.MethodName) ∈ ht_tb := ht_wt 146 rfl rfl
theorem w147 : Jvm.Cond.instantiable "java/lang/Throwable" (6 : Nat) ∈ ht_tb := ht_wt 147 rfl rfl
theorem w150 : Jvm.Cond.methodLink "HybridTrack" (40 : Nat) ({ cls := "java/lang/IllegalArgumentException", name := "<init>", desc := "(Ljava/lang/String;)V" } : Jvm.MethodName) ∈ ht_tb := ht_wt 150 rfl rfl
theorem w151 : Jvm.Cond.instanceMethod ({ cls := "java/lang/IllegalArgumentException", name := "<init>", desc := "(Ljava/lang/String;)V" } : Jvm.MethodName) ∈ ht_tb := ht_wt 151 rfl rfl
theorem w152 : Jvm.Cond.code ({ cls := "java/lang/IllegalArgumentException", name := "<init>", desc := "(Ljava/lang/String;)V" } : Jvm.MethodName) prog_6_method_2_code (2 : Nat) (Option.none : Option Jvm.ClassFile.FieldType) ∈ ht_tb := ht_wt 152 rfl rfl
theorem w153 : Jvm.Cond.methodLink "java/lang/IllegalArgumentException" (7 : Nat) ({ cls := "java/lang/RuntimeException", name := "<init>", desc := "(Ljava/lang/String;)V" } : Jvm.MethodName) ∈ ht_tb := ht_wt 153 rfl rfl
theorem w154 : Jvm.Cond.instanceMethod ({ cls := "java/lang/RuntimeException", name := "<init>", desc := "(Ljava/lang/String;)V" } : Jvm.MethodName) ∈ ht_tb := ht_wt 154 rfl rfl
theorem w155 : Jvm.Cond.code ({ cls := "java/lang/RuntimeException", name := "<init>", desc := "(Ljava/lang/String;)V" } : Jvm.MethodName) prog_8_method_2_code (2 : Nat) (Option.none : Option Jvm.ClassFile.FieldType) ∈ ht_tb := ht_wt 155 rfl rfl
theorem w156 : Jvm.Cond.methodLink "java/lang/RuntimeException" (7 : Nat) ({ cls := "java/lang/Exception", name := "<init>", desc := "(Ljava/lang/String;)V" } : Jvm.MethodName) ∈ ht_tb := ht_wt 156 rfl rfl
theorem w157 : Jvm.Cond.instanceMethod ({ cls := "java/lang/Exception", name := "<init>", desc := "(Ljava/lang/String;)V" } : Jvm.MethodName) ∈ ht_tb := ht_wt 157 rfl rfl
theorem w158 : Jvm.Cond.code ({ cls := "java/lang/Exception", name := "<init>", desc := "(Ljava/lang/String;)V" } : Jvm.MethodName) prog_5_method_2_code (2 : Nat) (Option.none : Option Jvm.ClassFile.FieldType) ∈ ht_tb := ht_wt 158 rfl rfl
theorem w159 : Jvm.Cond.methodLink "java/lang/Exception" (7 : Nat) ({ cls := "java/lang/Throwable", name := "<init>", desc := "(Ljava/lang/String;)V" } : Jvm.MethodName) ∈ ht_tb := ht_wt 159 rfl rfl
theorem w160 : Jvm.Cond.instanceMethod ({ cls := "java/lang/Throwable", name := "<init>", desc := "(Ljava/lang/String;)V" } : Jvm.MethodName) ∈ ht_tb := ht_wt 160 rfl rfl
theorem w161 : Jvm.Cond.code ({ cls := "java/lang/Throwable", name := "<init>", desc := "(Ljava/lang/String;)V" } : Jvm.MethodName) prog_10_method_2_code (2 : Nat) (Option.none : Option Jvm.ClassFile.FieldType) ∈ ht_tb := ht_wt 161 rfl rfl
theorem w162 : Jvm.Cond.fieldLink "java/lang/Throwable" (198 : Nat) "java/lang/Throwable" "backtrace" "Ljava/lang/Object;" ∈ ht_tb := ht_wt 162 rfl rfl
theorem w163 : Jvm.Cond.fieldLink "java/lang/Throwable" (31 : Nat) "java/lang/Throwable" "detailMessage" "Ljava/lang/String;" ∈ ht_tb := ht_wt 163 rfl rfl
theorem w164 : Jvm.Cond.fieldLink "java/lang/Throwable" (7 : Nat) "java/lang/Throwable" "cause" "Ljava/lang/Throwable;" ∈ ht_tb := ht_wt 164 rfl rfl
theorem w165 : Jvm.Cond.fieldLink "java/lang/Throwable" (17 : Nat) "java/lang/Throwable" "stackTrace" "[Ljava/lang/StackTraceElement;" ∈ ht_tb := ht_wt 165 rfl rfl
theorem w166 : Jvm.Cond.fieldLink "java/lang/Throwable" (24 : Nat) "java/lang/Throwable" "suppressedExceptions" "Ljava/util/List;" ∈ ht_tb := ht_wt 166 rfl rfl
theorem w171 : Jvm.Cond.lays "java/lang/IllegalArgumentException" "java/lang/Throwable" "depth" "I" ∈ ht_tb := ht_wt 171 rfl rfl
theorem w175 : Jvm.Cond.arrayClass Jvm.ClassFile.FieldType.byte ∈ ht_tb := ht_wt 175 rfl rfl
theorem w177 : Jvm.Cond.classLink "HybridTrack" (45 : Nat) "java/lang/IllegalStateException" ∈ ht_tb := ht_wt 177 rfl rfl
theorem w178 : Jvm.Cond.instantiable "java/lang/IllegalStateException" (6 : Nat) ∈ ht_tb := ht_wt 178 rfl rfl
theorem w180 : Jvm.Cond.selects "java/lang/IllegalStateException" ({ cls := "java/lang/Throwable", name := "fillInStackTrace", desc := "(I)Ljava/lang/Throwable;" } : Jvm.MethodName) ({ cls := "java/lang/Throwable", name := "fillInStackTrace", desc := "(I)Ljava/lang/Throwable;" } : Jvm.MethodName) ∈ ht_tb := ht_wt 180 rfl rfl
theorem w181 : Jvm.Cond.lays "java/lang/IllegalStateException" "java/lang/Throwable" "cause" "Ljava/lang/Throwable;" ∈ ht_tb := ht_wt 181 rfl rfl
theorem w182 : Jvm.Cond.lays "java/lang/IllegalStateException" "java/lang/Throwable" "stackTrace" "[Ljava/lang/StackTraceElement;" ∈ ht_tb := ht_wt 182 rfl rfl
theorem w183 : Jvm.Cond.lays "java/lang/IllegalStateException" "java/lang/Throwable" "suppressedExceptions" "Ljava/util/List;" ∈ ht_tb := ht_wt 183 rfl rfl
theorem w184 : Jvm.Cond.lays "java/lang/IllegalStateException" "java/lang/Throwable" "detailMessage" "Ljava/lang/String;" ∈ ht_tb := ht_wt 184 rfl rfl
theorem w185 : Jvm.Cond.lays "java/lang/IllegalStateException" "java/lang/Throwable" "backtrace" "Ljava/lang/Object;" ∈ ht_tb := ht_wt 185 rfl rfl
theorem w187 : Jvm.Cond.methodLink "HybridTrack" (49 : Nat) ({ cls := "java/lang/IllegalStateException", name := "<init>", desc := "(Ljava/lang/String;)V" } : Jvm.MethodName) ∈ ht_tb := ht_wt 187 rfl rfl
theorem w188 : Jvm.Cond.instanceMethod ({ cls := "java/lang/IllegalStateException", name := "<init>", desc := "(Ljava/lang/String;)V" } : Jvm.MethodName) ∈ ht_tb := ht_wt 188 rfl rfl
theorem w189 : Jvm.Cond.code ({ cls := "java/lang/IllegalStateException", name := "<init>", desc := "(Ljava/lang/String;)V" } : Jvm.MethodName) prog_7_method_2_code (2 : Nat) (Option.none : Option Jvm.ClassFile.FieldType) ∈ ht_tb := ht_wt 189 rfl rfl
theorem w190 : Jvm.Cond.methodLink "java/lang/IllegalStateException" (7 : Nat) ({ cls := "java/lang/RuntimeException", name := "<init>", desc := "(Ljava/lang/String;)V" } : Jvm.MethodName) ∈ ht_tb := ht_wt 190 rfl rfl
theorem w191 : Jvm.Cond.lays "java/lang/IllegalStateException" "java/lang/Throwable" "depth" "I" ∈ ht_tb := ht_wt 191 rfl rfl
theorem w193 : Jvm.Cond.methodLink "HybridTrack" (50 : Nat) ({ cls := "HybridTrack", name := "isStoodOn", desc := "(II)Z" } : Jvm.MethodName) ∈ ht_tb := ht_wt 193 rfl rfl
theorem w195 : Jvm.Cond.instanceMethod ({ cls := "HybridTrack", name := "isStoodOn", desc := "(II)Z" } : Jvm.MethodName) ∈ ht_tb := ht_wt 195 rfl rfl
theorem w196 : Jvm.Cond.code ({ cls := "HybridTrack", name := "isStoodOn", desc := "(II)Z" } : Jvm.MethodName) prog_1_method_18_code (4 : Nat) (Option.some Jvm.ClassFile.FieldType.boolean) ∈ ht_tb := ht_wt 196 rfl rfl
theorem w199 : Jvm.Cond.instanceMethod ({ cls := "HybridTrack$Vehicle", name := "standsWithin", desc := "(II)Z" } : Jvm.MethodName) ∈ ht_tb := ht_wt 199 rfl rfl
theorem w200 : Jvm.Cond.code ({ cls := "HybridTrack$Vehicle", name := "standsWithin", desc := "(II)Z" } : Jvm.MethodName) prog_2_method_7_code (3 : Nat) (Option.some Jvm.ClassFile.FieldType.boolean) ∈ ht_tb := ht_wt 200 rfl rfl
theorem w201 : Jvm.Cond.methodLink "HybridTrack$Vehicle" (55 : Nat) ({ cls := "HybridTrack$Vehicle", name := "lastPlace", desc := "()I" } : Jvm.MethodName) ∈ ht_tb := ht_wt 201 rfl rfl
theorem w203 : Jvm.Cond.instanceMethod ({ cls := "HybridTrack$Vehicle", name := "lastPlace", desc := "()I" } : Jvm.MethodName) ∈ ht_tb := ht_wt 203 rfl rfl
theorem w204 : Jvm.Cond.code ({ cls := "HybridTrack$Vehicle", name := "lastPlace", desc := "()I" } : Jvm.MethodName) prog_2_method_6_code (1 : Nat) (Option.some Jvm.ClassFile.FieldType.int) ∈ ht_tb := ht_wt 204 rfl rfl
theorem w206 : Jvm.Cond.methodLink "HybridTrack" (56 : Nat) ({ cls := "HybridTrack", name := "sectionOf", desc := "(I)I" } : Jvm.MethodName) ∈ ht_tb := ht_wt 206 rfl rfl
theorem w207 : Jvm.Cond.static ({ cls := "HybridTrack", name := "sectionOf", desc := "(I)I" } : Jvm.MethodName) ∈ ht_tb := ht_wt 207 rfl rfl
theorem w208 : Jvm.Cond.code ({ cls := "HybridTrack", name := "sectionOf", desc := "(I)I" } : Jvm.MethodName) prog_1_method_15_code (1 : Nat) (Option.some Jvm.ClassFile.FieldType.int) ∈ ht_tb := ht_wt 208 rfl rfl
theorem w209 : Jvm.Cond.methodLink "HybridTrack" (60 : Nat) ({ cls := "HybridTrack", name := "isAnyClaimed", desc := "(III)Z" } : Jvm.MethodName) ∈ ht_tb := ht_wt 209 rfl rfl
theorem w211 : Jvm.Cond.instanceMethod ({ cls := "HybridTrack", name := "isAnyClaimed", desc := "(III)Z" } : Jvm.MethodName) ∈ ht_tb := ht_wt 211 rfl rfl
theorem w212 : Jvm.Cond.code ({ cls := "HybridTrack", name := "isAnyClaimed", desc := "(III)Z" } : Jvm.MethodName) prog_1_method_21_code (5 : Nat) (Option.some Jvm.ClassFile.FieldType.boolean) ∈ ht_tb := ht_wt 212 rfl rfl
theorem w215 : Jvm.Cond.instanceMethod ({ cls := "HybridTrack$Vehicle", name := "claimsWithin", desc := "(II)Z" } : Jvm.MethodName) ∈ ht_tb := ht_wt 215 rfl rfl
theorem w216 : Jvm.Cond.code ({ cls := "HybridTrack$Vehicle", name := "claimsWithin", desc := "(II)Z" } : Jvm.MethodName) prog_2_method_10_code (3 : Nat) (Option.some Jvm.ClassFile.FieldType.boolean) ∈ ht_tb := ht_wt 216 rfl rfl
theorem w220 : Jvm.Cond.instanceMethod ({ cls := "HybridTrack$Vehicle", name := "becomeTrain", desc := "(II)V" } : Jvm.MethodName) ∈ ht_tb := ht_wt 220 rfl rfl
theorem w221 : Jvm.Cond.code ({ cls := "HybridTrack$Vehicle", name := "becomeTrain", desc := "(II)V" } : Jvm.MethodName) prog_2_method_2_code (3 : Nat) (Option.none : Option Jvm.ClassFile.FieldType) ∈ ht_tb := ht_wt 221 rfl rfl
theorem w222 : Jvm.Cond.methodLink "HybridTrack$Vehicle" (52 : Nat) ({ cls := "HybridTrack$Vehicle", name := "sendReport", desc := "()V" } : Jvm.MethodName) ∈ ht_tb := ht_wt 222 rfl rfl
theorem w224 : Jvm.Cond.instanceMethod ({ cls := "HybridTrack$Vehicle", name := "sendReport", desc := "()V" } : Jvm.MethodName) ∈ ht_tb := ht_wt 224 rfl rfl
theorem w225 : Jvm.Cond.code ({ cls := "HybridTrack$Vehicle", name := "sendReport", desc := "()V" } : Jvm.MethodName) prog_2_method_4_code (1 : Nat) (Option.none : Option Jvm.ClassFile.FieldType) ∈ ht_tb := ht_wt 225 rfl rfl
theorem w226 : Jvm.Cond.methodLink "HybridTrack" (70 : Nat) ({ cls := "HybridTrack", name := "findStates", desc := "()V" } : Jvm.MethodName) ∈ ht_tb := ht_wt 226 rfl rfl
theorem w228 : Jvm.Cond.instanceMethod ({ cls := "HybridTrack", name := "findStates", desc := "()V" } : Jvm.MethodName) ∈ ht_tb := ht_wt 228 rfl rfl
theorem w229 : Jvm.Cond.code ({ cls := "HybridTrack", name := "findStates", desc := "()V" } : Jvm.MethodName) prog_1_method_29_code (2 : Nat) (Option.none : Option Jvm.ClassFile.FieldType) ∈ ht_tb := ht_wt 229 rfl rfl
theorem w230 : Jvm.Cond.methodLink "HybridTrack" (192 : Nat) ({ cls := "HybridTrack", name := "locateTrains", desc := "()V" } : Jvm.MethodName) ∈ ht_tb := ht_wt 230 rfl rfl
theorem w232 : Jvm.Cond.instanceMethod ({ cls := "HybridTrack", name := "locateTrains", desc := "()V" } : Jvm.MethodName) ∈ ht_tb := ht_wt 232 rfl rfl
theorem w233 : Jvm.Cond.code ({ cls := "HybridTrack", name := "locateTrains", desc := "()V" } : Jvm.MethodName) prog_1_method_30_code (3 : Nat) (Option.none : Option Jvm.ClassFile.FieldType) ∈ ht_tb := ht_wt 233 rfl rfl
theorem w236 : Jvm.Cond.instanceMethod ({ cls := "HybridTrack$Vehicle", name := "isLocatedOn", desc := "(I)Z" } : Jvm.MethodName) ∈ ht_tb := ht_wt 236 rfl rfl
theorem w237 : Jvm.Cond.code ({ cls := "HybridTrack$Vehicle", name := "isLocatedOn", desc := "(I)Z" } : Jvm.MethodName) prog_2_method_9_code (2 : Nat) (Option.some Jvm.ClassFile.FieldType.boolean) ∈ ht_tb := ht_wt 237 rfl rfl
theorem w238 : Jvm.Cond.methodLink "HybridTrack$Vehicle" (59 : Nat) ({ cls := "HybridTrack$Vehicle", name := "isMute", desc := "()Z" } : Jvm.MethodName) ∈ ht_tb := ht_wt 238 rfl rfl
theorem w240 : Jvm.Cond.instanceMethod ({ cls := "HybridTrack$Vehicle", name := "isMute", desc := "()Z" } : Jvm.MethodName) ∈ ht_tb := ht_wt 240 rfl rfl
theorem w241 : Jvm.Cond.code ({ cls := "HybridTrack$Vehicle", name := "isMute", desc := "()Z" } : Jvm.MethodName) prog_2_method_8_code (1 : Nat) (Option.some Jvm.ClassFile.FieldType.boolean) ∈ ht_tb := ht_wt 241 rfl rfl
theorem w242 : Jvm.Cond.methodLink "HybridTrack" (195 : Nat) ({ cls := "HybridTrack", name := "stateByReports", desc := "(I)I" } : Jvm.MethodName) ∈ ht_tb := ht_wt 242 rfl rfl
theorem w244 : Jvm.Cond.instanceMethod ({ cls := "HybridTrack", name := "stateByReports", desc := "(I)I" } : Jvm.MethodName) ∈ ht_tb := ht_wt 244 rfl rfl
theorem w245 : Jvm.Cond.code ({ cls := "HybridTrack", name := "stateByReports", desc := "(I)I" } : Jvm.MethodName) prog_1_method_31_code (2 : Nat) (Option.some Jvm.ClassFile.FieldType.int) ∈ ht_tb := ht_wt 245 rfl rfl
theorem w246 : Jvm.Cond.methodLink "HybridTrack" (154 : Nat) ({ cls := "HybridTrack", name := "isDetectedOccupied", desc := "(I)Z" } : Jvm.MethodName) ∈ ht_tb := ht_wt 246 rfl rfl
theorem w248 : Jvm.Cond.instanceMethod ({ cls := "HybridTrack", name := "isDetectedOccupied", desc := "(I)Z" } : Jvm.MethodName) ∈ ht_tb := ht_wt 248 rfl rfl
theorem w249 : Jvm.Cond.code ({ cls := "HybridTrack", name := "isDetectedOccupied", desc := "(I)Z" } : Jvm.MethodName) prog_1_method_19_code (3 : Nat) (Option.some Jvm.ClassFile.FieldType.boolean) ∈ ht_tb := ht_wt 249 rfl rfl
theorem w250 : Jvm.Cond.methodLink "HybridTrack" (204 : Nat) ({ cls := "HybridTrack", name := "stateUnderTrains", desc := "(I)I" } : Jvm.MethodName) ∈ ht_tb := ht_wt 250 rfl rfl
theorem w252 : Jvm.Cond.instanceMethod ({ cls := "HybridTrack", name := "stateUnderTrains", desc := "(I)I" } : Jvm.MethodName) ∈ ht_tb := ht_wt 252 rfl rfl
theorem w253 : Jvm.Cond.code ({ cls := "HybridTrack", name := "stateUnderTrains", desc := "(I)I" } : Jvm.MethodName) prog_1_method_32_code (5 : Nat) (Option.some Jvm.ClassFile.FieldType.int) ∈ ht_tb := ht_wt 253 rfl rfl
theorem w254 : Jvm.Cond.methodLink "HybridTrack" (207 : Nat) ({ cls := "HybridTrack", name := "staysFree", desc := "(I)Z" } : Jvm.MethodName) ∈ ht_tb := ht_wt 254 rfl rfl
theorem w256 : Jvm.Cond.instanceMethod ({ cls := "HybridTrack", name := "staysFree", desc := "(I)Z" } : Jvm.MethodName) ∈ ht_tb := ht_wt 256 rfl rfl
theorem w257 : Jvm.Cond.code ({ cls := "HybridTrack", name := "staysFree", desc := "(I)Z" } : Jvm.MethodName) prog_1_method_33_code (5 : Nat) (Option.some Jvm.ClassFile.FieldType.boolean) ∈ ht_tb := ht_wt 257 rfl rfl
theorem w258 : Jvm.Cond.methodLink "HybridTrack" (213 : Nat) ({ cls := "HybridTrack", name := "isAnyTrainLocated", desc := "(II)Z" } : Jvm.MethodName) ∈ ht_tb := ht_wt 258 rfl rfl
theorem w260 : Jvm.Cond.instanceMethod ({ cls := "HybridTrack", name := "isAnyTrainLocated", desc := "(II)Z" } : Jvm.MethodName) ∈ ht_tb := ht_wt 260 rfl rfl
theorem w261 : Jvm.Cond.code ({ cls := "HybridTrack", name := "isAnyTrainLocated", desc := "(II)Z" } : Jvm.MethodName) prog_1_method_34_code (4 : Nat) (Option.some Jvm.ClassFile.FieldType.boolean) ∈ ht_tb := ht_wt 261 rfl rfl
theorem w262 : Jvm.Cond.methodLink "HybridTrack" (198 : Nat) ({ cls := "HybridTrack", name := "isAnyClaimedByMute", desc := "(II)Z" } : Jvm.MethodName) ∈ ht_tb := ht_wt 262 rfl rfl
theorem w264 : Jvm.Cond.instanceMethod ({ cls := "HybridTrack", name := "isAnyClaimedByMute", desc := "(II)Z" } : Jvm.MethodName) ∈ ht_tb := ht_wt 264 rfl rfl
theorem w265 : Jvm.Cond.code ({ cls := "HybridTrack", name := "isAnyClaimedByMute", desc := "(II)Z" } : Jvm.MethodName) prog_1_method_22_code (4 : Nat) (Option.some Jvm.ClassFile.FieldType.boolean) ∈ ht_tb := ht_wt 265 rfl rfl
theorem w267 : Jvm.Cond.methodLink "HybridTrack" (216 : Nat) ({ cls := "HybridTrack", name := "wasLeftByBrokenTrain", desc := "(I)Z" } : Jvm.MethodName) ∈ ht_tb := ht_wt 267 rfl rfl
theorem w269 : Jvm.Cond.instanceMethod ({ cls := "HybridTrack", name := "wasLeftByBrokenTrain", desc := "(I)Z" } : Jvm.MethodName) ∈ ht_tb := ht_wt 269 rfl rfl
theorem w270 : Jvm.Cond.code ({ cls := "HybridTrack", name := "wasLeftByBrokenTrain", desc := "(I)Z" } : Jvm.MethodName) prog_1_method_35_code (4 : Nat) (Option.some Jvm.ClassFile.FieldType.boolean) ∈ ht_tb := ht_wt 270 rfl rfl
theorem w273 : Jvm.Cond.instanceMethod ({ cls := "HybridTrack$Vehicle", name := "hasLeft", desc := "(I)Z" } : Jvm.MethodName) ∈ ht_tb := ht_wt 273 rfl rfl
theorem w274 : Jvm.Cond.code ({ cls := "HybridTrack$Vehicle", name := "hasLeft", desc := "(I)Z" } : Jvm.MethodName) prog_2_method_11_code (2 : Nat) (Option.some Jvm.ClassFile.FieldType.boolean) ∈ ht_tb := ht_wt 274 rfl rfl
theorem w275 : Jvm.Cond.methodLink "HybridTrack" (210 : Nat) ({ cls := "HybridTrack", name := "wasLeftByWholeTrain", desc := "(I)Z" } : Jvm.MethodName) ∈ ht_tb := ht_wt 275 rfl rfl
theorem w277 : Jvm.Cond.instanceMethod ({ cls := "HybridTrack", name := "wasLeftByWholeTrain", desc := "(I)Z" } : Jvm.MethodName) ∈ ht_tb := ht_wt 277 rfl rfl
theorem w278 : Jvm.Cond.code ({ cls := "HybridTrack", name := "wasLeftByWholeTrain", desc := "(I)Z" } : Jvm.MethodName) prog_1_method_36_code (3 : Nat) (Option.some Jvm.ClassFile.FieldType.boolean) ∈ ht_tb := ht_wt 278 rfl rfl
theorem w279 : Jvm.Cond.methodLink "HybridTrackLaw" (71 : Nat) ({ cls := "HybridTrackLaw", name := "drive", desc := "(LHybridTrack;II[J)I" } : Jvm.MethodName) ∈ ht_tb := ht_wt 279 rfl rfl
theorem w280 : Jvm.Cond.static ({ cls := "HybridTrackLaw", name := "drive", desc := "(LHybridTrack;II[J)I" } : Jvm.MethodName) ∈ ht_tb := ht_wt 280 rfl rfl
theorem w281 : Jvm.Cond.codeWith ({ cls := "HybridTrackLaw", name := "drive", desc := "(LHybridTrack;II[J)I" } : Jvm.MethodName) method_4_code (5 : Nat) (Option.some Jvm.ClassFile.FieldType.int) [((0 : Nat), (10 : Nat), (13 : Nat), (20 : Nat)), ((0 : Nat), (10 : Nat), (17 : Nat), (13 : Nat))] ∈ ht_tb := ht_wt 281 rfl rfl
theorem w282 : Jvm.Cond.classLink "HybridTrackLaw" (20 : Nat) "java/util/NoSuchElementException" ∈ ht_tb := ht_wt 282 rfl rfl
theorem w283 : Jvm.Cond.methodLink "HybridTrackLaw" (17 : Nat) ({ cls := "HybridTrack", name := "drive", desc := "(II)I" } : Jvm.MethodName) ∈ ht_tb := ht_wt 283 rfl rfl
theorem w284 : Jvm.Cond.instanceMethod ({ cls := "HybridTrack", name := "drive", desc := "(II)I" } : Jvm.MethodName) ∈ ht_tb := ht_wt 284 rfl rfl
theorem w285 : Jvm.Cond.selects "HybridTrack" ({ cls := "HybridTrack", name := "drive", desc := "(II)I" } : Jvm.MethodName) ({ cls := "HybridTrack", name := "drive", desc := "(II)I" } : Jvm.MethodName) ∈ ht_tb := ht_wt 285 rfl rfl
theorem w286 : Jvm.Cond.code ({ cls := "HybridTrack", name := "drive", desc := "(II)I" } : Jvm.MethodName) prog_1_method_3_code (5 : Nat) (Option.some Jvm.ClassFile.FieldType.int) ∈ ht_tb := ht_wt 286 rfl rfl
theorem w287 : Jvm.Cond.methodLink "HybridTrack" (73 : Nat) ({ cls := "HybridTrack", name := "existingTrain", desc := "(I)LHybridTrack$Vehicle;" } : Jvm.MethodName) ∈ ht_tb := ht_wt 287 rfl rfl
theorem w289 : Jvm.Cond.instanceMethod ({ cls := "HybridTrack", name := "existingTrain", desc := "(I)LHybridTrack$Vehicle;" } : Jvm.MethodName) ∈ ht_tb := ht_wt 289 rfl rfl
theorem w290 : Jvm.Cond.code ({ cls := "HybridTrack", name := "existingTrain", desc := "(I)LHybridTrack$Vehicle;" } : Jvm.MethodName) prog_1_method_17_code (2 : Nat) (Option.some (Jvm.ClassFile.FieldType.object "HybridTrack$Vehicle")) ∈ ht_tb := ht_wt 290 rfl rfl
theorem w291 : Jvm.Cond.methodLink "HybridTrack" (127 : Nat) ({ cls := "HybridTrack", name := "isOnTrack", desc := "(I)Z" } : Jvm.MethodName) ∈ ht_tb := ht_wt 291 rfl rfl
theorem w293 : Jvm.Cond.instanceMethod ({ cls := "HybridTrack", name := "isOnTrack", desc := "(I)Z" } : Jvm.MethodName) ∈ ht_tb := ht_wt 293 rfl rfl
theorem w294 : Jvm.Cond.code ({ cls := "HybridTrack", name := "isOnTrack", desc := "(I)Z" } : Jvm.MethodName) prog_1_method_16_code (2 : Nat) (Option.some Jvm.ClassFile.FieldType.boolean) ∈ ht_tb := ht_wt 294 rfl rfl
theorem w295 : Jvm.Cond.classLink "HybridTrack" (134 : Nat) "java/util/NoSuchElementException" ∈ ht_tb := ht_wt 295 rfl rfl
theorem w296 : Jvm.Cond.instantiable "java/util/NoSuchElementException" (6 : Nat) ∈ ht_tb := ht_wt 296 rfl rfl
theorem w298 : Jvm.Cond.selects "java/util/NoSuchElementException" ({ cls := "java/lang/Throwable", name := "fillInStackTrace", desc := "(I)Ljava/lang/Throwable;" } : Jvm.MethodName) ({ cls := "java/lang/Throwable", name := "fillInStackTrace", desc := "(I)Ljava/lang/Throwable;" } : Jvm.MethodName) ∈ ht_tb := ht_wt 298 rfl rfl
theorem w299 : Jvm.Cond.lays "java/util/NoSuchElementException" "java/lang/Throwable" "cause" "Ljava/lang/Throwable;" ∈ ht_tb := ht_wt 299 rfl rfl
theorem w300 : Jvm.Cond.lays "java/util/NoSuchElementException" "java/lang/Throwable" "stackTrace" "[Ljava/lang/StackTraceElement;" ∈ ht_tb := ht_wt 300 rfl rfl
theorem w301 : Jvm.Cond.lays "java/util/NoSuchElementException" "java/lang/Throwable" "suppressedExceptions" "Ljava/util/List;" ∈ ht_tb := ht_wt 301 rfl rfl
theorem w302 : Jvm.Cond.lays "java/util/NoSuchElementException" "java/lang/Throwable" "detailMessage" "Ljava/lang/String;" ∈ ht_tb := ht_wt 302 rfl rfl
theorem w303 : Jvm.Cond.lays "java/util/NoSuchElementException" "java/lang/Throwable" "backtrace" "Ljava/lang/Object;" ∈ ht_tb := ht_wt 303 rfl rfl
theorem w305 : Jvm.Cond.methodLink "HybridTrack" (138 : Nat) ({ cls := "java/util/NoSuchElementException", name := "<init>", desc := "(Ljava/lang/String;)V" } : Jvm.MethodName) ∈ ht_tb := ht_wt 305 rfl rfl
theorem w306 : Jvm.Cond.instanceMethod ({ cls := "java/util/NoSuchElementException", name := "<init>", desc := "(Ljava/lang/String;)V" } : Jvm.MethodName) ∈ ht_tb := ht_wt 306 rfl rfl
theorem w307 : Jvm.Cond.code ({ cls := "java/util/NoSuchElementException", name := "<init>", desc := "(Ljava/lang/String;)V" } : Jvm.MethodName) prog_11_method_4_code (2 : Nat) (Option.none : Option Jvm.ClassFile.FieldType) ∈ ht_tb := ht_wt 307 rfl rfl
theorem w308 : Jvm.Cond.methodLink "java/util/NoSuchElementException" (13 : Nat) ({ cls := "java/lang/RuntimeException", name := "<init>", desc := "(Ljava/lang/String;)V" } : Jvm.MethodName) ∈ ht_tb := ht_wt 308 rfl rfl
theorem w309 : Jvm.Cond.lays "java/util/NoSuchElementException" "java/lang/Throwable" "depth" "I" ∈ ht_tb := ht_wt 309 rfl rfl
theorem w312 : Jvm.Cond.methodLink "HybridTrackLaw" (74 : Nat) ({ cls := "HybridTrackLaw", name := "silence", desc := "(LHybridTrack;IZ[J)I" } : Jvm.MethodName) ∈ ht_tb := ht_wt 312 rfl rfl
theorem w313 : Jvm.Cond.static ({ cls := "HybridTrackLaw", name := "silence", desc := "(LHybridTrack;IZ[J)I" } : Jvm.MethodName) ∈ ht_tb := ht_wt 313 rfl rfl
theorem w314 : Jvm.Cond.codeWith ({ cls := "HybridTrackLaw", name := "silence", desc := "(LHybridTrack;IZ[J)I" } : Jvm.MethodName) method_5_code (5 : Nat) (Option.some Jvm.ClassFile.FieldType.int) [((0 : Nat), (10 : Nat), (13 : Nat), (20 : Nat))] ∈ ht_tb := ht_wt 314 rfl rfl
theorem w315 : Jvm.Cond.methodLink "HybridTrackLaw" (22 : Nat) ({ cls := "HybridTrack", name := "silence", desc := "(IZ)I" } : Jvm.MethodName) ∈ ht_tb := ht_wt 315 rfl rfl
theorem w316 : Jvm.Cond.instanceMethod ({ cls := "HybridTrack", name := "silence", desc := "(IZ)I" } : Jvm.MethodName) ∈ ht_tb := ht_wt 316 rfl rfl
theorem w317 : Jvm.Cond.selects "HybridTrack" ({ cls := "HybridTrack", name := "silence", desc := "(IZ)I" } : Jvm.MethodName) ({ cls := "HybridTrack", name := "silence", desc := "(IZ)I" } : Jvm.MethodName) ∈ ht_tb := ht_wt 317 rfl rfl
theorem w318 : Jvm.Cond.code ({ cls := "HybridTrack", name := "silence", desc := "(IZ)I" } : Jvm.MethodName) prog_1_method_4_code (5 : Nat) (Option.some Jvm.ClassFile.FieldType.int) ∈ ht_tb := ht_wt 318 rfl rfl
theorem w319 : Jvm.Cond.methodLink "HybridTrackLaw" (78 : Nat) ({ cls := "HybridTrackLaw", name := "authorise", desc := "(LHybridTrack;I[J)I" } : Jvm.MethodName) ∈ ht_tb := ht_wt 319 rfl rfl
theorem w320 : Jvm.Cond.static ({ cls := "HybridTrackLaw", name := "authorise", desc := "(LHybridTrack;I[J)I" } : Jvm.MethodName) ∈ ht_tb := ht_wt 320 rfl rfl
theorem w321 : Jvm.Cond.codeWith ({ cls := "HybridTrackLaw", name := "authorise", desc := "(LHybridTrack;I[J)I" } : Jvm.MethodName) method_6_code (4 : Nat) (Option.some Jvm.ClassFile.FieldType.int) [((0 : Nat), (9 : Nat), (12 : Nat), (20 : Nat)), ((0 : Nat), (9 : Nat), (15 : Nat), (15 : Nat))] ∈ ht_tb := ht_wt 321 rfl rfl
theorem w322 : Jvm.Cond.methodLink "HybridTrackLaw" (26 : Nat) ({ cls := "HybridTrack", name := "authorise", desc := "(I)I" } : Jvm.MethodName) ∈ ht_tb := ht_wt 322 rfl rfl
theorem w323 : Jvm.Cond.instanceMethod ({ cls := "HybridTrack", name := "authorise", desc := "(I)I" } : Jvm.MethodName) ∈ ht_tb := ht_wt 323 rfl rfl
theorem w324 : Jvm.Cond.selects "HybridTrack" ({ cls := "HybridTrack", name := "authorise", desc := "(I)I" } : Jvm.MethodName) ({ cls := "HybridTrack", name := "authorise", desc := "(I)I" } : Jvm.MethodName) ∈ ht_tb := ht_wt 324 rfl rfl
theorem w325 : Jvm.Cond.code ({ cls := "HybridTrack", name := "authorise", desc := "(I)I" } : Jvm.MethodName) prog_1_method_5_code (6 : Nat) (Option.some Jvm.ClassFile.FieldType.int) ∈ ht_tb := ht_wt 325 rfl rfl
theorem w327 : Jvm.Cond.methodLink "HybridTrack" (98 : Nat) ({ cls := "HybridTrack", name := "farthestFreeFrom", desc := "(II)I" } : Jvm.MethodName) ∈ ht_tb := ht_wt 327 rfl rfl
theorem w329 : Jvm.Cond.instanceMethod ({ cls := "HybridTrack", name := "farthestFreeFrom", desc := "(II)I" } : Jvm.MethodName) ∈ ht_tb := ht_wt 329 rfl rfl
theorem w330 : Jvm.Cond.code ({ cls := "HybridTrack", name := "farthestFreeFrom", desc := "(II)I" } : Jvm.MethodName) prog_1_method_23_code (5 : Nat) (Option.some Jvm.ClassFile.FieldType.int) ∈ ht_tb := ht_wt 330 rfl rfl
theorem w331 : Jvm.Cond.methodLink "HybridTrackLaw" (82 : Nat) ({ cls := "HybridTrackLaw", name := "relent", desc := "(LHybridTrack;I[J)I" } : Jvm.MethodName) ∈ ht_tb := ht_wt 331 rfl rfl
theorem w332 : Jvm.Cond.static ({ cls := "HybridTrackLaw", name := "relent", desc := "(LHybridTrack;I[J)I" } : Jvm.MethodName) ∈ ht_tb := ht_wt 332 rfl rfl
theorem w333 : Jvm.Cond.codeWith ({ cls := "HybridTrackLaw", name := "relent", desc := "(LHybridTrack;I[J)I" } : Jvm.MethodName) method_7_code (4 : Nat) (Option.some Jvm.ClassFile.FieldType.int) [((0 : Nat), (9 : Nat), (12 : Nat), (20 : Nat)), ((0 : Nat), (9 : Nat), (15 : Nat), (15 : Nat))] ∈ ht_tb := ht_wt 333 rfl rfl
theorem w334 : Jvm.Cond.methodLink "HybridTrackLaw" (30 : Nat) ({ cls := "HybridTrack", name := "relent", desc := "(I)I" } : Jvm.MethodName) ∈ ht_tb := ht_wt 334 rfl rfl
theorem w335 : Jvm.Cond.instanceMethod ({ cls := "HybridTrack", name := "relent", desc := "(I)I" } : Jvm.MethodName) ∈ ht_tb := ht_wt 335 rfl rfl
theorem w336 : Jvm.Cond.selects "HybridTrack" ({ cls := "HybridTrack", name := "relent", desc := "(I)I" } : Jvm.MethodName) ({ cls := "HybridTrack", name := "relent", desc := "(I)I" } : Jvm.MethodName) ∈ ht_tb := ht_wt 336 rfl rfl
theorem w337 : Jvm.Cond.code ({ cls := "HybridTrack", name := "relent", desc := "(I)I" } : Jvm.MethodName) prog_1_method_6_code (4 : Nat) (Option.some Jvm.ClassFile.FieldType.int) ∈ ht_tb := ht_wt 337 rfl rfl
theorem w339 : Jvm.Cond.methodLink "HybridTrackLaw" (85 : Nat) ({ cls := "HybridTrackLaw", name := "lose", desc := "(LHybridTrack;II[J)I" } : Jvm.MethodName) ∈ ht_tb := ht_wt 339 rfl rfl
theorem w340 : Jvm.Cond.static ({ cls := "HybridTrackLaw", name := "lose", desc := "(LHybridTrack;II[J)I" } : Jvm.MethodName) ∈ ht_tb := ht_wt 340 rfl rfl
theorem w341 : Jvm.Cond.codeWith ({ cls := "HybridTrackLaw", name := "lose", desc := "(LHybridTrack;II[J)I" } : Jvm.MethodName) method_8_code (5 : Nat) (Option.some Jvm.ClassFile.FieldType.int) [((0 : Nat), (10 : Nat), (13 : Nat), (20 : Nat)), ((0 : Nat), (10 : Nat), (17 : Nat), (13 : Nat)), ((0 : Nat), (10 : Nat), (21 : Nat), (15 : Nat))] ∈ ht_tb := ht_wt 341 rfl rfl
theorem w342 : Jvm.Cond.methodLink "HybridTrackLaw" (33 : Nat) ({ cls := "HybridTrack", name := "lose", desc := "(II)I" } : Jvm.MethodName) ∈ ht_tb := ht_wt 342 rfl rfl
theorem w343 : Jvm.Cond.instanceMethod ({ cls := "HybridTrack", name := "lose", desc := "(II)I" } : Jvm.MethodName) ∈ ht_tb := ht_wt 343 rfl rfl
theorem w344 : Jvm.Cond.selects "HybridTrack" ({ cls := "HybridTrack", name := "lose", desc := "(II)I" } : Jvm.MethodName) ({ cls := "HybridTrack", name := "lose", desc := "(II)I" } : Jvm.MethodName) ∈ ht_tb := ht_wt 344 rfl rfl
theorem w345 : Jvm.Cond.code ({ cls := "HybridTrack", name := "lose", desc := "(II)I" } : Jvm.MethodName) prog_1_method_7_code (4 : Nat) (Option.some Jvm.ClassFile.FieldType.int) ∈ ht_tb := ht_wt 345 rfl rfl
theorem w350 : Jvm.Cond.instanceMethod ({ cls := "HybridTrack$Vehicle", name := "becomeWagon", desc := "(II)V" } : Jvm.MethodName) ∈ ht_tb := ht_wt 350 rfl rfl
theorem w351 : Jvm.Cond.code ({ cls := "HybridTrack$Vehicle", name := "becomeWagon", desc := "(II)V" } : Jvm.MethodName) prog_2_method_3_code (3 : Nat) (Option.none : Option Jvm.ClassFile.FieldType) ∈ ht_tb := ht_wt 351 rfl rfl
theorem w352 : Jvm.Cond.methodLink "HybridTrackLaw" (88 : Nat) ({ cls := "HybridTrackLaw", name := "confirm", desc := "(LHybridTrack;I[J)I" } : Jvm.MethodName) ∈ ht_tb := ht_wt 352 rfl rfl
theorem w353 : Jvm.Cond.static ({ cls := "HybridTrackLaw", name := "confirm", desc := "(LHybridTrack;I[J)I" } : Jvm.MethodName) ∈ ht_tb := ht_wt 353 rfl rfl
theorem w354 : Jvm.Cond.codeWith ({ cls := "HybridTrackLaw", name := "confirm", desc := "(LHybridTrack;I[J)I" } : Jvm.MethodName) method_9_code (4 : Nat) (Option.some Jvm.ClassFile.FieldType.int) [((0 : Nat), (9 : Nat), (12 : Nat), (20 : Nat)), ((0 : Nat), (9 : Nat), (15 : Nat), (15 : Nat))] ∈ ht_tb := ht_wt 354 rfl rfl
theorem w355 : Jvm.Cond.methodLink "HybridTrackLaw" (36 : Nat) ({ cls := "HybridTrack", name := "confirm", desc := "(I)I" } : Jvm.MethodName) ∈ ht_tb := ht_wt 355 rfl rfl
theorem w356 : Jvm.Cond.instanceMethod ({ cls := "HybridTrack", name := "confirm", desc := "(I)I" } : Jvm.MethodName) ∈ ht_tb := ht_wt 356 rfl rfl
theorem w357 : Jvm.Cond.selects "HybridTrack" ({ cls := "HybridTrack", name := "confirm", desc := "(I)I" } : Jvm.MethodName) ({ cls := "HybridTrack", name := "confirm", desc := "(I)I" } : Jvm.MethodName) ∈ ht_tb := ht_wt 357 rfl rfl
theorem w358 : Jvm.Cond.code ({ cls := "HybridTrack", name := "confirm", desc := "(I)I" } : Jvm.MethodName) prog_1_method_8_code (3 : Nat) (Option.some Jvm.ClassFile.FieldType.int) ∈ ht_tb := ht_wt 358 rfl rfl
theorem w360 : Jvm.Cond.methodLink "HybridTrackLaw" (91 : Nat) ({ cls := "HybridTrackLaw", name := "clear", desc := "(LHybridTrack;I[J)I" } : Jvm.MethodName) ∈ ht_tb := ht_wt 360 rfl rfl
theorem w361 : Jvm.Cond.static ({ cls := "HybridTrackLaw", name := "clear", desc := "(LHybridTrack;I[J)I" } : Jvm.MethodName) ∈ ht_tb := ht_wt 361 rfl rfl
theorem w362 : Jvm.Cond.codeWith ({ cls := "HybridTrackLaw", name := "clear", desc := "(LHybridTrack;I[J)I" } : Jvm.MethodName) method_10_code (4 : Nat) (Option.some Jvm.ClassFile.FieldType.int) [((0 : Nat), (9 : Nat), (12 : Nat), (20 : Nat))] ∈ ht_tb := ht_wt 362 rfl rfl
theorem w363 : Jvm.Cond.methodLink "HybridTrackLaw" (39 : Nat) ({ cls := "HybridTrack", name := "clear", desc := "(I)I" } : Jvm.MethodName) ∈ ht_tb := ht_wt 363 rfl rfl
theorem w364 : Jvm.Cond.instanceMethod ({ cls := "HybridTrack", name := "clear", desc := "(I)I" } : Jvm.MethodName) ∈ ht_tb := ht_wt 364 rfl rfl
theorem w365 : Jvm.Cond.selects "HybridTrack" ({ cls := "HybridTrack", name := "clear", desc := "(I)I" } : Jvm.MethodName) ({ cls := "HybridTrack", name := "clear", desc := "(I)I" } : Jvm.MethodName) ∈ ht_tb := ht_wt 365 rfl rfl
theorem w366 : Jvm.Cond.code ({ cls := "HybridTrack", name := "clear", desc := "(I)I" } : Jvm.MethodName) prog_1_method_9_code (2 : Nat) (Option.some Jvm.ClassFile.FieldType.int) ∈ ht_tb := ht_wt 366 rfl rfl
theorem w368 : Jvm.Cond.methodLink "HybridTrackLaw" (94 : Nat) ({ cls := "HybridTrackLaw", name := "tick", desc := "(LHybridTrack;I[J)I" } : Jvm.MethodName) ∈ ht_tb := ht_wt 368 rfl rfl
theorem w369 : Jvm.Cond.static ({ cls := "HybridTrackLaw", name := "tick", desc := "(LHybridTrack;I[J)I" } : Jvm.MethodName) ∈ ht_tb := ht_wt 369 rfl rfl
theorem w370 : Jvm.Cond.codeWith ({ cls := "HybridTrackLaw", name := "tick", desc := "(LHybridTrack;I[J)I" } : Jvm.MethodName) method_11_code (4 : Nat) (Option.some Jvm.ClassFile.FieldType.int) [((0 : Nat), (9 : Nat), (12 : Nat), (13 : Nat))] ∈ ht_tb := ht_wt 370 rfl rfl
theorem w371 : Jvm.Cond.methodLink "HybridTrackLaw" (42 : Nat) ({ cls := "HybridTrack", name := "tick", desc := "(I)I" } : Jvm.MethodName) ∈ ht_tb := ht_wt 371 rfl rfl
theorem w372 : Jvm.Cond.instanceMethod ({ cls := "HybridTrack", name := "tick", desc := "(I)I" } : Jvm.MethodName) ∈ ht_tb := ht_wt 372 rfl rfl
theorem w373 : Jvm.Cond.selects "HybridTrack" ({ cls := "HybridTrack", name := "tick", desc := "(I)I" } : Jvm.MethodName) ({ cls := "HybridTrack", name := "tick", desc := "(I)I" } : Jvm.MethodName) ∈ ht_tb := ht_wt 373 rfl rfl
theorem w374 : Jvm.Cond.code ({ cls := "HybridTrack", name := "tick", desc := "(I)I" } : Jvm.MethodName) prog_1_method_10_code (3 : Nat) (Option.some Jvm.ClassFile.FieldType.int) ∈ ht_tb := ht_wt 374 rfl rfl
theorem w376 : Jvm.Cond.methodLink "HybridTrack" (144 : Nat) ({ cls := "HybridTrack", name := "makeTick", desc := "()V" } : Jvm.MethodName) ∈ ht_tb := ht_wt 376 rfl rfl
theorem w378 : Jvm.Cond.instanceMethod ({ cls := "HybridTrack", name := "makeTick", desc := "()V" } : Jvm.MethodName) ∈ ht_tb := ht_wt 378 rfl rfl
theorem w379 : Jvm.Cond.code ({ cls := "HybridTrack", name := "makeTick", desc := "()V" } : Jvm.MethodName) prog_1_method_27_code (2 : Nat) (Option.none : Option Jvm.ClassFile.FieldType) ∈ ht_tb := ht_wt 379 rfl rfl
theorem w380 : Jvm.Cond.methodLink "HybridTrack" (185 : Nat) ({ cls := "HybridTrack", name := "goForward", desc := "(LHybridTrack$Vehicle;)V" } : Jvm.MethodName) ∈ ht_tb := ht_wt 380 rfl rfl
theorem w382 : Jvm.Cond.instanceMethod ({ cls := "HybridTrack", name := "goForward", desc := "(LHybridTrack$Vehicle;)V" } : Jvm.MethodName) ∈ ht_tb := ht_wt 382 rfl rfl
theorem w383 : Jvm.Cond.code ({ cls := "HybridTrack", name := "goForward", desc := "(LHybridTrack$Vehicle;)V" } : Jvm.MethodName) prog_1_method_28_code (4 : Nat) (Option.none : Option Jvm.ClassFile.FieldType) ∈ ht_tb := ht_wt 383 rfl rfl
theorem w386 : Jvm.Cond.instanceMethod ({ cls := "HybridTrack$Vehicle", name := "reportOrAge", desc := "()V" } : Jvm.MethodName) ∈ ht_tb := ht_wt 386 rfl rfl
theorem w387 : Jvm.Cond.code ({ cls := "HybridTrack$Vehicle", name := "reportOrAge", desc := "()V" } : Jvm.MethodName) prog_2_method_5_code (1 : Nat) (Option.none : Option Jvm.ClassFile.FieldType) ∈ ht_tb := ht_wt 387 rfl rfl
theorem w388 : Jvm.Cond.methodLink "HybridTrack" (147 : Nat) ({ cls := "HybridTrack", name := "sectionsInState", desc := "(I)I" } : Jvm.MethodName) ∈ ht_tb := ht_wt 388 rfl rfl
theorem w390 : Jvm.Cond.instanceMethod ({ cls := "HybridTrack", name := "sectionsInState", desc := "(I)I" } : Jvm.MethodName) ∈ ht_tb := ht_wt 390 rfl rfl
theorem w391 : Jvm.Cond.code ({ cls := "HybridTrack", name := "sectionsInState", desc := "(I)I" } : Jvm.MethodName) prog_1_method_25_code (4 : Nat) (Option.some Jvm.ClassFile.FieldType.int) ∈ ht_tb := ht_wt 391 rfl rfl
theorem w392 : Jvm.Cond.methodLink "HybridTrackLaw" (97 : Nat) ({ cls := "HybridTrackLaw", name := "state", desc := "(LHybridTrack;I[J)I" } : Jvm.MethodName) ∈ ht_tb := ht_wt 392 rfl rfl
theorem w393 : Jvm.Cond.static ({ cls := "HybridTrackLaw", name := "state", desc := "(LHybridTrack;I[J)I" } : Jvm.MethodName) ∈ ht_tb := ht_wt 393 rfl rfl
theorem w394 : Jvm.Cond.codeWith ({ cls := "HybridTrackLaw", name := "state", desc := "(LHybridTrack;I[J)I" } : Jvm.MethodName) method_12_code (4 : Nat) (Option.some Jvm.ClassFile.FieldType.int) [((0 : Nat), (9 : Nat), (12 : Nat), (13 : Nat))] ∈ ht_tb := ht_wt 394 rfl rfl
theorem w395 : Jvm.Cond.methodLink "HybridTrackLaw" (45 : Nat) ({ cls := "HybridTrack", name := "state", desc := "(I)I" } : Jvm.MethodName) ∈ ht_tb := ht_wt 395 rfl rfl
theorem w396 : Jvm.Cond.instanceMethod ({ cls := "HybridTrack", name := "state", desc := "(I)I" } : Jvm.MethodName) ∈ ht_tb := ht_wt 396 rfl rfl
theorem w397 : Jvm.Cond.selects "HybridTrack" ({ cls := "HybridTrack", name := "state", desc := "(I)I" } : Jvm.MethodName) ({ cls := "HybridTrack", name := "state", desc := "(I)I" } : Jvm.MethodName) ∈ ht_tb := ht_wt 397 rfl rfl
theorem w398 : Jvm.Cond.code ({ cls := "HybridTrack", name := "state", desc := "(I)I" } : Jvm.MethodName) prog_1_method_11_code (2 : Nat) (Option.some Jvm.ClassFile.FieldType.int) ∈ ht_tb := ht_wt 398 rfl rfl
theorem w400 : Jvm.Cond.methodLink "HybridTrackLaw" (100 : Nat) ({ cls := "HybridTrackLaw", name := "detected", desc := "(LHybridTrack;I[J)I" } : Jvm.MethodName) ∈ ht_tb := ht_wt 400 rfl rfl
set_option maxRecDepth 100000 in
theorem w401 : Jvm.Cond.static ({ cls := "HybridTrackLaw", name := "detected", desc := "(LHybridTrack;I[J)I" } : Jvm.MethodName) ∈ ht_tb := ht_wt 401 rfl rfl
set_option maxRecDepth 100000 in
theorem w402 : Jvm.Cond.codeWith ({ cls := "HybridTrackLaw", name := "detected", desc := "(LHybridTrack;I[J)I" } : Jvm.MethodName) method_13_code (4 : Nat) (Option.some Jvm.ClassFile.FieldType.int) [((0 : Nat), (9 : Nat), (12 : Nat), (13 : Nat))] ∈ ht_tb := ht_wt 402 rfl rfl
set_option maxRecDepth 100000 in
theorem w403 : Jvm.Cond.methodLink "HybridTrackLaw" (48 : Nat) ({ cls := "HybridTrack", name := "detected", desc := "(I)I" } : Jvm.MethodName) ∈ ht_tb := ht_wt 403 rfl rfl
set_option maxRecDepth 100000 in
theorem w404 : Jvm.Cond.instanceMethod ({ cls := "HybridTrack", name := "detected", desc := "(I)I" } : Jvm.MethodName) ∈ ht_tb := ht_wt 404 rfl rfl
set_option maxRecDepth 100000 in
theorem w405 : Jvm.Cond.selects "HybridTrack" ({ cls := "HybridTrack", name := "detected", desc := "(I)I" } : Jvm.MethodName) ({ cls := "HybridTrack", name := "detected", desc := "(I)I" } : Jvm.MethodName) ∈ ht_tb := ht_wt 405 rfl rfl
set_option maxRecDepth 100000 in
theorem w406 : Jvm.Cond.code ({ cls := "HybridTrack", name := "detected", desc := "(I)I" } : Jvm.MethodName) prog_1_method_12_code (2 : Nat) (Option.some Jvm.ClassFile.FieldType.int) ∈ ht_tb := ht_wt 406 rfl rfl
set_option maxRecDepth 100000 in
theorem w408 : Jvm.Cond.methodLink "HybridTrackLaw" (103 : Nat) ({ cls := "HybridTrackLaw", name := "vehicle", desc := "(LHybridTrack;II[J)I" } : Jvm.MethodName) ∈ ht_tb := ht_wt 408 rfl rfl
set_option maxRecDepth 100000 in
theorem w409 : Jvm.Cond.static ({ cls := "HybridTrackLaw", name := "vehicle", desc := "(LHybridTrack;II[J)I" } : Jvm.MethodName) ∈ ht_tb := ht_wt 409 rfl rfl
set_option maxRecDepth 100000 in
theorem w410 : Jvm.Cond.codeWith ({ cls := "HybridTrackLaw", name := "vehicle", desc := "(LHybridTrack;II[J)I" } : Jvm.MethodName) method_14_code (5 : Nat) (Option.some Jvm.ClassFile.FieldType.int) [((0 : Nat), (10 : Nat), (13 : Nat), (20 : Nat)), ((0 : Nat), (10 : Nat), (17 : Nat), (13 : Nat))] ∈ ht_tb := ht_wt 410 rfl rfl
set_option maxRecDepth 100000 in
theorem w411 : Jvm.Cond.methodLink "HybridTrackLaw" (51 : Nat) ({ cls := "HybridTrack", name := "vehicle", desc := "(II)I" } : Jvm.MethodName) ∈ ht_tb := ht_wt 411 rfl rfl
set_option maxRecDepth 100000 in
theorem w412 : Jvm.Cond.instanceMethod ({ cls := "HybridTrack", name := "vehicle", desc := "(II)I" } : Jvm.MethodName) ∈ ht_tb := ht_wt 412 rfl rfl
set_option maxRecDepth 100000 in
theorem w413 : Jvm.Cond.selects "HybridTrack" ({ cls := "HybridTrack", name := "vehicle", desc := "(II)I" } : Jvm.MethodName) ({ cls := "HybridTrack", name := "vehicle", desc := "(II)I" } : Jvm.MethodName) ∈ ht_tb := ht_wt 413 rfl rfl
set_option maxRecDepth 100000 in
theorem w414 : Jvm.Cond.code ({ cls := "HybridTrack", name := "vehicle", desc := "(II)I" } : Jvm.MethodName) prog_1_method_13_code (4 : Nat) (Option.some Jvm.ClassFile.FieldType.int) ∈ ht_tb := ht_wt 414 rfl rfl
set_option maxRecDepth 100000 in
theorem w418 : Jvm.Cond.methodLink "HybridTrackLaw" (106 : Nat) ({ cls := "HybridTrackLaw", name := "count", desc := "(LHybridTrack;I[J)I" } : Jvm.MethodName) ∈ ht_tb := ht_wt 418 rfl rfl
set_option maxRecDepth 100000 in
theorem w419 : Jvm.Cond.static ({ cls := "HybridTrackLaw", name := "count", desc := "(LHybridTrack;I[J)I" } : Jvm.MethodName) ∈ ht_tb := ht_wt 419 rfl rfl
set_option maxRecDepth 100000 in
theorem w420 : Jvm.Cond.codeWith ({ cls := "HybridTrackLaw", name := "count", desc := "(LHybridTrack;I[J)I" } : Jvm.MethodName) method_15_code (4 : Nat) (Option.some Jvm.ClassFile.FieldType.int) [((0 : Nat), (9 : Nat), (12 : Nat), (13 : Nat))] ∈ ht_tb := ht_wt 420 rfl rfl
set_option maxRecDepth 100000 in
theorem w421 : Jvm.Cond.methodLink "HybridTrackLaw" (54 : Nat) ({ cls := "HybridTrack", name := "count", desc := "(I)I" } : Jvm.MethodName) ∈ ht_tb := ht_wt 421 rfl rfl
set_option maxRecDepth 100000 in
theorem w422 : Jvm.Cond.instanceMethod ({ cls := "HybridTrack", name := "count", desc := "(I)I" } : Jvm.MethodName) ∈ ht_tb := ht_wt 422 rfl rfl
set_option maxRecDepth 100000 in
theorem w423 : Jvm.Cond.selects "HybridTrack" ({ cls := "HybridTrack", name := "count", desc := "(I)I" } : Jvm.MethodName) ({ cls := "HybridTrack", name := "count", desc := "(I)I" } : Jvm.MethodName) ∈ ht_tb := ht_wt 423 rfl rfl
set_option maxRecDepth 100000 in
theorem w424 : Jvm.Cond.code ({ cls := "HybridTrack", name := "count", desc := "(I)I" } : Jvm.MethodName) prog_1_method_14_code (2 : Nat) (Option.some Jvm.ClassFile.FieldType.int) ∈ ht_tb := ht_wt 424 rfl rfl
set_option maxRecDepth 100000 in
theorem w425 : Jvm.Cond.methodLink "HybridTrack" (166 : Nat) ({ cls := "HybridTrack", name := "trainsThatCame", desc := "()I" } : Jvm.MethodName) ∈ ht_tb := ht_wt 425 rfl rfl
set_option maxRecDepth 100000 in
theorem w427 : Jvm.Cond.instanceMethod ({ cls := "HybridTrack", name := "trainsThatCame", desc := "()I" } : Jvm.MethodName) ∈ ht_tb := ht_wt 427 rfl rfl
set_option maxRecDepth 100000 in
theorem w428 : Jvm.Cond.code ({ cls := "HybridTrack", name := "trainsThatCame", desc := "()I" } : Jvm.MethodName) prog_1_method_24_code (3 : Nat) (Option.some Jvm.ClassFile.FieldType.int) ∈ ht_tb := ht_wt 428 rfl rfl
set_option maxRecDepth 100000 in
theorem w429 : Jvm.Cond.methodLink "HybridTrack" (169 : Nat) ({ cls := "HybridTrack", name := "sectionsWronglyFree", desc := "()I" } : Jvm.MethodName) ∈ ht_tb := ht_wt 429 rfl rfl
set_option maxRecDepth 100000 in
theorem w431 : Jvm.Cond.instanceMethod ({ cls := "HybridTrack", name := "sectionsWronglyFree", desc := "()I" } : Jvm.MethodName) ∈ ht_tb := ht_wt 431 rfl rfl
set_option maxRecDepth 100000 in
theorem w432 : Jvm.Cond.code ({ cls := "HybridTrack", name := "sectionsWronglyFree", desc := "()I" } : Jvm.MethodName) prog_1_method_26_code (3 : Nat) (Option.some Jvm.ClassFile.FieldType.int) ∈ ht_tb := ht_wt 432 rfl rfl
set_option maxRecDepth 100000 in
theorem w433 : Jvm.Cond.methodLink "HybridTrack" (182 : Nat) ({ cls := "HybridTrack", name := "isSectionStoodOn", desc := "(I)Z" } : Jvm.MethodName) ∈ ht_tb := ht_wt 433 rfl rfl
set_option maxRecDepth 100000 in
theorem w435 : Jvm.Cond.instanceMethod ({ cls := "HybridTrack", name := "isSectionStoodOn", desc := "(I)Z" } : Jvm.MethodName) ∈ ht_tb := ht_wt 435 rfl rfl
set_option maxRecDepth 100000 in
theorem w436 : Jvm.Cond.code ({ cls := "HybridTrack", name := "isSectionStoodOn", desc := "(I)Z" } : Jvm.MethodName) prog_1_method_20_code (3 : Nat) (Option.some Jvm.ClassFile.FieldType.boolean) ∈ ht_tb := ht_wt 436 rfl rfl
set_option maxRecDepth 100000 in
theorem w438 : Jvm.Cond.classLink "HybridTrackLaw" (58 : Nat) "HybridTrackModel" ∈ ht_tb := ht_wt 438 rfl rfl
set_option maxRecDepth 100000 in
theorem w439 : Jvm.Cond.instantiable "HybridTrackModel" (19 : Nat) ∈ ht_tb := ht_wt 439 rfl rfl
set_option maxRecDepth 100000 in
theorem w440 : Jvm.Cond.methodLink "HybridTrackLaw" (60 : Nat) ({ cls := "HybridTrackModel", name := "<init>", desc := "()V" } : Jvm.MethodName) ∈ ht_tb := ht_wt 440 rfl rfl
set_option maxRecDepth 100000 in
theorem w441 : Jvm.Cond.instanceMethod ({ cls := "HybridTrackModel", name := "<init>", desc := "()V" } : Jvm.MethodName) ∈ ht_tb := ht_wt 441 rfl rfl
set_option maxRecDepth 100000 in
theorem w442 : Jvm.Cond.code ({ cls := "HybridTrackModel", name := "<init>", desc := "()V" } : Jvm.MethodName) prog_4_method_1_code (2 : Nat) (Option.none : Option Jvm.ClassFile.FieldType) ∈ ht_tb := ht_wt 442 rfl rfl
set_option maxRecDepth 100000 in
theorem w443 : Jvm.Cond.methodLink "HybridTrackModel" (1 : Nat) ({ cls := "java/lang/Object", name := "<init>", desc := "()V" } : Jvm.MethodName) ∈ ht_tb := ht_wt 443 rfl rfl
set_option maxRecDepth 100000 in
theorem w444 : Jvm.Cond.fieldLink "HybridTrackModel" (59 : Nat) "HybridTrackModel" "thrown" "I" ∈ ht_tb := ht_wt 444 rfl rfl
set_option maxRecDepth 100000 in
theorem w445 : Jvm.Cond.fieldLink "HybridTrackModel" (7 : Nat) "HybridTrackModel" "train" "[Z" ∈ ht_tb := ht_wt 445 rfl rfl
set_option maxRecDepth 100000 in
theorem w446 : Jvm.Cond.fieldLink "HybridTrackModel" (13 : Nat) "HybridTrackModel" "there" "[Z" ∈ ht_tb := ht_wt 446 rfl rfl
set_option maxRecDepth 100000 in
theorem w447 : Jvm.Cond.fieldLink "HybridTrackModel" (16 : Nat) "HybridTrackModel" "front" "[I" ∈ ht_tb := ht_wt 447 rfl rfl
set_option maxRecDepth 100000 in
theorem w448 : Jvm.Cond.fieldLink "HybridTrackModel" (20 : Nat) "HybridTrackModel" "length" "[I" ∈ ht_tb := ht_wt 448 rfl rfl
set_option maxRecDepth 100000 in
theorem w449 : Jvm.Cond.fieldLink "HybridTrackModel" (23 : Nat) "HybridTrackModel" "speed" "[I" ∈ ht_tb := ht_wt 449 rfl rfl
set_option maxRecDepth 100000 in
theorem w450 : Jvm.Cond.fieldLink "HybridTrackModel" (26 : Nat) "HybridTrackModel" "end" "[I" ∈ ht_tb := ht_wt 450 rfl rfl
set_option maxRecDepth 100000 in
theorem w451 : Jvm.Cond.fieldLink "HybridTrackModel" (29 : Nat) "HybridTrackModel" "silent" "[Z" ∈ ht_tb := ht_wt 451 rfl rfl
set_option maxRecDepth 100000 in
theorem w452 : Jvm.Cond.fieldLink "HybridTrackModel" (32 : Nat) "HybridTrackModel" "whole" "[Z" ∈ ht_tb := ht_wt 452 rfl rfl
set_option maxRecDepth 100000 in
theorem w453 : Jvm.Cond.fieldLink "HybridTrackModel" (35 : Nat) "HybridTrackModel" "told" "[I" ∈ ht_tb := ht_wt 453 rfl rfl
set_option maxRecDepth 100000 in
theorem w454 : Jvm.Cond.fieldLink "HybridTrackModel" (38 : Nat) "HybridTrackModel" "toldLast" "[I" ∈ ht_tb := ht_wt 454 rfl rfl
set_option maxRecDepth 100000 in
theorem w455 : Jvm.Cond.fieldLink "HybridTrackModel" (41 : Nat) "HybridTrackModel" "toldWhole" "[Z" ∈ ht_tb := ht_wt 455 rfl rfl
set_option maxRecDepth 100000 in
theorem w456 : Jvm.Cond.fieldLink "HybridTrackModel" (44 : Nat) "HybridTrackModel" "age" "[I" ∈ ht_tb := ht_wt 456 rfl rfl
set_option maxRecDepth 100000 in
theorem w457 : Jvm.Cond.fieldLink "HybridTrackModel" (47 : Nat) "HybridTrackModel" "before" "[I" ∈ ht_tb := ht_wt 457 rfl rfl
set_option maxRecDepth 100000 in
theorem w458 : Jvm.Cond.fieldLink "HybridTrackModel" (63 : Nat) "HybridTrackModel" "came" "I" ∈ ht_tb := ht_wt 458 rfl rfl
set_option maxRecDepth 100000 in
theorem w459 : Jvm.Cond.fieldLink "HybridTrackModel" (50 : Nat) "HybridTrackModel" "states" "[I" ∈ ht_tb := ht_wt 459 rfl rfl
set_option maxRecDepth 100000 in
theorem w460 : Jvm.Cond.fieldLink "HybridTrackModel" (53 : Nat) "HybridTrackModel" "next" "[I" ∈ ht_tb := ht_wt 460 rfl rfl
set_option maxRecDepth 100000 in
theorem w461 : Jvm.Cond.fieldLink "HybridTrackModel" (56 : Nat) "HybridTrackModel" "alone" "[I" ∈ ht_tb := ht_wt 461 rfl rfl
set_option maxRecDepth 100000 in
theorem w462 : Jvm.Cond.fieldLink "HybridTrackModel" (120 : Nat) "HybridTrackModel" "ticks" "I" ∈ ht_tb := ht_wt 462 rfl rfl
set_option maxRecDepth 100000 in
theorem w463 : Jvm.Cond.lays "HybridTrackModel" "HybridTrackModel" "thrown" "I" ∈ ht_tb := ht_wt 463 rfl rfl
set_option maxRecDepth 100000 in
theorem w465 : Jvm.Cond.laysFinal "HybridTrackModel" "HybridTrackModel" "train" "[Z" ∈ ht_tb := ht_wt 465 rfl rfl
set_option maxRecDepth 100000 in
theorem w467 : Jvm.Cond.laysFinal "HybridTrackModel" "HybridTrackModel" "there" "[Z" ∈ ht_tb := ht_wt 467 rfl rfl
set_option maxRecDepth 100000 in
theorem w469 : Jvm.Cond.laysFinal "HybridTrackModel" "HybridTrackModel" "front" "[I" ∈ ht_tb := ht_wt 469 rfl rfl
set_option maxRecDepth 100000 in
theorem w471 : Jvm.Cond.laysFinal "HybridTrackModel" "HybridTrackModel" "length" "[I" ∈ ht_tb := ht_wt 471 rfl rfl
set_option maxRecDepth 100000 in
theorem w473 : Jvm.Cond.laysFinal "HybridTrackModel" "HybridTrackModel" "speed" "[I" ∈ ht_tb := ht_wt 473 rfl rfl
set_option maxRecDepth 100000 in
theorem w475 : Jvm.Cond.laysFinal "HybridTrackModel" "HybridTrackModel" "end" "[I" ∈ ht_tb := ht_wt 475 rfl rfl
set_option maxRecDepth 100000 in
theorem w477 : Jvm.Cond.laysFinal "HybridTrackModel" "HybridTrackModel" "silent" "[Z" ∈ ht_tb := ht_wt 477 rfl rfl
set_option maxRecDepth 100000 in
theorem w479 : Jvm.Cond.laysFinal "HybridTrackModel" "HybridTrackModel" "whole" "[Z" ∈ ht_tb := ht_wt 479 rfl rfl
set_option maxRecDepth 100000 in
theorem w481 : Jvm.Cond.laysFinal "HybridTrackModel" "HybridTrackModel" "told" "[I" ∈ ht_tb := ht_wt 481 rfl rfl
set_option maxRecDepth 100000 in
theorem w483 : Jvm.Cond.laysFinal "HybridTrackModel" "HybridTrackModel" "toldLast" "[I" ∈ ht_tb := ht_wt 483 rfl rfl
set_option maxRecDepth 100000 in
theorem w485 : Jvm.Cond.laysFinal "HybridTrackModel" "HybridTrackModel" "toldWhole" "[Z" ∈ ht_tb := ht_wt 485 rfl rfl
set_option maxRecDepth 100000 in
theorem w487 : Jvm.Cond.laysFinal "HybridTrackModel" "HybridTrackModel" "age" "[I" ∈ ht_tb := ht_wt 487 rfl rfl
set_option maxRecDepth 100000 in
theorem w489 : Jvm.Cond.laysFinal "HybridTrackModel" "HybridTrackModel" "before" "[I" ∈ ht_tb := ht_wt 489 rfl rfl
set_option maxRecDepth 100000 in
theorem w491 : Jvm.Cond.lays "HybridTrackModel" "HybridTrackModel" "came" "I" ∈ ht_tb := ht_wt 491 rfl rfl
set_option maxRecDepth 100000 in
theorem w493 : Jvm.Cond.laysFinal "HybridTrackModel" "HybridTrackModel" "states" "[I" ∈ ht_tb := ht_wt 493 rfl rfl
set_option maxRecDepth 100000 in
theorem w495 : Jvm.Cond.laysFinal "HybridTrackModel" "HybridTrackModel" "next" "[I" ∈ ht_tb := ht_wt 495 rfl rfl
set_option maxRecDepth 100000 in
theorem w497 : Jvm.Cond.laysFinal "HybridTrackModel" "HybridTrackModel" "alone" "[I" ∈ ht_tb := ht_wt 497 rfl rfl
set_option maxRecDepth 100000 in
theorem w499 : Jvm.Cond.lays "HybridTrackModel" "HybridTrackModel" "ticks" "I" ∈ ht_tb := ht_wt 499 rfl rfl
set_option maxRecDepth 100000 in
theorem w502 : Jvm.Cond.arrayClass Jvm.ClassFile.FieldType.boolean ∈ ht_tb := ht_wt 502 rfl rfl
set_option maxRecDepth 100000 in
theorem w503 : Jvm.Cond.methodLink "HybridTrackLaw" (67 : Nat) ({ cls := "HybridTrackModel", name := "thrown", desc := "()I" } : Jvm.MethodName) ∈ ht_tb := ht_wt 503 rfl rfl
set_option maxRecDepth 100000 in
theorem w504 : Jvm.Cond.instanceMethod ({ cls := "HybridTrackModel", name := "thrown", desc := "()I" } : Jvm.MethodName) ∈ ht_tb := ht_wt 504 rfl rfl
set_option maxRecDepth 100000 in
theorem w505 : Jvm.Cond.selects "HybridTrackModel" ({ cls := "HybridTrackModel", name := "thrown", desc := "()I" } : Jvm.MethodName) ({ cls := "HybridTrackModel", name := "thrown", desc := "()I" } : Jvm.MethodName) ∈ ht_tb := ht_wt 505 rfl rfl
set_option maxRecDepth 100000 in
theorem w506 : Jvm.Cond.code ({ cls := "HybridTrackModel", name := "thrown", desc := "()I" } : Jvm.MethodName) prog_4_method_2_code (1 : Nat) (Option.some Jvm.ClassFile.FieldType.int) ∈ ht_tb := ht_wt 506 rfl rfl
set_option maxRecDepth 100000 in
theorem w507 : Jvm.Cond.methodLink "HybridTrackLaw" (66 : Nat) ({ cls := "HybridTrackModel", name := "enter", desc := "(II)I" } : Jvm.MethodName) ∈ ht_tb := ht_wt 507 rfl rfl
set_option maxRecDepth 100000 in
theorem w508 : Jvm.Cond.instanceMethod ({ cls := "HybridTrackModel", name := "enter", desc := "(II)I" } : Jvm.MethodName) ∈ ht_tb := ht_wt 508 rfl rfl
set_option maxRecDepth 100000 in
theorem w509 : Jvm.Cond.selects "HybridTrackModel" ({ cls := "HybridTrackModel", name := "enter", desc := "(II)I" } : Jvm.MethodName) ({ cls := "HybridTrackModel", name := "enter", desc := "(II)I" } : Jvm.MethodName) ∈ ht_tb := ht_wt 509 rfl rfl
set_option maxRecDepth 100000 in
theorem w510 : Jvm.Cond.code ({ cls := "HybridTrackModel", name := "enter", desc := "(II)I" } : Jvm.MethodName) prog_4_method_19_code (4 : Nat) (Option.some Jvm.ClassFile.FieldType.int) ∈ ht_tb := ht_wt 510 rfl rfl
set_option maxRecDepth 100000 in
theorem w511 : Jvm.Cond.methodLink "HybridTrackModel" (66 : Nat) ({ cls := "HybridTrackModel", name := "in", desc := "(III)Z" } : Jvm.MethodName) ∈ ht_tb := ht_wt 511 rfl rfl
set_option maxRecDepth 100000 in
theorem w512 : Jvm.Cond.static ({ cls := "HybridTrackModel", name := "in", desc := "(III)Z" } : Jvm.MethodName) ∈ ht_tb := ht_wt 512 rfl rfl
set_option maxRecDepth 100000 in
theorem w513 : Jvm.Cond.code ({ cls := "HybridTrackModel", name := "in", desc := "(III)Z" } : Jvm.MethodName) prog_4_method_4_code (3 : Nat) (Option.some Jvm.ClassFile.FieldType.boolean) ∈ ht_tb := ht_wt 513 rfl rfl
set_option maxRecDepth 100000 in
theorem w514 : Jvm.Cond.methodLink "HybridTrackModel" (100 : Nat) ({ cls := "HybridTrackModel", name := "raise", desc := "(I)I" } : Jvm.MethodName) ∈ ht_tb := ht_wt 514 rfl rfl
set_option maxRecDepth 100000 in
theorem w516 : Jvm.Cond.instanceMethod ({ cls := "HybridTrackModel", name := "raise", desc := "(I)I" } : Jvm.MethodName) ∈ ht_tb := ht_wt 516 rfl rfl
set_option maxRecDepth 100000 in
theorem w517 : Jvm.Cond.code ({ cls := "HybridTrackModel", name := "raise", desc := "(I)I" } : Jvm.MethodName) prog_4_method_3_code (2 : Nat) (Option.some Jvm.ClassFile.FieldType.int) ∈ ht_tb := ht_wt 517 rfl rfl
set_option maxRecDepth 100000 in
theorem w518 : Jvm.Cond.methodLink "HybridTrackModel" (103 : Nat) ({ cls := "HybridTrackModel", name := "standsOn", desc := "(II)I" } : Jvm.MethodName) ∈ ht_tb := ht_wt 518 rfl rfl
set_option maxRecDepth 100000 in
theorem w520 : Jvm.Cond.instanceMethod ({ cls := "HybridTrackModel", name := "standsOn", desc := "(II)I" } : Jvm.MethodName) ∈ ht_tb := ht_wt 520 rfl rfl
set_option maxRecDepth 100000 in
theorem w521 : Jvm.Cond.code ({ cls := "HybridTrackModel", name := "standsOn", desc := "(II)I" } : Jvm.MethodName) prog_4_method_7_code (4 : Nat) (Option.some Jvm.ClassFile.FieldType.int) ∈ ht_tb := ht_wt 521 rfl rfl
set_option maxRecDepth 100000 in
theorem w522 : Jvm.Cond.methodLink "HybridTrackModel" (70 : Nat) ({ cls := "HybridTrackModel", name := "last", desc := "(I)I" } : Jvm.MethodName) ∈ ht_tb := ht_wt 522 rfl rfl
set_option maxRecDepth 100000 in
theorem w524 : Jvm.Cond.instanceMethod ({ cls := "HybridTrackModel", name := "last", desc := "(I)I" } : Jvm.MethodName) ∈ ht_tb := ht_wt 524 rfl rfl
set_option maxRecDepth 100000 in
theorem w525 : Jvm.Cond.code ({ cls := "HybridTrackModel", name := "last", desc := "(I)I" } : Jvm.MethodName) prog_4_method_6_code (2 : Nat) (Option.some Jvm.ClassFile.FieldType.int) ∈ ht_tb := ht_wt 525 rfl rfl
set_option maxRecDepth 100000 in
theorem w526 : Jvm.Cond.methodLink "HybridTrackModel" (107 : Nat) ({ cls := "HybridTrackModel", name := "claimed", desc := "(II)Z" } : Jvm.MethodName) ∈ ht_tb := ht_wt 526 rfl rfl
set_option maxRecDepth 100000 in
theorem w528 : Jvm.Cond.instanceMethod ({ cls := "HybridTrackModel", name := "claimed", desc := "(II)Z" } : Jvm.MethodName) ∈ ht_tb := ht_wt 528 rfl rfl
set_option maxRecDepth 100000 in
theorem w529 : Jvm.Cond.code ({ cls := "HybridTrackModel", name := "claimed", desc := "(II)Z" } : Jvm.MethodName) prog_4_method_12_code (4 : Nat) (Option.some Jvm.ClassFile.FieldType.boolean) ∈ ht_tb := ht_wt 529 rfl rfl
set_option maxRecDepth 100000 in
theorem w530 : Jvm.Cond.methodLink "HybridTrackModel" (78 : Nat) ({ cls := "HybridTrackModel", name := "claims", desc := "(II)Z" } : Jvm.MethodName) ∈ ht_tb := ht_wt 530 rfl rfl
set_option maxRecDepth 100000 in
theorem w532 : Jvm.Cond.instanceMethod ({ cls := "HybridTrackModel", name := "claims", desc := "(II)Z" } : Jvm.MethodName) ∈ ht_tb := ht_wt 532 rfl rfl
set_option maxRecDepth 100000 in
theorem w533 : Jvm.Cond.code ({ cls := "HybridTrackModel", name := "claims", desc := "(II)Z" } : Jvm.MethodName) prog_4_method_11_code (3 : Nat) (Option.some Jvm.ClassFile.FieldType.boolean) ∈ ht_tb := ht_wt 533 rfl rfl
set_option maxRecDepth 100000 in
theorem w534 : Jvm.Cond.methodLink "HybridTrackModel" (110 : Nat) ({ cls := "HybridTrackModel", name := "report", desc := "(I)V" } : Jvm.MethodName) ∈ ht_tb := ht_wt 534 rfl rfl
set_option maxRecDepth 100000 in
theorem w536 : Jvm.Cond.instanceMethod ({ cls := "HybridTrackModel", name := "report", desc := "(I)V" } : Jvm.MethodName) ∈ ht_tb := ht_wt 536 rfl rfl
set_option maxRecDepth 100000 in
theorem w537 : Jvm.Cond.code ({ cls := "HybridTrackModel", name := "report", desc := "(I)V" } : Jvm.MethodName) prog_4_method_18_code (2 : Nat) (Option.none : Option Jvm.ClassFile.FieldType) ∈ ht_tb := ht_wt 537 rfl rfl
set_option maxRecDepth 100000 in
theorem w538 : Jvm.Cond.methodLink "HybridTrackModel" (114 : Nat) ({ cls := "HybridTrackModel", name := "findStates", desc := "()V" } : Jvm.MethodName) ∈ ht_tb := ht_wt 538 rfl rfl
set_option maxRecDepth 100000 in
theorem w540 : Jvm.Cond.instanceMethod ({ cls := "HybridTrackModel", name := "findStates", desc := "()V" } : Jvm.MethodName) ∈ ht_tb := ht_wt 540 rfl rfl
set_option maxRecDepth 100000 in
theorem w541 : Jvm.Cond.code ({ cls := "HybridTrackModel", name := "findStates", desc := "()V" } : Jvm.MethodName) prog_4_method_17_code (4 : Nat) (Option.none : Option Jvm.ClassFile.FieldType) ∈ ht_tb := ht_wt 541 rfl rfl
set_option maxRecDepth 100000 in
theorem w542 : Jvm.Cond.methodLink "HybridTrackModel" (97 : Nat) ({ cls := "HybridTrackModel", name := "found", desc := "(I)I" } : Jvm.MethodName) ∈ ht_tb := ht_wt 542 rfl rfl
set_option maxRecDepth 100000 in
theorem w544 : Jvm.Cond.instanceMethod ({ cls := "HybridTrackModel", name := "found", desc := "(I)I" } : Jvm.MethodName) ∈ ht_tb := ht_wt 544 rfl rfl
set_option maxRecDepth 100000 in
theorem w545 : Jvm.Cond.code ({ cls := "HybridTrackModel", name := "found", desc := "(I)I" } : Jvm.MethodName) prog_4_method_16_code (3 : Nat) (Option.some Jvm.ClassFile.FieldType.int) ∈ ht_tb := ht_wt 545 rfl rfl
set_option maxRecDepth 100000 in
theorem w546 : Jvm.Cond.methodLink "HybridTrackModel" (85 : Nat) ({ cls := "HybridTrackModel", name := "occupied", desc := "(I)Z" } : Jvm.MethodName) ∈ ht_tb := ht_wt 546 rfl rfl
set_option maxRecDepth 100000 in
theorem w548 : Jvm.Cond.instanceMethod ({ cls := "HybridTrackModel", name := "occupied", desc := "(I)Z" } : Jvm.MethodName) ∈ ht_tb := ht_wt 548 rfl rfl
set_option maxRecDepth 100000 in
theorem w549 : Jvm.Cond.code ({ cls := "HybridTrackModel", name := "occupied", desc := "(I)Z" } : Jvm.MethodName) prog_4_method_8_code (3 : Nat) (Option.some Jvm.ClassFile.FieldType.boolean) ∈ ht_tb := ht_wt 549 rfl rfl
set_option maxRecDepth 100000 in
theorem w550 : Jvm.Cond.methodLink "HybridTrackModel" (88 : Nat) ({ cls := "HybridTrackModel", name := "many", desc := "(I)I" } : Jvm.MethodName) ∈ ht_tb := ht_wt 550 rfl rfl
set_option maxRecDepth 100000 in
theorem w552 : Jvm.Cond.instanceMethod ({ cls := "HybridTrackModel", name := "many", desc := "(I)I" } : Jvm.MethodName) ∈ ht_tb := ht_wt 552 rfl rfl
set_option maxRecDepth 100000 in
theorem w553 : Jvm.Cond.code ({ cls := "HybridTrackModel", name := "many", desc := "(I)I" } : Jvm.MethodName) prog_4_method_15_code (5 : Nat) (Option.some Jvm.ClassFile.FieldType.int) ∈ ht_tb := ht_wt 553 rfl rfl
set_option maxRecDepth 100000 in
theorem w554 : Jvm.Cond.methodLink "HybridTrackModel" (82 : Nat) ({ cls := "HybridTrackModel", name := "located", desc := "(II)Z" } : Jvm.MethodName) ∈ ht_tb := ht_wt 554 rfl rfl
set_option maxRecDepth 100000 in
theorem w556 : Jvm.Cond.instanceMethod ({ cls := "HybridTrackModel", name := "located", desc := "(II)Z" } : Jvm.MethodName) ∈ ht_tb := ht_wt 556 rfl rfl
set_option maxRecDepth 100000 in
theorem w557 : Jvm.Cond.code ({ cls := "HybridTrackModel", name := "located", desc := "(II)Z" } : Jvm.MethodName) prog_4_method_10_code (3 : Nat) (Option.some Jvm.ClassFile.FieldType.boolean) ∈ ht_tb := ht_wt 557 rfl rfl
set_option maxRecDepth 100000 in
theorem w558 : Jvm.Cond.methodLink "HybridTrackModel" (74 : Nat) ({ cls := "HybridTrackModel", name := "mute", desc := "(I)Z" } : Jvm.MethodName) ∈ ht_tb := ht_wt 558 rfl rfl
set_option maxRecDepth 100000 in
theorem w560 : Jvm.Cond.instanceMethod ({ cls := "HybridTrackModel", name := "mute", desc := "(I)Z" } : Jvm.MethodName) ∈ ht_tb := ht_wt 560 rfl rfl
set_option maxRecDepth 100000 in
theorem w561 : Jvm.Cond.code ({ cls := "HybridTrackModel", name := "mute", desc := "(I)Z" } : Jvm.MethodName) prog_4_method_9_code (2 : Nat) (Option.some Jvm.ClassFile.FieldType.boolean) ∈ ht_tb := ht_wt 561 rfl rfl
set_option maxRecDepth 100000 in
theorem w562 : Jvm.Cond.methodLink "HybridTrackModel" (91 : Nat) ({ cls := "HybridTrackModel", name := "accounted", desc := "(I)Z" } : Jvm.MethodName) ∈ ht_tb := ht_wt 562 rfl rfl
set_option maxRecDepth 100000 in
theorem w564 : Jvm.Cond.instanceMethod ({ cls := "HybridTrackModel", name := "accounted", desc := "(I)Z" } : Jvm.MethodName) ∈ ht_tb := ht_wt 564 rfl rfl
set_option maxRecDepth 100000 in
theorem w565 : Jvm.Cond.code ({ cls := "HybridTrackModel", name := "accounted", desc := "(I)Z" } : Jvm.MethodName) prog_4_method_14_code (4 : Nat) (Option.some Jvm.ClassFile.FieldType.boolean) ∈ ht_tb := ht_wt 565 rfl rfl
set_option maxRecDepth 100000 in
theorem w566 : Jvm.Cond.methodLink "HybridTrackModel" (94 : Nat) ({ cls := "HybridTrackModel", name := "left", desc := "(I)Z" } : Jvm.MethodName) ∈ ht_tb := ht_wt 566 rfl rfl
set_option maxRecDepth 100000 in
theorem w568 : Jvm.Cond.instanceMethod ({ cls := "HybridTrackModel", name := "left", desc := "(I)Z" } : Jvm.MethodName) ∈ ht_tb := ht_wt 568 rfl rfl
set_option maxRecDepth 100000 in
theorem w569 : Jvm.Cond.code ({ cls := "HybridTrackModel", name := "left", desc := "(I)Z" } : Jvm.MethodName) prog_4_method_13_code (3 : Nat) (Option.some Jvm.ClassFile.FieldType.boolean) ∈ ht_tb := ht_wt 569 rfl rfl
set_option maxRecDepth 100000 in
theorem w570 : Jvm.Cond.methodLink "HybridTrackLaw" (73 : Nat) ({ cls := "HybridTrackModel", name := "drive", desc := "(II)I" } : Jvm.MethodName) ∈ ht_tb := ht_wt 570 rfl rfl
set_option maxRecDepth 100000 in
theorem w571 : Jvm.Cond.instanceMethod ({ cls := "HybridTrackModel", name := "drive", desc := "(II)I" } : Jvm.MethodName) ∈ ht_tb := ht_wt 571 rfl rfl
set_option maxRecDepth 100000 in
theorem w572 : Jvm.Cond.selects "HybridTrackModel" ({ cls := "HybridTrackModel", name := "drive", desc := "(II)I" } : Jvm.MethodName) ({ cls := "HybridTrackModel", name := "drive", desc := "(II)I" } : Jvm.MethodName) ∈ ht_tb := ht_wt 572 rfl rfl
set_option maxRecDepth 100000 in
theorem w573 : Jvm.Cond.code ({ cls := "HybridTrackModel", name := "drive", desc := "(II)I" } : Jvm.MethodName) prog_4_method_20_code (4 : Nat) (Option.some Jvm.ClassFile.FieldType.int) ∈ ht_tb := ht_wt 573 rfl rfl
set_option maxRecDepth 100000 in
theorem w574 : Jvm.Cond.methodLink "HybridTrackModel" (117 : Nat) ({ cls := "HybridTrackModel", name := "isTrain", desc := "(I)Z" } : Jvm.MethodName) ∈ ht_tb := ht_wt 574 rfl rfl
set_option maxRecDepth 100000 in
theorem w576 : Jvm.Cond.instanceMethod ({ cls := "HybridTrackModel", name := "isTrain", desc := "(I)Z" } : Jvm.MethodName) ∈ ht_tb := ht_wt 576 rfl rfl
set_option maxRecDepth 100000 in
theorem w577 : Jvm.Cond.code ({ cls := "HybridTrackModel", name := "isTrain", desc := "(I)Z" } : Jvm.MethodName) prog_4_method_5_code (2 : Nat) (Option.some Jvm.ClassFile.FieldType.boolean) ∈ ht_tb := ht_wt 577 rfl rfl
set_option maxRecDepth 100000 in
theorem w578 : Jvm.Cond.methodLink "HybridTrackLaw" (77 : Nat) ({ cls := "HybridTrackModel", name := "silence", desc := "(IZ)I" } : Jvm.MethodName) ∈ ht_tb := ht_wt 578 rfl rfl
set_option maxRecDepth 100000 in
theorem w579 : Jvm.Cond.instanceMethod ({ cls := "HybridTrackModel", name := "silence", desc := "(IZ)I" } : Jvm.MethodName) ∈ ht_tb := ht_wt 579 rfl rfl
set_option maxRecDepth 100000 in
theorem w580 : Jvm.Cond.selects "HybridTrackModel" ({ cls := "HybridTrackModel", name := "silence", desc := "(IZ)I" } : Jvm.MethodName) ({ cls := "HybridTrackModel", name := "silence", desc := "(IZ)I" } : Jvm.MethodName) ∈ ht_tb := ht_wt 580 rfl rfl
set_option maxRecDepth 100000 in
theorem w581 : Jvm.Cond.code ({ cls := "HybridTrackModel", name := "silence", desc := "(IZ)I" } : Jvm.MethodName) prog_4_method_21_code (4 : Nat) (Option.some Jvm.ClassFile.FieldType.int) ∈ ht_tb := ht_wt 581 rfl rfl
set_option maxRecDepth 100000 in
theorem w582 : Jvm.Cond.methodLink "HybridTrackLaw" (81 : Nat) ({ cls := "HybridTrackModel", name := "authorise", desc := "(I)I" } : Jvm.MethodName) ∈ ht_tb := ht_wt 582 rfl rfl
set_option maxRecDepth 100000 in
theorem w583 : Jvm.Cond.instanceMethod ({ cls := "HybridTrackModel", name := "authorise", desc := "(I)I" } : Jvm.MethodName) ∈ ht_tb := ht_wt 583 rfl rfl
set_option maxRecDepth 100000 in
theorem w584 : Jvm.Cond.selects "HybridTrackModel" ({ cls := "HybridTrackModel", name := "authorise", desc := "(I)I" } : Jvm.MethodName) ({ cls := "HybridTrackModel", name := "authorise", desc := "(I)I" } : Jvm.MethodName) ∈ ht_tb := ht_wt 584 rfl rfl
set_option maxRecDepth 100000 in
theorem w585 : Jvm.Cond.code ({ cls := "HybridTrackModel", name := "authorise", desc := "(I)I" } : Jvm.MethodName) prog_4_method_22_code (3 : Nat) (Option.some Jvm.ClassFile.FieldType.int) ∈ ht_tb := ht_wt 585 rfl rfl
set_option maxRecDepth 100000 in
theorem w586 : Jvm.Cond.methodLink "HybridTrackLaw" (84 : Nat) ({ cls := "HybridTrackModel", name := "relent", desc := "(I)I" } : Jvm.MethodName) ∈ ht_tb := ht_wt 586 rfl rfl
set_option maxRecDepth 100000 in
theorem w587 : Jvm.Cond.instanceMethod ({ cls := "HybridTrackModel", name := "relent", desc := "(I)I" } : Jvm.MethodName) ∈ ht_tb := ht_wt 587 rfl rfl
set_option maxRecDepth 100000 in
theorem w588 : Jvm.Cond.selects "HybridTrackModel" ({ cls := "HybridTrackModel", name := "relent", desc := "(I)I" } : Jvm.MethodName) ({ cls := "HybridTrackModel", name := "relent", desc := "(I)I" } : Jvm.MethodName) ∈ ht_tb := ht_wt 588 rfl rfl
set_option maxRecDepth 100000 in
theorem w589 : Jvm.Cond.code ({ cls := "HybridTrackModel", name := "relent", desc := "(I)I" } : Jvm.MethodName) prog_4_method_23_code (3 : Nat) (Option.some Jvm.ClassFile.FieldType.int) ∈ ht_tb := ht_wt 589 rfl rfl
set_option maxRecDepth 100000 in
theorem w590 : Jvm.Cond.methodLink "HybridTrackLaw" (87 : Nat) ({ cls := "HybridTrackModel", name := "lose", desc := "(II)I" } : Jvm.MethodName) ∈ ht_tb := ht_wt 590 rfl rfl
set_option maxRecDepth 100000 in
theorem w591 : Jvm.Cond.instanceMethod ({ cls := "HybridTrackModel", name := "lose", desc := "(II)I" } : Jvm.MethodName) ∈ ht_tb := ht_wt 591 rfl rfl
set_option maxRecDepth 100000 in
theorem w592 : Jvm.Cond.selects "HybridTrackModel" ({ cls := "HybridTrackModel", name := "lose", desc := "(II)I" } : Jvm.MethodName) ({ cls := "HybridTrackModel", name := "lose", desc := "(II)I" } : Jvm.MethodName) ∈ ht_tb := ht_wt 592 rfl rfl
set_option maxRecDepth 100000 in
theorem w593 : Jvm.Cond.code ({ cls := "HybridTrackModel", name := "lose", desc := "(II)I" } : Jvm.MethodName) prog_4_method_24_code (4 : Nat) (Option.some Jvm.ClassFile.FieldType.int) ∈ ht_tb := ht_wt 593 rfl rfl
set_option maxRecDepth 100000 in
theorem w594 : Jvm.Cond.methodLink "HybridTrackLaw" (90 : Nat) ({ cls := "HybridTrackModel", name := "confirm", desc := "(I)I" } : Jvm.MethodName) ∈ ht_tb := ht_wt 594 rfl rfl
set_option maxRecDepth 100000 in
theorem w595 : Jvm.Cond.instanceMethod ({ cls := "HybridTrackModel", name := "confirm", desc := "(I)I" } : Jvm.MethodName) ∈ ht_tb := ht_wt 595 rfl rfl
set_option maxRecDepth 100000 in
theorem w596 : Jvm.Cond.selects "HybridTrackModel" ({ cls := "HybridTrackModel", name := "confirm", desc := "(I)I" } : Jvm.MethodName) ({ cls := "HybridTrackModel", name := "confirm", desc := "(I)I" } : Jvm.MethodName) ∈ ht_tb := ht_wt 596 rfl rfl
set_option maxRecDepth 100000 in
theorem w597 : Jvm.Cond.code ({ cls := "HybridTrackModel", name := "confirm", desc := "(I)I" } : Jvm.MethodName) prog_4_method_25_code (2 : Nat) (Option.some Jvm.ClassFile.FieldType.int) ∈ ht_tb := ht_wt 597 rfl rfl
set_option maxRecDepth 100000 in
theorem w598 : Jvm.Cond.methodLink "HybridTrackLaw" (93 : Nat) ({ cls := "HybridTrackModel", name := "clear", desc := "(I)I" } : Jvm.MethodName) ∈ ht_tb := ht_wt 598 rfl rfl
set_option maxRecDepth 100000 in
theorem w599 : Jvm.Cond.instanceMethod ({ cls := "HybridTrackModel", name := "clear", desc := "(I)I" } : Jvm.MethodName) ∈ ht_tb := ht_wt 599 rfl rfl
set_option maxRecDepth 100000 in
theorem w600 : Jvm.Cond.selects "HybridTrackModel" ({ cls := "HybridTrackModel", name := "clear", desc := "(I)I" } : Jvm.MethodName) ({ cls := "HybridTrackModel", name := "clear", desc := "(I)I" } : Jvm.MethodName) ∈ ht_tb := ht_wt 600 rfl rfl
set_option maxRecDepth 100000 in
theorem w601 : Jvm.Cond.code ({ cls := "HybridTrackModel", name := "clear", desc := "(I)I" } : Jvm.MethodName) prog_4_method_26_code (2 : Nat) (Option.some Jvm.ClassFile.FieldType.int) ∈ ht_tb := ht_wt 601 rfl rfl
set_option maxRecDepth 100000 in
theorem w602 : Jvm.Cond.methodLink "HybridTrackLaw" (96 : Nat) ({ cls := "HybridTrackModel", name := "tick", desc := "(I)I" } : Jvm.MethodName) ∈ ht_tb := ht_wt 602 rfl rfl
set_option maxRecDepth 100000 in
theorem w603 : Jvm.Cond.instanceMethod ({ cls := "HybridTrackModel", name := "tick", desc := "(I)I" } : Jvm.MethodName) ∈ ht_tb := ht_wt 603 rfl rfl
set_option maxRecDepth 100000 in
theorem w604 : Jvm.Cond.selects "HybridTrackModel" ({ cls := "HybridTrackModel", name := "tick", desc := "(I)I" } : Jvm.MethodName) ({ cls := "HybridTrackModel", name := "tick", desc := "(I)I" } : Jvm.MethodName) ∈ ht_tb := ht_wt 604 rfl rfl
set_option maxRecDepth 100000 in
theorem w605 : Jvm.Cond.code ({ cls := "HybridTrackModel", name := "tick", desc := "(I)I" } : Jvm.MethodName) prog_4_method_28_code (3 : Nat) (Option.some Jvm.ClassFile.FieldType.int) ∈ ht_tb := ht_wt 605 rfl rfl
set_option maxRecDepth 100000 in
theorem w606 : Jvm.Cond.methodLink "HybridTrackModel" (123 : Nat) ({ cls := "HybridTrackModel", name := "tickOnce", desc := "()V" } : Jvm.MethodName) ∈ ht_tb := ht_wt 606 rfl rfl
set_option maxRecDepth 100000 in
theorem w608 : Jvm.Cond.instanceMethod ({ cls := "HybridTrackModel", name := "tickOnce", desc := "()V" } : Jvm.MethodName) ∈ ht_tb := ht_wt 608 rfl rfl
set_option maxRecDepth 100000 in
theorem w609 : Jvm.Cond.code ({ cls := "HybridTrackModel", name := "tickOnce", desc := "()V" } : Jvm.MethodName) prog_4_method_27_code (3 : Nat) (Option.none : Option Jvm.ClassFile.FieldType) ∈ ht_tb := ht_wt 609 rfl rfl
set_option maxRecDepth 100000 in
theorem w610 : Jvm.Cond.methodLink "HybridTrackModel" (126 : Nat) ({ cls := "HybridTrackModel", name := "countStates", desc := "(I)I" } : Jvm.MethodName) ∈ ht_tb := ht_wt 610 rfl rfl
set_option maxRecDepth 100000 in
theorem w612 : Jvm.Cond.instanceMethod ({ cls := "HybridTrackModel", name := "countStates", desc := "(I)I" } : Jvm.MethodName) ∈ ht_tb := ht_wt 612 rfl rfl
set_option maxRecDepth 100000 in
theorem w613 : Jvm.Cond.code ({ cls := "HybridTrackModel", name := "countStates", desc := "(I)I" } : Jvm.MethodName) prog_4_method_32_code (4 : Nat) (Option.some Jvm.ClassFile.FieldType.int) ∈ ht_tb := ht_wt 613 rfl rfl
set_option maxRecDepth 100000 in
theorem w614 : Jvm.Cond.methodLink "HybridTrackLaw" (99 : Nat) ({ cls := "HybridTrackModel", name := "state", desc := "(I)I" } : Jvm.MethodName) ∈ ht_tb := ht_wt 614 rfl rfl
set_option maxRecDepth 100000 in
theorem w615 : Jvm.Cond.instanceMethod ({ cls := "HybridTrackModel", name := "state", desc := "(I)I" } : Jvm.MethodName) ∈ ht_tb := ht_wt 615 rfl rfl
set_option maxRecDepth 100000 in
theorem w616 : Jvm.Cond.selects "HybridTrackModel" ({ cls := "HybridTrackModel", name := "state", desc := "(I)I" } : Jvm.MethodName) ({ cls := "HybridTrackModel", name := "state", desc := "(I)I" } : Jvm.MethodName) ∈ ht_tb := ht_wt 616 rfl rfl
set_option maxRecDepth 100000 in
theorem w617 : Jvm.Cond.code ({ cls := "HybridTrackModel", name := "state", desc := "(I)I" } : Jvm.MethodName) prog_4_method_29_code (2 : Nat) (Option.some Jvm.ClassFile.FieldType.int) ∈ ht_tb := ht_wt 617 rfl rfl
set_option maxRecDepth 100000 in
theorem w618 : Jvm.Cond.methodLink "HybridTrackLaw" (102 : Nat) ({ cls := "HybridTrackModel", name := "detected", desc := "(I)I" } : Jvm.MethodName) ∈ ht_tb := ht_wt 618 rfl rfl
set_option maxRecDepth 100000 in
theorem w619 : Jvm.Cond.instanceMethod ({ cls := "HybridTrackModel", name := "detected", desc := "(I)I" } : Jvm.MethodName) ∈ ht_tb := ht_wt 619 rfl rfl
set_option maxRecDepth 100000 in
theorem w620 : Jvm.Cond.selects "HybridTrackModel" ({ cls := "HybridTrackModel", name := "detected", desc := "(I)I" } : Jvm.MethodName) ({ cls := "HybridTrackModel", name := "detected", desc := "(I)I" } : Jvm.MethodName) ∈ ht_tb := ht_wt 620 rfl rfl
set_option maxRecDepth 100000 in
theorem w621 : Jvm.Cond.code ({ cls := "HybridTrackModel", name := "detected", desc := "(I)I" } : Jvm.MethodName) prog_4_method_30_code (2 : Nat) (Option.some Jvm.ClassFile.FieldType.int) ∈ ht_tb := ht_wt 621 rfl rfl
set_option maxRecDepth 100000 in
theorem w622 : Jvm.Cond.methodLink "HybridTrackLaw" (105 : Nat) ({ cls := "HybridTrackModel", name := "vehicle", desc := "(II)I" } : Jvm.MethodName) ∈ ht_tb := ht_wt 622 rfl rfl
set_option maxRecDepth 100000 in
theorem w623 : Jvm.Cond.instanceMethod ({ cls := "HybridTrackModel", name := "vehicle", desc := "(II)I" } : Jvm.MethodName) ∈ ht_tb := ht_wt 623 rfl rfl
set_option maxRecDepth 100000 in
theorem w624 : Jvm.Cond.selects "HybridTrackModel" ({ cls := "HybridTrackModel", name := "vehicle", desc := "(II)I" } : Jvm.MethodName) ({ cls := "HybridTrackModel", name := "vehicle", desc := "(II)I" } : Jvm.MethodName) ∈ ht_tb := ht_wt 624 rfl rfl
set_option maxRecDepth 100000 in
theorem w625 : Jvm.Cond.code ({ cls := "HybridTrackModel", name := "vehicle", desc := "(II)I" } : Jvm.MethodName) prog_4_method_31_code (3 : Nat) (Option.some Jvm.ClassFile.FieldType.int) ∈ ht_tb := ht_wt 625 rfl rfl
set_option maxRecDepth 100000 in
theorem w626 : Jvm.Cond.methodLink "HybridTrackLaw" (108 : Nat) ({ cls := "HybridTrackModel", name := "count", desc := "(I)I" } : Jvm.MethodName) ∈ ht_tb := ht_wt 626 rfl rfl
set_option maxRecDepth 100000 in
theorem w627 : Jvm.Cond.instanceMethod ({ cls := "HybridTrackModel", name := "count", desc := "(I)I" } : Jvm.MethodName) ∈ ht_tb := ht_wt 627 rfl rfl
set_option maxRecDepth 100000 in
theorem w628 : Jvm.Cond.selects "HybridTrackModel" ({ cls := "HybridTrackModel", name := "count", desc := "(I)I" } : Jvm.MethodName) ({ cls := "HybridTrackModel", name := "count", desc := "(I)I" } : Jvm.MethodName) ∈ ht_tb := ht_wt 628 rfl rfl
set_option maxRecDepth 100000 in
theorem w629 : Jvm.Cond.code ({ cls := "HybridTrackModel", name := "count", desc := "(I)I" } : Jvm.MethodName) prog_4_method_34_code (4 : Nat) (Option.some Jvm.ClassFile.FieldType.int) ∈ ht_tb := ht_wt 629 rfl rfl
set_option maxRecDepth 100000 in
theorem w630 : Jvm.Cond.methodLink "HybridTrackModel" (129 : Nat) ({ cls := "HybridTrackModel", name := "stood", desc := "(I)Z" } : Jvm.MethodName) ∈ ht_tb := ht_wt 630 rfl rfl
set_option maxRecDepth 100000 in
theorem w632 : Jvm.Cond.instanceMethod ({ cls := "HybridTrackModel", name := "stood", desc := "(I)Z" } : Jvm.MethodName) ∈ ht_tb := ht_wt 632 rfl rfl
set_option maxRecDepth 100000 in
theorem w633 : Jvm.Cond.code ({ cls := "HybridTrackModel", name := "stood", desc := "(I)Z" } : Jvm.MethodName) prog_4_method_33_code (3 : Nat) (Option.some Jvm.ClassFile.FieldType.boolean) ∈ ht_tb := ht_wt 633 rfl rfl
set_option maxRecDepth 100000 in
theorem w634 : Jvm.Cond.arrayClass Jvm.ClassFile.FieldType.long ∈ ht_tb := ht_wt 634 rfl rfl
theorem s0 : Jvm.Cond.selects "java/lang/Throwable" ⟨"java/lang/Throwable", "fillInStackTrace", "(I)Ljava/lang/Throwable;"⟩ ⟨"java/lang/Throwable", "fillInStackTrace", "(I)Ljava/lang/Throwable;"⟩ ∈ ht_tb := ht_wp 0 rfl rfl
theorem s1 : Jvm.Cond.selects "HybridTrack" ⟨"HybridTrack", "isStoodOn", "(II)Z"⟩ ⟨"HybridTrack", "isStoodOn", "(II)Z"⟩ ∈ ht_tb := ht_wp 1 rfl rfl
theorem s2 : Jvm.Cond.selects "HybridTrack$Vehicle" ⟨"HybridTrack$Vehicle", "standsWithin", "(II)Z"⟩ ⟨"HybridTrack$Vehicle", "standsWithin", "(II)Z"⟩ ∈ ht_tb := ht_wp 2 rfl rfl
theorem s3 : Jvm.Cond.selects "HybridTrack$Vehicle" ⟨"HybridTrack$Vehicle", "lastPlace", "()I"⟩ ⟨"HybridTrack$Vehicle", "lastPlace", "()I"⟩ ∈ ht_tb := ht_wp 3 rfl rfl
theorem s4 : Jvm.Cond.selects "HybridTrack" ⟨"HybridTrack", "isAnyClaimed", "(III)Z"⟩ ⟨"HybridTrack", "isAnyClaimed", "(III)Z"⟩ ∈ ht_tb := ht_wp 4 rfl rfl
theorem s5 : Jvm.Cond.selects "HybridTrack$Vehicle" ⟨"HybridTrack$Vehicle", "claimsWithin", "(II)Z"⟩ ⟨"HybridTrack$Vehicle", "claimsWithin", "(II)Z"⟩ ∈ ht_tb := ht_wp 5 rfl rfl
theorem s6 : Jvm.Cond.selects "HybridTrack$Vehicle" ⟨"HybridTrack$Vehicle", "becomeTrain", "(II)V"⟩ ⟨"HybridTrack$Vehicle", "becomeTrain", "(II)V"⟩ ∈ ht_tb := ht_wp 6 rfl rfl
theorem s7 : Jvm.Cond.selects "HybridTrack$Vehicle" ⟨"HybridTrack$Vehicle", "sendReport", "()V"⟩ ⟨"HybridTrack$Vehicle", "sendReport", "()V"⟩ ∈ ht_tb := ht_wp 7 rfl rfl
theorem s8 : Jvm.Cond.selects "HybridTrack" ⟨"HybridTrack", "findStates", "()V"⟩ ⟨"HybridTrack", "findStates", "()V"⟩ ∈ ht_tb := ht_wp 8 rfl rfl
theorem s9 : Jvm.Cond.selects "HybridTrack" ⟨"HybridTrack", "locateTrains", "()V"⟩ ⟨"HybridTrack", "locateTrains", "()V"⟩ ∈ ht_tb := ht_wp 9 rfl rfl
theorem s10 : Jvm.Cond.selects "HybridTrack$Vehicle" ⟨"HybridTrack$Vehicle", "isLocatedOn", "(I)Z"⟩ ⟨"HybridTrack$Vehicle", "isLocatedOn", "(I)Z"⟩ ∈ ht_tb := ht_wp 10 rfl rfl
theorem s11 : Jvm.Cond.selects "HybridTrack$Vehicle" ⟨"HybridTrack$Vehicle", "isMute", "()Z"⟩ ⟨"HybridTrack$Vehicle", "isMute", "()Z"⟩ ∈ ht_tb := ht_wp 11 rfl rfl
theorem s12 : Jvm.Cond.selects "HybridTrack" ⟨"HybridTrack", "stateByReports", "(I)I"⟩ ⟨"HybridTrack", "stateByReports", "(I)I"⟩ ∈ ht_tb := ht_wp 12 rfl rfl
theorem s13 : Jvm.Cond.selects "HybridTrack" ⟨"HybridTrack", "isDetectedOccupied", "(I)Z"⟩ ⟨"HybridTrack", "isDetectedOccupied", "(I)Z"⟩ ∈ ht_tb := ht_wp 13 rfl rfl
theorem s14 : Jvm.Cond.selects "HybridTrack" ⟨"HybridTrack", "stateUnderTrains", "(I)I"⟩ ⟨"HybridTrack", "stateUnderTrains", "(I)I"⟩ ∈ ht_tb := ht_wp 14 rfl rfl
theorem s15 : Jvm.Cond.selects "HybridTrack" ⟨"HybridTrack", "staysFree", "(I)Z"⟩ ⟨"HybridTrack", "staysFree", "(I)Z"⟩ ∈ ht_tb := ht_wp 15 rfl rfl
theorem s16 : Jvm.Cond.selects "HybridTrack" ⟨"HybridTrack", "isAnyTrainLocated", "(II)Z"⟩ ⟨"HybridTrack", "isAnyTrainLocated", "(II)Z"⟩ ∈ ht_tb := ht_wp 16 rfl rfl
theorem s17 : Jvm.Cond.selects "HybridTrack" ⟨"HybridTrack", "isAnyClaimedByMute", "(II)Z"⟩ ⟨"HybridTrack", "isAnyClaimedByMute", "(II)Z"⟩ ∈ ht_tb := ht_wp 17 rfl rfl
theorem s18 : Jvm.Cond.selects "HybridTrack" ⟨"HybridTrack", "wasLeftByBrokenTrain", "(I)Z"⟩ ⟨"HybridTrack", "wasLeftByBrokenTrain", "(I)Z"⟩ ∈ ht_tb := ht_wp 18 rfl rfl
theorem s19 : Jvm.Cond.selects "HybridTrack$Vehicle" ⟨"HybridTrack$Vehicle", "hasLeft", "(I)Z"⟩ ⟨"HybridTrack$Vehicle", "hasLeft", "(I)Z"⟩ ∈ ht_tb := ht_wp 19 rfl rfl
theorem s20 : Jvm.Cond.selects "HybridTrack" ⟨"HybridTrack", "wasLeftByWholeTrain", "(I)Z"⟩ ⟨"HybridTrack", "wasLeftByWholeTrain", "(I)Z"⟩ ∈ ht_tb := ht_wp 20 rfl rfl
theorem s21 : Jvm.Cond.selects "HybridTrack" ⟨"HybridTrack", "existingTrain", "(I)LHybridTrack$Vehicle;"⟩ ⟨"HybridTrack", "existingTrain", "(I)LHybridTrack$Vehicle;"⟩ ∈ ht_tb := ht_wp 21 rfl rfl
theorem s22 : Jvm.Cond.selects "HybridTrack" ⟨"HybridTrack", "isOnTrack", "(I)Z"⟩ ⟨"HybridTrack", "isOnTrack", "(I)Z"⟩ ∈ ht_tb := ht_wp 22 rfl rfl
theorem s23 : Jvm.Cond.selects "HybridTrack" ⟨"HybridTrack", "farthestFreeFrom", "(II)I"⟩ ⟨"HybridTrack", "farthestFreeFrom", "(II)I"⟩ ∈ ht_tb := ht_wp 23 rfl rfl
theorem s24 : Jvm.Cond.selects "HybridTrack$Vehicle" ⟨"HybridTrack$Vehicle", "becomeWagon", "(II)V"⟩ ⟨"HybridTrack$Vehicle", "becomeWagon", "(II)V"⟩ ∈ ht_tb := ht_wp 24 rfl rfl
theorem s25 : Jvm.Cond.selects "HybridTrack" ⟨"HybridTrack", "makeTick", "()V"⟩ ⟨"HybridTrack", "makeTick", "()V"⟩ ∈ ht_tb := ht_wp 25 rfl rfl
theorem s26 : Jvm.Cond.selects "HybridTrack" ⟨"HybridTrack", "goForward", "(LHybridTrack$Vehicle;)V"⟩ ⟨"HybridTrack", "goForward", "(LHybridTrack$Vehicle;)V"⟩ ∈ ht_tb := ht_wp 26 rfl rfl
theorem s27 : Jvm.Cond.selects "HybridTrack$Vehicle" ⟨"HybridTrack$Vehicle", "reportOrAge", "()V"⟩ ⟨"HybridTrack$Vehicle", "reportOrAge", "()V"⟩ ∈ ht_tb := ht_wp 27 rfl rfl
theorem s28 : Jvm.Cond.selects "HybridTrack" ⟨"HybridTrack", "sectionsInState", "(I)I"⟩ ⟨"HybridTrack", "sectionsInState", "(I)I"⟩ ∈ ht_tb := ht_wp 28 rfl rfl
theorem s29 : Jvm.Cond.selects "HybridTrack" ⟨"HybridTrack", "trainsThatCame", "()I"⟩ ⟨"HybridTrack", "trainsThatCame", "()I"⟩ ∈ ht_tb := ht_wp 29 rfl rfl
theorem s30 : Jvm.Cond.selects "HybridTrack" ⟨"HybridTrack", "sectionsWronglyFree", "()I"⟩ ⟨"HybridTrack", "sectionsWronglyFree", "()I"⟩ ∈ ht_tb := ht_wp 30 rfl rfl
theorem s31 : Jvm.Cond.selects "HybridTrack" ⟨"HybridTrack", "isSectionStoodOn", "(I)Z"⟩ ⟨"HybridTrack", "isSectionStoodOn", "(I)Z"⟩ ∈ ht_tb := ht_wp 31 rfl rfl
theorem s32 : Jvm.Cond.selects "HybridTrackModel" ⟨"HybridTrackModel", "raise", "(I)I"⟩ ⟨"HybridTrackModel", "raise", "(I)I"⟩ ∈ ht_tb := ht_wp 32 rfl rfl
theorem s33 : Jvm.Cond.selects "HybridTrackModel" ⟨"HybridTrackModel", "standsOn", "(II)I"⟩ ⟨"HybridTrackModel", "standsOn", "(II)I"⟩ ∈ ht_tb := ht_wp 33 rfl rfl
theorem s34 : Jvm.Cond.selects "HybridTrackModel" ⟨"HybridTrackModel", "last", "(I)I"⟩ ⟨"HybridTrackModel", "last", "(I)I"⟩ ∈ ht_tb := ht_wp 34 rfl rfl
theorem s35 : Jvm.Cond.selects "HybridTrackModel" ⟨"HybridTrackModel", "claimed", "(II)Z"⟩ ⟨"HybridTrackModel", "claimed", "(II)Z"⟩ ∈ ht_tb := ht_wp 35 rfl rfl
theorem s36 : Jvm.Cond.selects "HybridTrackModel" ⟨"HybridTrackModel", "claims", "(II)Z"⟩ ⟨"HybridTrackModel", "claims", "(II)Z"⟩ ∈ ht_tb := ht_wp 36 rfl rfl
theorem s37 : Jvm.Cond.selects "HybridTrackModel" ⟨"HybridTrackModel", "report", "(I)V"⟩ ⟨"HybridTrackModel", "report", "(I)V"⟩ ∈ ht_tb := ht_wp 37 rfl rfl
theorem s38 : Jvm.Cond.selects "HybridTrackModel" ⟨"HybridTrackModel", "findStates", "()V"⟩ ⟨"HybridTrackModel", "findStates", "()V"⟩ ∈ ht_tb := ht_wp 38 rfl rfl
theorem s39 : Jvm.Cond.selects "HybridTrackModel" ⟨"HybridTrackModel", "found", "(I)I"⟩ ⟨"HybridTrackModel", "found", "(I)I"⟩ ∈ ht_tb := ht_wp 39 rfl rfl
theorem s40 : Jvm.Cond.selects "HybridTrackModel" ⟨"HybridTrackModel", "occupied", "(I)Z"⟩ ⟨"HybridTrackModel", "occupied", "(I)Z"⟩ ∈ ht_tb := ht_wp 40 rfl rfl
theorem s41 : Jvm.Cond.selects "HybridTrackModel" ⟨"HybridTrackModel", "many", "(I)I"⟩ ⟨"HybridTrackModel", "many", "(I)I"⟩ ∈ ht_tb := ht_wp 41 rfl rfl
theorem s42 : Jvm.Cond.selects "HybridTrackModel" ⟨"HybridTrackModel", "located", "(II)Z"⟩ ⟨"HybridTrackModel", "located", "(II)Z"⟩ ∈ ht_tb := ht_wp 42 rfl rfl
theorem s43 : Jvm.Cond.selects "HybridTrackModel" ⟨"HybridTrackModel", "mute", "(I)Z"⟩ ⟨"HybridTrackModel", "mute", "(I)Z"⟩ ∈ ht_tb := ht_wp 43 rfl rfl
theorem s44 : Jvm.Cond.selects "HybridTrackModel" ⟨"HybridTrackModel", "accounted", "(I)Z"⟩ ⟨"HybridTrackModel", "accounted", "(I)Z"⟩ ∈ ht_tb := ht_wp 44 rfl rfl
theorem s45 : Jvm.Cond.selects "HybridTrackModel" ⟨"HybridTrackModel", "left", "(I)Z"⟩ ⟨"HybridTrackModel", "left", "(I)Z"⟩ ∈ ht_tb := ht_wp 45 rfl rfl
theorem s46 : Jvm.Cond.selects "HybridTrackModel" ⟨"HybridTrackModel", "isTrain", "(I)Z"⟩ ⟨"HybridTrackModel", "isTrain", "(I)Z"⟩ ∈ ht_tb := ht_wp 46 rfl rfl
theorem s47 : Jvm.Cond.selects "HybridTrackModel" ⟨"HybridTrackModel", "tickOnce", "()V"⟩ ⟨"HybridTrackModel", "tickOnce", "()V"⟩ ∈ ht_tb := ht_wp 47 rfl rfl
theorem s48 : Jvm.Cond.selects "HybridTrackModel" ⟨"HybridTrackModel", "countStates", "(I)I"⟩ ⟨"HybridTrackModel", "countStates", "(I)I"⟩ ∈ ht_tb := ht_wp 48 rfl rfl
theorem s49 : Jvm.Cond.selects "HybridTrackModel" ⟨"HybridTrackModel", "stood", "(I)Z"⟩ ⟨"HybridTrackModel", "stood", "(I)Z"⟩ ∈ ht_tb := ht_wp 49 rfl rfl
