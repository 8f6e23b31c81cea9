/-! the words: those of the tables that stay true; each by its place -/
def zG : List Cond := lw_tbl.filter goodWord
theorem zG_good : ∀ w ∈ zG, goodWord w = true := fun w h => (List.mem_filter.mp h).2
theorem zG_of {w : Cond} (i : Nat) (h : lw_tbl[i]? = some w) (hg : goodWord w = true) : w ∈ zG := List.mem_filter.mpr ⟨List.mem_of_getElem? h, hg⟩
theorem k_0 : (Cond.selects "TabledExecutive$TaskList" (⟨"TabledExecutive$TaskList", "isCommonMultiple", "(I)Z"⟩ : MethodName) (⟨"TabledExecutive$TaskList", "isCommonMultiple", "(I)Z"⟩ : MethodName)) ∈ zG := zG_of 0 (by decide +kernel) (by decide +kernel)
theorem k_1 : (Cond.selects "TabledExecutive" (⟨"TabledExecutive", "needEdit", "()V"⟩ : MethodName) (⟨"TabledExecutive", "needEdit", "()V"⟩ : MethodName)) ∈ zG := zG_of 1 (by decide +kernel) (by decide +kernel)
theorem k_3 : (Cond.selects "TabledExecutive$Planner" (⟨"TabledExecutive$Planner", "release", "(LTabledExecutive$TaskList;I)V"⟩ : MethodName) (⟨"TabledExecutive$Planner", "release", "(LTabledExecutive$TaskList;I)V"⟩ : MethodName)) ∈ zG := zG_of 3 (by decide +kernel) (by decide +kernel)
theorem k_4 : (Cond.selects "TabledExecutive$Planner" (⟨"TabledExecutive$Planner", "mostUrgent", "(I)I"⟩ : MethodName) (⟨"TabledExecutive$Planner", "mostUrgent", "(I)I"⟩ : MethodName)) ∈ zG := zG_of 4 (by decide +kernel) (by decide +kernel)
theorem k_5 : (Cond.selects "TabledExecutive$Planner" (⟨"TabledExecutive$Planner", "missesWindow", "(II)Z"⟩ : MethodName) (⟨"TabledExecutive$Planner", "missesWindow", "(II)Z"⟩ : MethodName)) ∈ zG := zG_of 5 (by decide +kernel) (by decide +kernel)
theorem k_6 : (Cond.selects "TabledExecutive" (⟨"TabledExecutive", "startRun", "(I)V"⟩ : MethodName) (⟨"TabledExecutive", "startRun", "(I)V"⟩ : MethodName)) ∈ zG := zG_of 6 (by decide +kernel) (by decide +kernel)
theorem k_7 : (Cond.selects "TabledExecutive" (⟨"TabledExecutive", "needRun", "()V"⟩ : MethodName) (⟨"TabledExecutive", "needRun", "()V"⟩ : MethodName)) ∈ zG := zG_of 7 (by decide +kernel) (by decide +kernel)
theorem k_8 : (Cond.selects "TabledExecutive" (⟨"TabledExecutive", "runTick", "()I"⟩ : MethodName) (⟨"TabledExecutive", "runTick", "()I"⟩ : MethodName)) ∈ zG := zG_of 8 (by decide +kernel) (by decide +kernel)
theorem k_9 : (Cond.selects "TabledExecutive" (⟨"TabledExecutive", "serve", "(LTabledExecutive$Task;)I"⟩ : MethodName) (⟨"TabledExecutive", "serve", "(LTabledExecutive$Task;)I"⟩ : MethodName)) ∈ zG := zG_of 9 (by decide +kernel) (by decide +kernel)
theorem k_10 : (Cond.selects "TabledExecutiveModel" (⟨"TabledExecutiveModel", "refused", "(I)Z"⟩ : MethodName) (⟨"TabledExecutiveModel", "refused", "(I)Z"⟩ : MethodName)) ∈ zG := zG_of 10 (by decide +kernel) (by decide +kernel)
theorem k_11 : (Cond.selects "TabledExecutiveModel" (⟨"TabledExecutiveModel", "whole", "()I"⟩ : MethodName) (⟨"TabledExecutiveModel", "whole", "()I"⟩ : MethodName)) ∈ zG := zG_of 11 (by decide +kernel) (by decide +kernel)
theorem k_12 : (Cond.selects "TabledExecutiveModel" (⟨"TabledExecutiveModel", "greatestOffset", "()I"⟩ : MethodName) (⟨"TabledExecutiveModel", "greatestOffset", "()I"⟩ : MethodName)) ∈ zG := zG_of 12 (by decide +kernel) (by decide +kernel)
theorem k_13 : (Cond.selects "TabledExecutiveModel" (⟨"TabledExecutiveModel", "imagine", "(II)Z"⟩ : MethodName) (⟨"TabledExecutiveModel", "imagine", "(II)Z"⟩ : MethodName)) ∈ zG := zG_of 13 (by decide +kernel) (by decide +kernel)
theorem k_14 : (Cond.selects "TabledExecutiveModel" (⟨"TabledExecutiveModel", "isReleased", "(II)Z"⟩ : MethodName) (⟨"TabledExecutiveModel", "isReleased", "(II)Z"⟩ : MethodName)) ∈ zG := zG_of 14 (by decide +kernel) (by decide +kernel)
theorem k_15 : (Cond.selects "TabledExecutiveModel" (⟨"TabledExecutiveModel", "chosen", "()I"⟩ : MethodName) (⟨"TabledExecutiveModel", "chosen", "()I"⟩ : MethodName)) ∈ zG := zG_of 15 (by decide +kernel) (by decide +kernel)
theorem k_16 : (Cond.selects "TabledExecutiveModel" (⟨"TabledExecutiveModel", "isGood", "()Z"⟩ : MethodName) (⟨"TabledExecutiveModel", "isGood", "()Z"⟩ : MethodName)) ∈ zG := zG_of 16 (by decide +kernel) (by decide +kernel)
theorem k_17 : (Cond.selects "TabledExecutiveModel" (⟨"TabledExecutiveModel", "covering", "(I)I"⟩ : MethodName) (⟨"TabledExecutiveModel", "covering", "(I)I"⟩ : MethodName)) ∈ zG := zG_of 17 (by decide +kernel) (by decide +kernel)
theorem k_18 : (Cond.selects "TabledExecutiveModel" (⟨"TabledExecutiveModel", "isServed", "(II)Z"⟩ : MethodName) (⟨"TabledExecutiveModel", "isServed", "(II)Z"⟩ : MethodName)) ∈ zG := zG_of 18 (by decide +kernel) (by decide +kernel)
theorem k_19 : (Cond.selects "TabledExecutiveModel" (⟨"TabledExecutiveModel", "at", "(I)I"⟩ : MethodName) (⟨"TabledExecutiveModel", "at", "(I)I"⟩ : MethodName)) ∈ zG := zG_of 19 (by decide +kernel) (by decide +kernel)
theorem k_20 : (Cond.selects "TabledExecutiveModel" (⟨"TabledExecutiveModel", "one", "()I"⟩ : MethodName) (⟨"TabledExecutiveModel", "one", "()I"⟩ : MethodName)) ∈ zG := zG_of 20 (by decide +kernel) (by decide +kernel)
theorem k_21 : (Cond.selects "TabledExecutiveModel" (⟨"TabledExecutiveModel", "release", "(I)V"⟩ : MethodName) (⟨"TabledExecutiveModel", "release", "(I)V"⟩ : MethodName)) ∈ zG := zG_of 21 (by decide +kernel) (by decide +kernel)
theorem k_22 : (Cond.selects "TabledExecutiveModel" (⟨"TabledExecutiveModel", "instruct", "(I)I"⟩ : MethodName) (⟨"TabledExecutiveModel", "instruct", "(I)I"⟩ : MethodName)) ∈ zG := zG_of 22 (by decide +kernel) (by decide +kernel)
theorem k_23 : (Jvm.Cond.initialized "TabledExecutiveLaw") ∈ zG := zG_of 23 (by decide +kernel) (by decide +kernel)
theorem k_24 : (Jvm.Cond.initialized "TabledExecutive") ∈ zG := zG_of 24 (by decide +kernel) (by decide +kernel)
theorem k_25 : (Jvm.Cond.initialized "TabledExecutive$TaskList") ∈ zG := zG_of 25 (by decide +kernel) (by decide +kernel)
theorem k_26 : (Jvm.Cond.initialized "TabledExecutive$Task") ∈ zG := zG_of 26 (by decide +kernel) (by decide +kernel)
theorem k_27 : (Jvm.Cond.initialized "TabledExecutive$Job") ∈ zG := zG_of 27 (by decide +kernel) (by decide +kernel)
theorem k_28 : (Jvm.Cond.initialized "TabledExecutive$Table") ∈ zG := zG_of 28 (by decide +kernel) (by decide +kernel)
theorem k_29 : (Jvm.Cond.initialized "TabledExecutive$Planner") ∈ zG := zG_of 29 (by decide +kernel) (by decide +kernel)
theorem k_30 : (Jvm.Cond.initialized "TabledExecutive$Machine") ∈ zG := zG_of 30 (by decide +kernel) (by decide +kernel)
theorem k_31 : (Jvm.Cond.initialized "TabledExecutiveModel") ∈ zG := zG_of 31 (by decide +kernel) (by decide +kernel)
theorem k_33 : (Jvm.Cond.initialized "java/lang/Exception") ∈ zG := zG_of 33 (by decide +kernel) (by decide +kernel)
theorem k_34 : (Jvm.Cond.initialized "java/lang/RuntimeException") ∈ zG := zG_of 34 (by decide +kernel) (by decide +kernel)
theorem k_35 : (Jvm.Cond.initialized "java/lang/IllegalStateException") ∈ zG := zG_of 35 (by decide +kernel) (by decide +kernel)
theorem k_36 : (Jvm.Cond.initialized "java/lang/IndexOutOfBoundsException") ∈ zG := zG_of 36 (by decide +kernel) (by decide +kernel)
theorem k_37 : (Jvm.Cond.initialized "java/lang/IllegalArgumentException") ∈ zG := zG_of 37 (by decide +kernel) (by decide +kernel)
theorem k_38 : (Jvm.Cond.initialized "java/util/Arrays") ∈ zG := zG_of 38 (by decide +kernel) (by decide +kernel)
theorem k_39 : (Jvm.Cond.initialized "java/lang/Math") ∈ zG := zG_of 39 (by decide +kernel) (by decide +kernel)
theorem k_40 : (Jvm.Cond.classLink "TabledExecutiveLaw" (8 : Nat) "TabledExecutive") ∈ zG := zG_of 40 (by decide +kernel) (by decide +kernel)
theorem k_41 : (Jvm.Cond.instantiable "TabledExecutive" (8 : Nat)) ∈ zG := zG_of 41 (by decide +kernel) (by decide +kernel)
theorem k_42 : (Jvm.Cond.methodLink "TabledExecutiveLaw" (64 : Nat) ({ cls := "TabledExecutive", name := "<init>", desc := "()V" } : Jvm.MethodName)) ∈ zG := zG_of 42 (by decide +kernel) (by decide +kernel)
theorem k_43 : (Jvm.Cond.instanceMethod ({ cls := "TabledExecutive", name := "<init>", desc := "()V" } : Jvm.MethodName)) ∈ zG := zG_of 43 (by decide +kernel) (by decide +kernel)
set_option maxRecDepth 20000 in
theorem k_44 : (Jvm.Cond.code ({ cls := "TabledExecutive", name := "<init>", desc := "()V" } : Jvm.MethodName) prog_1_method_1_code (1 : Nat) (Option.none : Option Jvm.ClassFile.FieldType)) ∈ zG := zG_of 44 rfl rfl
theorem k_45 : (Jvm.Cond.methodLink "TabledExecutive" (1 : Nat) ({ cls := "java/lang/Object", name := "<init>", desc := "()V" } : Jvm.MethodName)) ∈ zG := zG_of 45 (by decide +kernel) (by decide +kernel)
theorem k_46 : (Jvm.Cond.instanceMethod ({ cls := "java/lang/Object", name := "<init>", desc := "()V" } : Jvm.MethodName)) ∈ zG := zG_of 46 (by decide +kernel) (by decide +kernel)
set_option maxRecDepth 20000 in
theorem k_47 : (Jvm.Cond.code ({ cls := "java/lang/Object", name := "<init>", desc := "()V" } : Jvm.MethodName) object_method_1_code (1 : Nat) (Option.none : Option Jvm.ClassFile.FieldType)) ∈ zG := zG_of 47 rfl rfl
theorem k_48 : (Jvm.Cond.classLink "TabledExecutive" (7 : Nat) "TabledExecutive$TaskList") ∈ zG := zG_of 48 (by decide +kernel) (by decide +kernel)
theorem k_49 : (Jvm.Cond.instantiable "TabledExecutive$TaskList" (2 : Nat)) ∈ zG := zG_of 49 (by decide +kernel) (by decide +kernel)
theorem k_50 : (Jvm.Cond.methodLink "TabledExecutive" (9 : Nat) ({ cls := "TabledExecutive$TaskList", name := "<init>", desc := "()V" } : Jvm.MethodName)) ∈ zG := zG_of 50 (by decide +kernel) (by decide +kernel)
theorem k_51 : (Jvm.Cond.instanceMethod ({ cls := "TabledExecutive$TaskList", name := "<init>", desc := "()V" } : Jvm.MethodName)) ∈ zG := zG_of 51 (by decide +kernel) (by decide +kernel)
set_option maxRecDepth 20000 in
theorem k_52 : (Jvm.Cond.code ({ cls := "TabledExecutive$TaskList", name := "<init>", desc := "()V" } : Jvm.MethodName) prog_7_method_1_code (2 : Nat) (Option.none : Option Jvm.ClassFile.FieldType)) ∈ zG := zG_of 52 rfl rfl
theorem k_53 : (Jvm.Cond.methodLink "TabledExecutive$TaskList" (3 : Nat) ({ cls := "java/lang/Object", name := "<init>", desc := "()V" } : Jvm.MethodName)) ∈ zG := zG_of 53 (by decide +kernel) (by decide +kernel)
theorem k_54 : (Jvm.Cond.classLink "TabledExecutive$TaskList" (9 : Nat) "TabledExecutive$Task") ∈ zG := zG_of 54 (by decide +kernel) (by decide +kernel)
theorem k_56 : (Jvm.Cond.instantiable "TabledExecutive$Task" (7 : Nat)) ∈ zG := zG_of 56 (by decide +kernel) (by decide +kernel)
theorem k_58 : (Jvm.Cond.instanceMethod ({ cls := "TabledExecutive$Task", name := "<init>", desc := "()V" } : Jvm.MethodName)) ∈ zG := zG_of 58 (by decide +kernel) (by decide +kernel)
set_option maxRecDepth 20000 in
theorem k_59 : (Jvm.Cond.code ({ cls := "TabledExecutive$Task", name := "<init>", desc := "()V" } : Jvm.MethodName) prog_6_method_1_code (1 : Nat) (Option.none : Option Jvm.ClassFile.FieldType)) ∈ zG := zG_of 59 rfl rfl
theorem k_60 : (Jvm.Cond.methodLink "TabledExecutive$Task" (3 : Nat) ({ cls := "java/lang/Object", name := "<init>", desc := "()V" } : Jvm.MethodName)) ∈ zG := zG_of 60 (by decide +kernel) (by decide +kernel)
theorem k_61 : (Jvm.Cond.classLink "TabledExecutive$Task" (15 : Nat) "TabledExecutive$Job") ∈ zG := zG_of 61 (by decide +kernel) (by decide +kernel)
theorem k_62 : (Jvm.Cond.instantiable "TabledExecutive$Job" (5 : Nat)) ∈ zG := zG_of 62 (by decide +kernel) (by decide +kernel)
theorem k_64 : (Jvm.Cond.instanceMethod ({ cls := "TabledExecutive$Job", name := "<init>", desc := "()V" } : Jvm.MethodName)) ∈ zG := zG_of 64 (by decide +kernel) (by decide +kernel)
set_option maxRecDepth 20000 in
theorem k_65 : (Jvm.Cond.code ({ cls := "TabledExecutive$Job", name := "<init>", desc := "()V" } : Jvm.MethodName) prog_2_method_1_code (1 : Nat) (Option.none : Option Jvm.ClassFile.FieldType)) ∈ zG := zG_of 65 rfl rfl
theorem k_66 : (Jvm.Cond.methodLink "TabledExecutive$Job" (3 : Nat) ({ cls := "java/lang/Object", name := "<init>", desc := "()V" } : Jvm.MethodName)) ∈ zG := zG_of 66 (by decide +kernel) (by decide +kernel)
theorem k_67 : (Jvm.Cond.fieldLink "TabledExecutive$Job" (9 : Nat) "TabledExecutive$Job" "registers" "[I") ∈ zG := zG_of 67 (by decide +kernel) (by decide +kernel)
theorem k_68 : (Jvm.Cond.fieldLink "TabledExecutive$Machine" (28 : Nat) "TabledExecutive$Job" "registers" "[I") ∈ zG := zG_of 68 (by decide +kernel) (by decide +kernel)
theorem k_69 : (Jvm.Cond.fieldLink "TabledExecutive$Machine" (18 : Nat) "TabledExecutive$Job" "place" "I") ∈ zG := zG_of 69 (by decide +kernel) (by decide +kernel)
theorem k_70 : (Jvm.Cond.fieldLink "TabledExecutive$Job" (21 : Nat) "TabledExecutive$Job" "place" "I") ∈ zG := zG_of 70 (by decide +kernel) (by decide +kernel)
theorem k_71 : (Jvm.Cond.fieldLink "TabledExecutive$Job" (25 : Nat) "TabledExecutive$Job" "had" "I") ∈ zG := zG_of 71 (by decide +kernel) (by decide +kernel)
theorem k_72 : (Jvm.Cond.fieldLink "TabledExecutive" (189 : Nat) "TabledExecutive$Job" "had" "I") ∈ zG := zG_of 72 (by decide +kernel) (by decide +kernel)
theorem k_73 : (Jvm.Cond.fieldLink "TabledExecutive$Job" (28 : Nat) "TabledExecutive$Job" "released" "I") ∈ zG := zG_of 73 (by decide +kernel) (by decide +kernel)
theorem k_74 : (Jvm.Cond.fieldLink "TabledExecutive$Task" (39 : Nat) "TabledExecutive$Job" "released" "I") ∈ zG := zG_of 74 (by decide +kernel) (by decide +kernel)
theorem k_75 : (Jvm.Cond.fieldLink "TabledExecutive$Job" (31 : Nat) "TabledExecutive$Job" "open" "Z") ∈ zG := zG_of 75 (by decide +kernel) (by decide +kernel)
theorem k_76 : (Jvm.Cond.fieldLink "TabledExecutive$Task" (29 : Nat) "TabledExecutive$Job" "open" "Z") ∈ zG := zG_of 76 (by decide +kernel) (by decide +kernel)
theorem k_77 : (Jvm.Cond.fieldLink "TabledExecutive" (176 : Nat) "TabledExecutive$Job" "open" "Z") ∈ zG := zG_of 77 (by decide +kernel) (by decide +kernel)
theorem k_78 : (Jvm.Cond.laysFinal "TabledExecutive$Job" "TabledExecutive$Job" "registers" "[I") ∈ zG := zG_of 78 (by decide +kernel) (by decide +kernel)
theorem k_80 : (Jvm.Cond.lays "TabledExecutive$Job" "TabledExecutive$Job" "place" "I") ∈ zG := zG_of 80 (by decide +kernel) (by decide +kernel)
theorem k_82 : (Jvm.Cond.lays "TabledExecutive$Job" "TabledExecutive$Job" "had" "I") ∈ zG := zG_of 82 (by decide +kernel) (by decide +kernel)
theorem k_84 : (Jvm.Cond.lays "TabledExecutive$Job" "TabledExecutive$Job" "released" "I") ∈ zG := zG_of 84 (by decide +kernel) (by decide +kernel)
theorem k_86 : (Jvm.Cond.lays "TabledExecutive$Job" "TabledExecutive$Job" "open" "Z") ∈ zG := zG_of 86 (by decide +kernel) (by decide +kernel)
theorem k_89 : (Jvm.Cond.arrayClass Jvm.ClassFile.FieldType.int) ∈ zG := zG_of 89 (by decide +kernel) (by decide +kernel)
theorem k_90 : (Jvm.Cond.fieldLink "TabledExecutive$Task" (9 : Nat) "TabledExecutive$Task" "period" "I") ∈ zG := zG_of 90 (by decide +kernel) (by decide +kernel)
theorem k_91 : (Jvm.Cond.fieldLink "TabledExecutive$TaskList" (22 : Nat) "TabledExecutive$Task" "period" "I") ∈ zG := zG_of 91 (by decide +kernel) (by decide +kernel)
theorem k_92 : (Jvm.Cond.fieldLink "TabledExecutive$TaskList" (25 : Nat) "TabledExecutive$Task" "work" "I") ∈ zG := zG_of 92 (by decide +kernel) (by decide +kernel)
theorem k_93 : (Jvm.Cond.fieldLink "TabledExecutive$Planner" (59 : Nat) "TabledExecutive$Task" "work" "I") ∈ zG := zG_of 93 (by decide +kernel) (by decide +kernel)
theorem k_94 : (Jvm.Cond.fieldLink "TabledExecutive$Task" (55 : Nat) "TabledExecutive$Task" "work" "I") ∈ zG := zG_of 94 (by decide +kernel) (by decide +kernel)
theorem k_95 : (Jvm.Cond.fieldLink "TabledExecutive" (192 : Nat) "TabledExecutive$Task" "work" "I") ∈ zG := zG_of 95 (by decide +kernel) (by decide +kernel)
theorem k_96 : (Jvm.Cond.fieldLink "TabledExecutive$TaskList" (28 : Nat) "TabledExecutive$Task" "deadline" "I") ∈ zG := zG_of 96 (by decide +kernel) (by decide +kernel)
theorem k_97 : (Jvm.Cond.fieldLink "TabledExecutive$Planner" (62 : Nat) "TabledExecutive$Task" "deadline" "I") ∈ zG := zG_of 97 (by decide +kernel) (by decide +kernel)
theorem k_98 : (Jvm.Cond.fieldLink "TabledExecutive$Task" (48 : Nat) "TabledExecutive$Task" "deadline" "I") ∈ zG := zG_of 98 (by decide +kernel) (by decide +kernel)
theorem k_99 : (Jvm.Cond.fieldLink "TabledExecutive$Task" (26 : Nat) "TabledExecutive$Task" "offset" "I") ∈ zG := zG_of 99 (by decide +kernel) (by decide +kernel)
theorem k_100 : (Jvm.Cond.fieldLink "TabledExecutive$TaskList" (31 : Nat) "TabledExecutive$Task" "offset" "I") ∈ zG := zG_of 100 (by decide +kernel) (by decide +kernel)
theorem k_101 : (Jvm.Cond.fieldLink "TabledExecutive$TaskList" (34 : Nat) "TabledExecutive$Task" "firstPlace" "I") ∈ zG := zG_of 101 (by decide +kernel) (by decide +kernel)
theorem k_102 : (Jvm.Cond.fieldLink "TabledExecutive" (89 : Nat) "TabledExecutive$Task" "firstPlace" "I") ∈ zG := zG_of 102 (by decide +kernel) (by decide +kernel)
theorem k_103 : (Jvm.Cond.fieldLink "TabledExecutive$Task" (18 : Nat) "TabledExecutive$Task" "job" "LTabledExecutive$Job;") ∈ zG := zG_of 103 (by decide +kernel) (by decide +kernel)
theorem k_104 : (Jvm.Cond.fieldLink "TabledExecutive$TaskList" (57 : Nat) "TabledExecutive$Task" "job" "LTabledExecutive$Job;") ∈ zG := zG_of 104 (by decide +kernel) (by decide +kernel)
theorem k_105 : (Jvm.Cond.fieldLink "TabledExecutive" (172 : Nat) "TabledExecutive$Task" "job" "LTabledExecutive$Job;") ∈ zG := zG_of 105 (by decide +kernel) (by decide +kernel)
theorem k_106 : (Jvm.Cond.fieldLink "TabledExecutive$Task" (22 : Nat) "TabledExecutive$Task" "counts" "[I") ∈ zG := zG_of 106 (by decide +kernel) (by decide +kernel)
theorem k_107 : (Jvm.Cond.fieldLink "TabledExecutive" (142 : Nat) "TabledExecutive$Task" "counts" "[I") ∈ zG := zG_of 107 (by decide +kernel) (by decide +kernel)
theorem k_108 : (Jvm.Cond.lays "TabledExecutive$Task" "TabledExecutive$Task" "period" "I") ∈ zG := zG_of 108 (by decide +kernel) (by decide +kernel)
theorem k_110 : (Jvm.Cond.lays "TabledExecutive$Task" "TabledExecutive$Task" "work" "I") ∈ zG := zG_of 110 (by decide +kernel) (by decide +kernel)
theorem k_112 : (Jvm.Cond.lays "TabledExecutive$Task" "TabledExecutive$Task" "deadline" "I") ∈ zG := zG_of 112 (by decide +kernel) (by decide +kernel)
theorem k_114 : (Jvm.Cond.lays "TabledExecutive$Task" "TabledExecutive$Task" "offset" "I") ∈ zG := zG_of 114 (by decide +kernel) (by decide +kernel)
theorem k_116 : (Jvm.Cond.lays "TabledExecutive$Task" "TabledExecutive$Task" "firstPlace" "I") ∈ zG := zG_of 116 (by decide +kernel) (by decide +kernel)
theorem k_118 : (Jvm.Cond.laysFinal "TabledExecutive$Task" "TabledExecutive$Task" "job" "LTabledExecutive$Job;") ∈ zG := zG_of 118 (by decide +kernel) (by decide +kernel)
theorem k_120 : (Jvm.Cond.laysFinal "TabledExecutive$Task" "TabledExecutive$Task" "counts" "[I") ∈ zG := zG_of 120 (by decide +kernel) (by decide +kernel)
theorem k_123 : (Jvm.Cond.fieldLink "TabledExecutive$TaskList" (11 : Nat) "TabledExecutive$TaskList" "rows" "[LTabledExecutive$Task;") ∈ zG := zG_of 123 (by decide +kernel) (by decide +kernel)
theorem k_124 : (Jvm.Cond.fieldLink "TabledExecutive$Planner" (49 : Nat) "TabledExecutive$TaskList" "rows" "[LTabledExecutive$Task;") ∈ zG := zG_of 124 (by decide +kernel) (by decide +kernel)
theorem k_125 : (Jvm.Cond.fieldLink "TabledExecutive" (85 : Nat) "TabledExecutive$TaskList" "rows" "[LTabledExecutive$Task;") ∈ zG := zG_of 125 (by decide +kernel) (by decide +kernel)
theorem k_126 : (Jvm.Cond.fieldLink "TabledExecutive$TaskList" (18 : Nat) "TabledExecutive$TaskList" "size" "I") ∈ zG := zG_of 126 (by decide +kernel) (by decide +kernel)
theorem k_127 : (Jvm.Cond.fieldLink "TabledExecutive$Planner" (38 : Nat) "TabledExecutive$TaskList" "size" "I") ∈ zG := zG_of 127 (by decide +kernel) (by decide +kernel)
theorem k_128 : (Jvm.Cond.fieldLink "TabledExecutive" (62 : Nat) "TabledExecutive$TaskList" "size" "I") ∈ zG := zG_of 128 (by decide +kernel) (by decide +kernel)
theorem k_129 : (Jvm.Cond.laysFinal "TabledExecutive$TaskList" "TabledExecutive$TaskList" "rows" "[LTabledExecutive$Task;") ∈ zG := zG_of 129 (by decide +kernel) (by decide +kernel)
theorem k_131 : (Jvm.Cond.lays "TabledExecutive$TaskList" "TabledExecutive$TaskList" "size" "I") ∈ zG := zG_of 131 (by decide +kernel) (by decide +kernel)
theorem k_134 : (Jvm.Cond.classLink "TabledExecutive" (16 : Nat) "TabledExecutive$Table") ∈ zG := zG_of 134 (by decide +kernel) (by decide +kernel)
theorem k_135 : (Jvm.Cond.instantiable "TabledExecutive$Table" (4 : Nat)) ∈ zG := zG_of 135 (by decide +kernel) (by decide +kernel)
theorem k_137 : (Jvm.Cond.instanceMethod ({ cls := "TabledExecutive$Table", name := "<init>", desc := "()V" } : Jvm.MethodName)) ∈ zG := zG_of 137 (by decide +kernel) (by decide +kernel)
set_option maxRecDepth 20000 in
theorem k_138 : (Jvm.Cond.code ({ cls := "TabledExecutive$Table", name := "<init>", desc := "()V" } : Jvm.MethodName) prog_5_method_1_code (1 : Nat) (Option.none : Option Jvm.ClassFile.FieldType)) ∈ zG := zG_of 138 rfl rfl
theorem k_139 : (Jvm.Cond.methodLink "TabledExecutive$Table" (3 : Nat) ({ cls := "java/lang/Object", name := "<init>", desc := "()V" } : Jvm.MethodName)) ∈ zG := zG_of 139 (by decide +kernel) (by decide +kernel)
theorem k_140 : (Jvm.Cond.fieldLink "TabledExecutive$Table" (9 : Nat) "TabledExecutive$Table" "starts" "[I") ∈ zG := zG_of 140 (by decide +kernel) (by decide +kernel)
theorem k_141 : (Jvm.Cond.fieldLink "TabledExecutive$Table" (15 : Nat) "TabledExecutive$Table" "lengths" "[I") ∈ zG := zG_of 141 (by decide +kernel) (by decide +kernel)
theorem k_142 : (Jvm.Cond.fieldLink "TabledExecutive$Table" (18 : Nat) "TabledExecutive$Table" "slotTasks" "[I") ∈ zG := zG_of 142 (by decide +kernel) (by decide +kernel)
theorem k_143 : (Jvm.Cond.fieldLink "TabledExecutive$Table" (21 : Nat) "TabledExecutive$Table" "size" "I") ∈ zG := zG_of 143 (by decide +kernel) (by decide +kernel)
theorem k_144 : (Jvm.Cond.fieldLink "TabledExecutive" (94 : Nat) "TabledExecutive$Table" "size" "I") ∈ zG := zG_of 144 (by decide +kernel) (by decide +kernel)
theorem k_145 : (Jvm.Cond.laysFinal "TabledExecutive$Table" "TabledExecutive$Table" "starts" "[I") ∈ zG := zG_of 145 (by decide +kernel) (by decide +kernel)
theorem k_147 : (Jvm.Cond.laysFinal "TabledExecutive$Table" "TabledExecutive$Table" "lengths" "[I") ∈ zG := zG_of 147 (by decide +kernel) (by decide +kernel)
theorem k_149 : (Jvm.Cond.laysFinal "TabledExecutive$Table" "TabledExecutive$Table" "slotTasks" "[I") ∈ zG := zG_of 149 (by decide +kernel) (by decide +kernel)
theorem k_151 : (Jvm.Cond.lays "TabledExecutive$Table" "TabledExecutive$Table" "size" "I") ∈ zG := zG_of 151 (by decide +kernel) (by decide +kernel)
theorem k_154 : (Jvm.Cond.classLink "TabledExecutive" (23 : Nat) "TabledExecutive$Planner") ∈ zG := zG_of 154 (by decide +kernel) (by decide +kernel)
theorem k_155 : (Jvm.Cond.instantiable "TabledExecutive$Planner" (2 : Nat)) ∈ zG := zG_of 155 (by decide +kernel) (by decide +kernel)
theorem k_157 : (Jvm.Cond.instanceMethod ({ cls := "TabledExecutive$Planner", name := "<init>", desc := "()V" } : Jvm.MethodName)) ∈ zG := zG_of 157 (by decide +kernel) (by decide +kernel)
set_option maxRecDepth 20000 in
theorem k_158 : (Jvm.Cond.code ({ cls := "TabledExecutive$Planner", name := "<init>", desc := "()V" } : Jvm.MethodName) prog_4_method_1_code (1 : Nat) (Option.none : Option Jvm.ClassFile.FieldType)) ∈ zG := zG_of 158 rfl rfl
theorem k_159 : (Jvm.Cond.methodLink "TabledExecutive$Planner" (3 : Nat) ({ cls := "java/lang/Object", name := "<init>", desc := "()V" } : Jvm.MethodName)) ∈ zG := zG_of 159 (by decide +kernel) (by decide +kernel)
theorem k_160 : (Jvm.Cond.fieldLink "TabledExecutive$Planner" (9 : Nat) "TabledExecutive$Planner" "wanted" "[I") ∈ zG := zG_of 160 (by decide +kernel) (by decide +kernel)
theorem k_161 : (Jvm.Cond.fieldLink "TabledExecutive$Planner" (15 : Nat) "TabledExecutive$Planner" "windowEnds" "[I") ∈ zG := zG_of 161 (by decide +kernel) (by decide +kernel)
theorem k_162 : (Jvm.Cond.laysFinal "TabledExecutive$Planner" "TabledExecutive$Planner" "wanted" "[I") ∈ zG := zG_of 162 (by decide +kernel) (by decide +kernel)
theorem k_164 : (Jvm.Cond.laysFinal "TabledExecutive$Planner" "TabledExecutive$Planner" "windowEnds" "[I") ∈ zG := zG_of 164 (by decide +kernel) (by decide +kernel)
theorem k_167 : (Jvm.Cond.classLink "TabledExecutive" (30 : Nat) "TabledExecutive$Machine") ∈ zG := zG_of 167 (by decide +kernel) (by decide +kernel)
theorem k_168 : (Jvm.Cond.instantiable "TabledExecutive$Machine" (2 : Nat)) ∈ zG := zG_of 168 (by decide +kernel) (by decide +kernel)
theorem k_170 : (Jvm.Cond.instanceMethod ({ cls := "TabledExecutive$Machine", name := "<init>", desc := "()V" } : Jvm.MethodName)) ∈ zG := zG_of 170 (by decide +kernel) (by decide +kernel)
set_option maxRecDepth 20000 in
theorem k_171 : (Jvm.Cond.code ({ cls := "TabledExecutive$Machine", name := "<init>", desc := "()V" } : Jvm.MethodName) prog_3_method_1_code (1 : Nat) (Option.none : Option Jvm.ClassFile.FieldType)) ∈ zG := zG_of 171 rfl rfl
theorem k_172 : (Jvm.Cond.methodLink "TabledExecutive$Machine" (3 : Nat) ({ cls := "java/lang/Object", name := "<init>", desc := "()V" } : Jvm.MethodName)) ∈ zG := zG_of 172 (by decide +kernel) (by decide +kernel)
theorem k_173 : (Jvm.Cond.fieldLink "TabledExecutive$Machine" (9 : Nat) "TabledExecutive$Machine" "code" "[I") ∈ zG := zG_of 173 (by decide +kernel) (by decide +kernel)
theorem k_174 : (Jvm.Cond.fieldLink "TabledExecutive" (59 : Nat) "TabledExecutive$Machine" "code" "[I") ∈ zG := zG_of 174 (by decide +kernel) (by decide +kernel)
theorem k_175 : (Jvm.Cond.fieldLink "TabledExecutive$Machine" (15 : Nat) "TabledExecutive$Machine" "words" "[I") ∈ zG := zG_of 175 (by decide +kernel) (by decide +kernel)
theorem k_176 : (Jvm.Cond.fieldLink "TabledExecutive" (145 : Nat) "TabledExecutive$Machine" "words" "[I") ∈ zG := zG_of 176 (by decide +kernel) (by decide +kernel)
theorem k_177 : (Jvm.Cond.laysFinal "TabledExecutive$Machine" "TabledExecutive$Machine" "code" "[I") ∈ zG := zG_of 177 (by decide +kernel) (by decide +kernel)
theorem k_179 : (Jvm.Cond.laysFinal "TabledExecutive$Machine" "TabledExecutive$Machine" "words" "[I") ∈ zG := zG_of 179 (by decide +kernel) (by decide +kernel)
theorem k_182 : (Jvm.Cond.fieldLink "TabledExecutive" (10 : Nat) "TabledExecutive" "tasks" "LTabledExecutive$TaskList;") ∈ zG := zG_of 182 (by decide +kernel) (by decide +kernel)
theorem k_183 : (Jvm.Cond.fieldLink "TabledExecutive" (19 : Nat) "TabledExecutive" "table" "LTabledExecutive$Table;") ∈ zG := zG_of 183 (by decide +kernel) (by decide +kernel)
theorem k_184 : (Jvm.Cond.fieldLink "TabledExecutive" (26 : Nat) "TabledExecutive" "planner" "LTabledExecutive$Planner;") ∈ zG := zG_of 184 (by decide +kernel) (by decide +kernel)
theorem k_185 : (Jvm.Cond.fieldLink "TabledExecutive" (33 : Nat) "TabledExecutive" "machine" "LTabledExecutive$Machine;") ∈ zG := zG_of 185 (by decide +kernel) (by decide +kernel)
theorem k_186 : (Jvm.Cond.fieldLink "TabledExecutive" (37 : Nat) "TabledExecutive" "owners" "[I") ∈ zG := zG_of 186 (by decide +kernel) (by decide +kernel)
theorem k_187 : (Jvm.Cond.fieldLink "TabledExecutive" (41 : Nat) "TabledExecutive" "running" "Z") ∈ zG := zG_of 187 (by decide +kernel) (by decide +kernel)
theorem k_188 : (Jvm.Cond.fieldLink "TabledExecutive" (45 : Nat) "TabledExecutive" "runRound" "I") ∈ zG := zG_of 188 (by decide +kernel) (by decide +kernel)
theorem k_189 : (Jvm.Cond.fieldLink "TabledExecutive" (49 : Nat) "TabledExecutive" "now" "I") ∈ zG := zG_of 189 (by decide +kernel) (by decide +kernel)
theorem k_190 : (Jvm.Cond.laysFinal "TabledExecutive" "TabledExecutive" "tasks" "LTabledExecutive$TaskList;") ∈ zG := zG_of 190 (by decide +kernel) (by decide +kernel)
theorem k_192 : (Jvm.Cond.laysFinal "TabledExecutive" "TabledExecutive" "table" "LTabledExecutive$Table;") ∈ zG := zG_of 192 (by decide +kernel) (by decide +kernel)
theorem k_194 : (Jvm.Cond.laysFinal "TabledExecutive" "TabledExecutive" "planner" "LTabledExecutive$Planner;") ∈ zG := zG_of 194 (by decide +kernel) (by decide +kernel)
theorem k_196 : (Jvm.Cond.laysFinal "TabledExecutive" "TabledExecutive" "machine" "LTabledExecutive$Machine;") ∈ zG := zG_of 196 (by decide +kernel) (by decide +kernel)
theorem k_198 : (Jvm.Cond.laysFinal "TabledExecutive" "TabledExecutive" "owners" "[I") ∈ zG := zG_of 198 (by decide +kernel) (by decide +kernel)
theorem k_200 : (Jvm.Cond.lays "TabledExecutive" "TabledExecutive" "running" "Z") ∈ zG := zG_of 200 (by decide +kernel) (by decide +kernel)
theorem k_202 : (Jvm.Cond.lays "TabledExecutive" "TabledExecutive" "runRound" "I") ∈ zG := zG_of 202 (by decide +kernel) (by decide +kernel)
theorem k_204 : (Jvm.Cond.lays "TabledExecutive" "TabledExecutive" "now" "I") ∈ zG := zG_of 204 (by decide +kernel) (by decide +kernel)
theorem k_207 : (Jvm.Cond.methodLink "TabledExecutiveLaw" (88 : Nat) ({ cls := "TabledExecutive", name := "round", desc := "()I" } : Jvm.MethodName)) ∈ zG := zG_of 207 (by decide +kernel) (by decide +kernel)
theorem k_208 : (Jvm.Cond.instanceMethod ({ cls := "TabledExecutive", name := "round", desc := "()I" } : Jvm.MethodName)) ∈ zG := zG_of 208 (by decide +kernel) (by decide +kernel)
theorem k_209 : (Jvm.Cond.selects "TabledExecutive" ({ cls := "TabledExecutive", name := "round", desc := "()I" } : Jvm.MethodName) ({ cls := "TabledExecutive", name := "round", desc := "()I" } : Jvm.MethodName)) ∈ zG := zG_of 209 (by decide +kernel) (by decide +kernel)
set_option maxRecDepth 20000 in
theorem k_210 : (Jvm.Cond.code ({ cls := "TabledExecutive", name := "round", desc := "()I" } : Jvm.MethodName) prog_1_method_6_code (1 : Nat) (Option.some Jvm.ClassFile.FieldType.int)) ∈ zG := zG_of 210 rfl rfl
theorem k_211 : (Jvm.Cond.methodLink "TabledExecutive" (95 : Nat) ({ cls := "TabledExecutive$TaskList", name := "commonRound", desc := "()I" } : Jvm.MethodName)) ∈ zG := zG_of 211 (by decide +kernel) (by decide +kernel)
theorem k_212 : (Jvm.Cond.instanceMethod ({ cls := "TabledExecutive$TaskList", name := "commonRound", desc := "()I" } : Jvm.MethodName)) ∈ zG := zG_of 212 (by decide +kernel) (by decide +kernel)
theorem k_213 : (Jvm.Cond.selects "TabledExecutive$TaskList" ({ cls := "TabledExecutive$TaskList", name := "commonRound", desc := "()I" } : Jvm.MethodName) ({ cls := "TabledExecutive$TaskList", name := "commonRound", desc := "()I" } : Jvm.MethodName)) ∈ zG := zG_of 213 (by decide +kernel) (by decide +kernel)
set_option maxRecDepth 20000 in
theorem k_214 : (Jvm.Cond.code ({ cls := "TabledExecutive$TaskList", name := "commonRound", desc := "()I" } : Jvm.MethodName) prog_7_method_3_code (2 : Nat) (Option.some Jvm.ClassFile.FieldType.int)) ∈ zG := zG_of 214 rfl rfl
theorem k_215 : (Jvm.Cond.methodLink "TabledExecutive$TaskList" (40 : Nat) ({ cls := "TabledExecutive$TaskList", name := "isCommonMultiple", desc := "(I)Z" } : Jvm.MethodName)) ∈ zG := zG_of 215 (by decide +kernel) (by decide +kernel)
theorem k_217 : (Jvm.Cond.instanceMethod ({ cls := "TabledExecutive$TaskList", name := "isCommonMultiple", desc := "(I)Z" } : Jvm.MethodName)) ∈ zG := zG_of 217 (by decide +kernel) (by decide +kernel)
set_option maxRecDepth 20000 in
theorem k_218 : (Jvm.Cond.code ({ cls := "TabledExecutive$TaskList", name := "isCommonMultiple", desc := "(I)Z" } : Jvm.MethodName) prog_7_method_4_code (3 : Nat) (Option.some Jvm.ClassFile.FieldType.boolean)) ∈ zG := zG_of 218 rfl rfl
theorem k_219 : (Jvm.Cond.methodLink "TabledExecutiveLaw" (103 : Nat) ({ cls := "TabledExecutive", name := "slots", desc := "()I" } : Jvm.MethodName)) ∈ zG := zG_of 219 (by decide +kernel) (by decide +kernel)
theorem k_220 : (Jvm.Cond.instanceMethod ({ cls := "TabledExecutive", name := "slots", desc := "()I" } : Jvm.MethodName)) ∈ zG := zG_of 220 (by decide +kernel) (by decide +kernel)
theorem k_221 : (Jvm.Cond.selects "TabledExecutive" ({ cls := "TabledExecutive", name := "slots", desc := "()I" } : Jvm.MethodName) ({ cls := "TabledExecutive", name := "slots", desc := "()I" } : Jvm.MethodName)) ∈ zG := zG_of 221 (by decide +kernel) (by decide +kernel)
set_option maxRecDepth 20000 in
theorem k_222 : (Jvm.Cond.code ({ cls := "TabledExecutive", name := "slots", desc := "()I" } : Jvm.MethodName) prog_1_method_10_code (1 : Nat) (Option.some Jvm.ClassFile.FieldType.int)) ∈ zG := zG_of 222 rfl rfl
theorem k_223 : (Jvm.Cond.methodLink "TabledExecutiveLaw" (124 : Nat) ({ cls := "TabledExecutive", name := "time", desc := "()I" } : Jvm.MethodName)) ∈ zG := zG_of 223 (by decide +kernel) (by decide +kernel)
theorem k_224 : (Jvm.Cond.instanceMethod ({ cls := "TabledExecutive", name := "time", desc := "()I" } : Jvm.MethodName)) ∈ zG := zG_of 224 (by decide +kernel) (by decide +kernel)
theorem k_225 : (Jvm.Cond.selects "TabledExecutive" ({ cls := "TabledExecutive", name := "time", desc := "()I" } : Jvm.MethodName) ({ cls := "TabledExecutive", name := "time", desc := "()I" } : Jvm.MethodName)) ∈ zG := zG_of 225 (by decide +kernel) (by decide +kernel)
set_option maxRecDepth 20000 in
theorem k_226 : (Jvm.Cond.code ({ cls := "TabledExecutive", name := "time", desc := "()I" } : Jvm.MethodName) prog_1_method_16_code (1 : Nat) (Option.some Jvm.ClassFile.FieldType.int)) ∈ zG := zG_of 226 rfl rfl
theorem k_227 : (Jvm.Cond.methodLink "TabledExecutiveLaw" (68 : Nat) ({ cls := "TabledExecutiveLaw", name := "load", desc := "(LTabledExecutive;II)I" } : Jvm.MethodName)) ∈ zG := zG_of 227 (by decide +kernel) (by decide +kernel)
theorem k_228 : (Jvm.Cond.static ({ cls := "TabledExecutiveLaw", name := "load", desc := "(LTabledExecutive;II)I" } : Jvm.MethodName)) ∈ zG := zG_of 228 (by decide +kernel) (by decide +kernel)
set_option maxRecDepth 20000 in
theorem k_229 : (Jvm.Cond.codeWith ({ cls := "TabledExecutiveLaw", name := "load", desc := "(LTabledExecutive;II)I" } : Jvm.MethodName) method_3_code (4 : Nat) (Option.some Jvm.ClassFile.FieldType.int) [((0 : Nat), (6 : Nat), (9 : Nat), (13 : Nat)), ((0 : Nat), (6 : Nat), (12 : Nat), (15 : Nat))]) ∈ zG := zG_of 229 rfl rfl
theorem k_230 : (Jvm.Cond.classLink "TabledExecutiveLaw" (13 : Nat) "java/lang/IllegalStateException") ∈ zG := zG_of 230 (by decide +kernel) (by decide +kernel)
theorem k_231 : (Jvm.Cond.classLink "TabledExecutiveLaw" (15 : Nat) "java/lang/IndexOutOfBoundsException") ∈ zG := zG_of 231 (by decide +kernel) (by decide +kernel)
theorem k_232 : (Jvm.Cond.methodLink "TabledExecutiveLaw" (7 : Nat) ({ cls := "TabledExecutive", name := "load", desc := "(II)V" } : Jvm.MethodName)) ∈ zG := zG_of 232 (by decide +kernel) (by decide +kernel)
theorem k_233 : (Jvm.Cond.instanceMethod ({ cls := "TabledExecutive", name := "load", desc := "(II)V" } : Jvm.MethodName)) ∈ zG := zG_of 233 (by decide +kernel) (by decide +kernel)
theorem k_234 : (Jvm.Cond.selects "TabledExecutive" ({ cls := "TabledExecutive", name := "load", desc := "(II)V" } : Jvm.MethodName) ({ cls := "TabledExecutive", name := "load", desc := "(II)V" } : Jvm.MethodName)) ∈ zG := zG_of 234 (by decide +kernel) (by decide +kernel)
set_option maxRecDepth 20000 in
theorem k_235 : (Jvm.Cond.code ({ cls := "TabledExecutive", name := "load", desc := "(II)V" } : Jvm.MethodName) prog_1_method_2_code (3 : Nat) (Option.none : Option Jvm.ClassFile.FieldType)) ∈ zG := zG_of 235 rfl rfl
theorem k_236 : (Jvm.Cond.methodLink "TabledExecutive" (52 : Nat) ({ cls := "TabledExecutive", name := "needEdit", desc := "()V" } : Jvm.MethodName)) ∈ zG := zG_of 236 (by decide +kernel) (by decide +kernel)
theorem k_238 : (Jvm.Cond.instanceMethod ({ cls := "TabledExecutive", name := "needEdit", desc := "()V" } : Jvm.MethodName)) ∈ zG := zG_of 238 (by decide +kernel) (by decide +kernel)
set_option maxRecDepth 20000 in
theorem k_239 : (Jvm.Cond.code ({ cls := "TabledExecutive", name := "needEdit", desc := "()V" } : Jvm.MethodName) prog_1_method_19_code (1 : Nat) (Option.none : Option Jvm.ClassFile.FieldType)) ∈ zG := zG_of 239 rfl rfl
theorem k_240 : (Jvm.Cond.classLink "TabledExecutive" (65 : Nat) "java/lang/IllegalStateException") ∈ zG := zG_of 240 (by decide +kernel) (by decide +kernel)
theorem k_307 : (Jvm.Cond.arrayClass Jvm.ClassFile.FieldType.byte) ∈ zG := zG_of 307 (by decide +kernel) (by decide +kernel)
theorem k_308 : (Jvm.Cond.methodLink "TabledExecutive" (55 : Nat) ({ cls := "TabledExecutive", name := "needIndex", desc := "(II)V" } : Jvm.MethodName)) ∈ zG := zG_of 308 (by decide +kernel) (by decide +kernel)
theorem k_309 : (Jvm.Cond.static ({ cls := "TabledExecutive", name := "needIndex", desc := "(II)V" } : Jvm.MethodName)) ∈ zG := zG_of 309 (by decide +kernel) (by decide +kernel)
set_option maxRecDepth 20000 in
theorem k_310 : (Jvm.Cond.code ({ cls := "TabledExecutive", name := "needIndex", desc := "(II)V" } : Jvm.MethodName) prog_1_method_21_code (2 : Nat) (Option.none : Option Jvm.ClassFile.FieldType)) ∈ zG := zG_of 310 rfl rfl
theorem k_311 : (Jvm.Cond.classLink "TabledExecutive" (152 : Nat) "java/lang/IndexOutOfBoundsException") ∈ zG := zG_of 311 (by decide +kernel) (by decide +kernel)
theorem k_327 : (Jvm.Cond.methodLink "TabledExecutiveLaw" (77 : Nat) ({ cls := "TabledExecutiveLaw", name := "task", desc := "(LTabledExecutive;IIII[J)I" } : Jvm.MethodName)) ∈ zG := zG_of 327 (by decide +kernel) (by decide +kernel)
theorem k_328 : (Jvm.Cond.static ({ cls := "TabledExecutiveLaw", name := "task", desc := "(LTabledExecutive;IIII[J)I" } : Jvm.MethodName)) ∈ zG := zG_of 328 (by decide +kernel) (by decide +kernel)
set_option maxRecDepth 20000 in
theorem k_329 : (Jvm.Cond.codeWith ({ cls := "TabledExecutiveLaw", name := "task", desc := "(LTabledExecutive;IIII[J)I" } : Jvm.MethodName) method_4_code (7 : Nat) (Option.some Jvm.ClassFile.FieldType.int) [((0 : Nat), (14 : Nat), (17 : Nat), (13 : Nat)), ((0 : Nat), (14 : Nat), (21 : Nat), (21 : Nat))]) ∈ zG := zG_of 329 rfl rfl
theorem k_330 : (Jvm.Cond.classLink "TabledExecutiveLaw" (21 : Nat) "java/lang/IllegalArgumentException") ∈ zG := zG_of 330 (by decide +kernel) (by decide +kernel)
theorem k_331 : (Jvm.Cond.methodLink "TabledExecutiveLaw" (17 : Nat) ({ cls := "TabledExecutive", name := "task", desc := "(IIII)I" } : Jvm.MethodName)) ∈ zG := zG_of 331 (by decide +kernel) (by decide +kernel)
theorem k_332 : (Jvm.Cond.instanceMethod ({ cls := "TabledExecutive", name := "task", desc := "(IIII)I" } : Jvm.MethodName)) ∈ zG := zG_of 332 (by decide +kernel) (by decide +kernel)
theorem k_333 : (Jvm.Cond.selects "TabledExecutive" ({ cls := "TabledExecutive", name := "task", desc := "(IIII)I" } : Jvm.MethodName) ({ cls := "TabledExecutive", name := "task", desc := "(IIII)I" } : Jvm.MethodName)) ∈ zG := zG_of 333 (by decide +kernel) (by decide +kernel)
set_option maxRecDepth 20000 in
theorem k_334 : (Jvm.Cond.code ({ cls := "TabledExecutive", name := "task", desc := "(IIII)I" } : Jvm.MethodName) prog_1_method_3_code (5 : Nat) (Option.some Jvm.ClassFile.FieldType.int)) ∈ zG := zG_of 334 rfl rfl
theorem k_336 : (Jvm.Cond.methodLink "TabledExecutive" (72 : Nat) ({ cls := "TabledExecutive", name := "isTask", desc := "(IIII)Z" } : Jvm.MethodName)) ∈ zG := zG_of 336 (by decide +kernel) (by decide +kernel)
theorem k_337 : (Jvm.Cond.static ({ cls := "TabledExecutive", name := "isTask", desc := "(IIII)Z" } : Jvm.MethodName)) ∈ zG := zG_of 337 (by decide +kernel) (by decide +kernel)
set_option maxRecDepth 20000 in
theorem k_338 : (Jvm.Cond.code ({ cls := "TabledExecutive", name := "isTask", desc := "(IIII)Z" } : Jvm.MethodName) prog_1_method_22_code (4 : Nat) (Option.some Jvm.ClassFile.FieldType.boolean)) ∈ zG := zG_of 338 rfl rfl
theorem k_339 : (Jvm.Cond.classLink "TabledExecutive" (76 : Nat) "java/lang/IllegalArgumentException") ∈ zG := zG_of 339 (by decide +kernel) (by decide +kernel)
theorem k_355 : (Jvm.Cond.methodLink "TabledExecutive" (81 : Nat) ({ cls := "TabledExecutive$TaskList", name := "append", desc := "(IIII)I" } : Jvm.MethodName)) ∈ zG := zG_of 355 (by decide +kernel) (by decide +kernel)
theorem k_356 : (Jvm.Cond.instanceMethod ({ cls := "TabledExecutive$TaskList", name := "append", desc := "(IIII)I" } : Jvm.MethodName)) ∈ zG := zG_of 356 (by decide +kernel) (by decide +kernel)
theorem k_357 : (Jvm.Cond.selects "TabledExecutive$TaskList" ({ cls := "TabledExecutive$TaskList", name := "append", desc := "(IIII)I" } : Jvm.MethodName) ({ cls := "TabledExecutive$TaskList", name := "append", desc := "(IIII)I" } : Jvm.MethodName)) ∈ zG := zG_of 357 (by decide +kernel) (by decide +kernel)
set_option maxRecDepth 20000 in
theorem k_358 : (Jvm.Cond.code ({ cls := "TabledExecutive$TaskList", name := "append", desc := "(IIII)I" } : Jvm.MethodName) prog_7_method_2_code (6 : Nat) (Option.some Jvm.ClassFile.FieldType.int)) ∈ zG := zG_of 358 rfl rfl
theorem k_359 : (Jvm.Cond.methodLink "TabledExecutive$TaskList" (37 : Nat) ({ cls := "TabledExecutive$Task", name := "forgetRun", desc := "()V" } : Jvm.MethodName)) ∈ zG := zG_of 359 (by decide +kernel) (by decide +kernel)
theorem k_360 : (Jvm.Cond.instanceMethod ({ cls := "TabledExecutive$Task", name := "forgetRun", desc := "()V" } : Jvm.MethodName)) ∈ zG := zG_of 360 (by decide +kernel) (by decide +kernel)
theorem k_361 : (Jvm.Cond.selects "TabledExecutive$Task" ({ cls := "TabledExecutive$Task", name := "forgetRun", desc := "()V" } : Jvm.MethodName) ({ cls := "TabledExecutive$Task", name := "forgetRun", desc := "()V" } : Jvm.MethodName)) ∈ zG := zG_of 361 (by decide +kernel) (by decide +kernel)
set_option maxRecDepth 20000 in
theorem k_362 : (Jvm.Cond.code ({ cls := "TabledExecutive$Task", name := "forgetRun", desc := "()V" } : Jvm.MethodName) prog_6_method_3_code (1 : Nat) (Option.none : Option Jvm.ClassFile.FieldType)) ∈ zG := zG_of 362 rfl rfl
theorem k_363 : (Jvm.Cond.methodLink "TabledExecutive$Task" (33 : Nat) ({ cls := "java/util/Arrays", name := "fill", desc := "([II)V" } : Jvm.MethodName)) ∈ zG := zG_of 363 (by decide +kernel) (by decide +kernel)
theorem k_364 : (Jvm.Cond.static ({ cls := "java/util/Arrays", name := "fill", desc := "([II)V" } : Jvm.MethodName)) ∈ zG := zG_of 364 (by decide +kernel) (by decide +kernel)
set_option maxRecDepth 20000 in
theorem k_365 : (Jvm.Cond.code ({ cls := "java/util/Arrays", name := "fill", desc := "([II)V" } : Jvm.MethodName) prog_18_method_103_code (4 : Nat) (Option.none : Option Jvm.ClassFile.FieldType)) ∈ zG := zG_of 365 rfl rfl
theorem k_366 : (Jvm.Cond.methodLink "TabledExecutiveLaw" (81 : Nat) ({ cls := "TabledExecutiveLaw", name := "entry", desc := "(LTabledExecutive;II)I" } : Jvm.MethodName)) ∈ zG := zG_of 366 (by decide +kernel) (by decide +kernel)
theorem k_367 : (Jvm.Cond.static ({ cls := "TabledExecutiveLaw", name := "entry", desc := "(LTabledExecutive;II)I" } : Jvm.MethodName)) ∈ zG := zG_of 367 (by decide +kernel) (by decide +kernel)
set_option maxRecDepth 20000 in
theorem k_368 : (Jvm.Cond.codeWith ({ cls := "TabledExecutiveLaw", name := "entry", desc := "(LTabledExecutive;II)I" } : Jvm.MethodName) method_5_code (4 : Nat) (Option.some Jvm.ClassFile.FieldType.int) [((0 : Nat), (6 : Nat), (9 : Nat), (13 : Nat)), ((0 : Nat), (6 : Nat), (12 : Nat), (15 : Nat))]) ∈ zG := zG_of 368 rfl rfl
theorem k_369 : (Jvm.Cond.methodLink "TabledExecutiveLaw" (23 : Nat) ({ cls := "TabledExecutive", name := "entry", desc := "(II)V" } : Jvm.MethodName)) ∈ zG := zG_of 369 (by decide +kernel) (by decide +kernel)
theorem k_370 : (Jvm.Cond.instanceMethod ({ cls := "TabledExecutive", name := "entry", desc := "(II)V" } : Jvm.MethodName)) ∈ zG := zG_of 370 (by decide +kernel) (by decide +kernel)
theorem k_371 : (Jvm.Cond.selects "TabledExecutive" ({ cls := "TabledExecutive", name := "entry", desc := "(II)V" } : Jvm.MethodName) ({ cls := "TabledExecutive", name := "entry", desc := "(II)V" } : Jvm.MethodName)) ∈ zG := zG_of 371 (by decide +kernel) (by decide +kernel)
set_option maxRecDepth 20000 in
theorem k_372 : (Jvm.Cond.code ({ cls := "TabledExecutive", name := "entry", desc := "(II)V" } : Jvm.MethodName) prog_1_method_4_code (3 : Nat) (Option.none : Option Jvm.ClassFile.FieldType)) ∈ zG := zG_of 372 rfl rfl
theorem k_373 : (Jvm.Cond.methodLink "TabledExecutiveLaw" (84 : Nat) ({ cls := "TabledExecutiveLaw", name := "clear", desc := "(LTabledExecutive;)I" } : Jvm.MethodName)) ∈ zG := zG_of 373 (by decide +kernel) (by decide +kernel)
theorem k_374 : (Jvm.Cond.static ({ cls := "TabledExecutiveLaw", name := "clear", desc := "(LTabledExecutive;)I" } : Jvm.MethodName)) ∈ zG := zG_of 374 (by decide +kernel) (by decide +kernel)
set_option maxRecDepth 20000 in
theorem k_375 : (Jvm.Cond.codeWith ({ cls := "TabledExecutiveLaw", name := "clear", desc := "(LTabledExecutive;)I" } : Jvm.MethodName) method_6_code (2 : Nat) (Option.some Jvm.ClassFile.FieldType.int) [((0 : Nat), (4 : Nat), (7 : Nat), (13 : Nat))]) ∈ zG := zG_of 375 rfl rfl
theorem k_376 : (Jvm.Cond.methodLink "TabledExecutiveLaw" (26 : Nat) ({ cls := "TabledExecutive", name := "clear", desc := "()V" } : Jvm.MethodName)) ∈ zG := zG_of 376 (by decide +kernel) (by decide +kernel)
theorem k_377 : (Jvm.Cond.instanceMethod ({ cls := "TabledExecutive", name := "clear", desc := "()V" } : Jvm.MethodName)) ∈ zG := zG_of 377 (by decide +kernel) (by decide +kernel)
theorem k_378 : (Jvm.Cond.selects "TabledExecutive" ({ cls := "TabledExecutive", name := "clear", desc := "()V" } : Jvm.MethodName) ({ cls := "TabledExecutive", name := "clear", desc := "()V" } : Jvm.MethodName)) ∈ zG := zG_of 378 (by decide +kernel) (by decide +kernel)
set_option maxRecDepth 20000 in
theorem k_379 : (Jvm.Cond.code ({ cls := "TabledExecutive", name := "clear", desc := "()V" } : Jvm.MethodName) prog_1_method_5_code (1 : Nat) (Option.none : Option Jvm.ClassFile.FieldType)) ∈ zG := zG_of 379 rfl rfl
theorem k_380 : (Jvm.Cond.methodLink "TabledExecutiveLaw" (92 : Nat) ({ cls := "TabledExecutiveLaw", name := "synthesize", desc := "(LTabledExecutive;[J)I" } : Jvm.MethodName)) ∈ zG := zG_of 380 (by decide +kernel) (by decide +kernel)
theorem k_381 : (Jvm.Cond.static ({ cls := "TabledExecutiveLaw", name := "synthesize", desc := "(LTabledExecutive;[J)I" } : Jvm.MethodName)) ∈ zG := zG_of 381 (by decide +kernel) (by decide +kernel)
set_option maxRecDepth 20000 in
theorem k_382 : (Jvm.Cond.codeWith ({ cls := "TabledExecutiveLaw", name := "synthesize", desc := "(LTabledExecutive;[J)I" } : Jvm.MethodName) method_7_code (3 : Nat) (Option.some Jvm.ClassFile.FieldType.int) [((0 : Nat), (8 : Nat), (11 : Nat), (13 : Nat))]) ∈ zG := zG_of 382 rfl rfl
theorem k_383 : (Jvm.Cond.methodLink "TabledExecutiveLaw" (29 : Nat) ({ cls := "TabledExecutive", name := "synthesize", desc := "()I" } : Jvm.MethodName)) ∈ zG := zG_of 383 (by decide +kernel) (by decide +kernel)
theorem k_384 : (Jvm.Cond.instanceMethod ({ cls := "TabledExecutive", name := "synthesize", desc := "()I" } : Jvm.MethodName)) ∈ zG := zG_of 384 (by decide +kernel) (by decide +kernel)
theorem k_385 : (Jvm.Cond.selects "TabledExecutive" ({ cls := "TabledExecutive", name := "synthesize", desc := "()I" } : Jvm.MethodName) ({ cls := "TabledExecutive", name := "synthesize", desc := "()I" } : Jvm.MethodName)) ∈ zG := zG_of 385 (by decide +kernel) (by decide +kernel)
set_option maxRecDepth 20000 in
theorem k_386 : (Jvm.Cond.code ({ cls := "TabledExecutive", name := "synthesize", desc := "()I" } : Jvm.MethodName) prog_1_method_7_code (2 : Nat) (Option.some Jvm.ClassFile.FieldType.int)) ∈ zG := zG_of 386 rfl rfl
theorem k_387 : (Jvm.Cond.methodLink "TabledExecutive" (99 : Nat) ({ cls := "TabledExecutive$Planner", name := "plan", desc := "(LTabledExecutive$TaskList;[II)Z" } : Jvm.MethodName)) ∈ zG := zG_of 387 (by decide +kernel) (by decide +kernel)
theorem k_388 : (Jvm.Cond.instanceMethod ({ cls := "TabledExecutive$Planner", name := "plan", desc := "(LTabledExecutive$TaskList;[II)Z" } : Jvm.MethodName)) ∈ zG := zG_of 388 (by decide +kernel) (by decide +kernel)
theorem k_389 : (Jvm.Cond.selects "TabledExecutive$Planner" ({ cls := "TabledExecutive$Planner", name := "plan", desc := "(LTabledExecutive$TaskList;[II)Z" } : Jvm.MethodName) ({ cls := "TabledExecutive$Planner", name := "plan", desc := "(LTabledExecutive$TaskList;[II)Z" } : Jvm.MethodName)) ∈ zG := zG_of 389 (by decide +kernel) (by decide +kernel)
set_option maxRecDepth 20000 in
theorem k_390 : (Jvm.Cond.code ({ cls := "TabledExecutive$Planner", name := "plan", desc := "(LTabledExecutive$TaskList;[II)Z" } : Jvm.MethodName) prog_4_method_2_code (7 : Nat) (Option.some Jvm.ClassFile.FieldType.boolean)) ∈ zG := zG_of 390 rfl rfl
theorem k_391 : (Jvm.Cond.methodLink "TabledExecutive$Planner" (18 : Nat) ({ cls := "TabledExecutive$TaskList", name := "workInRound", desc := "(I)I" } : Jvm.MethodName)) ∈ zG := zG_of 391 (by decide +kernel) (by decide +kernel)
theorem k_392 : (Jvm.Cond.instanceMethod ({ cls := "TabledExecutive$TaskList", name := "workInRound", desc := "(I)I" } : Jvm.MethodName)) ∈ zG := zG_of 392 (by decide +kernel) (by decide +kernel)
theorem k_393 : (Jvm.Cond.selects "TabledExecutive$TaskList" ({ cls := "TabledExecutive$TaskList", name := "workInRound", desc := "(I)I" } : Jvm.MethodName) ({ cls := "TabledExecutive$TaskList", name := "workInRound", desc := "(I)I" } : Jvm.MethodName)) ∈ zG := zG_of 393 (by decide +kernel) (by decide +kernel)
set_option maxRecDepth 20000 in
theorem k_394 : (Jvm.Cond.code ({ cls := "TabledExecutive$TaskList", name := "workInRound", desc := "(I)I" } : Jvm.MethodName) prog_7_method_6_code (4 : Nat) (Option.some Jvm.ClassFile.FieldType.int)) ∈ zG := zG_of 394 rfl rfl
theorem k_395 : (Jvm.Cond.methodLink "TabledExecutive$Planner" (24 : Nat) ({ cls := "java/util/Arrays", name := "fill", desc := "([II)V" } : Jvm.MethodName)) ∈ zG := zG_of 395 (by decide +kernel) (by decide +kernel)
theorem k_396 : (Jvm.Cond.methodLink "TabledExecutive$Planner" (30 : Nat) ({ cls := "TabledExecutive$TaskList", name := "greatestOffset", desc := "()I" } : Jvm.MethodName)) ∈ zG := zG_of 396 (by decide +kernel) (by decide +kernel)
theorem k_397 : (Jvm.Cond.instanceMethod ({ cls := "TabledExecutive$TaskList", name := "greatestOffset", desc := "()I" } : Jvm.MethodName)) ∈ zG := zG_of 397 (by decide +kernel) (by decide +kernel)
theorem k_398 : (Jvm.Cond.selects "TabledExecutive$TaskList" ({ cls := "TabledExecutive$TaskList", name := "greatestOffset", desc := "()I" } : Jvm.MethodName) ({ cls := "TabledExecutive$TaskList", name := "greatestOffset", desc := "()I" } : Jvm.MethodName)) ∈ zG := zG_of 398 (by decide +kernel) (by decide +kernel)
set_option maxRecDepth 20000 in
theorem k_399 : (Jvm.Cond.code ({ cls := "TabledExecutive$TaskList", name := "greatestOffset", desc := "()I" } : Jvm.MethodName) prog_7_method_5_code (3 : Nat) (Option.some Jvm.ClassFile.FieldType.int)) ∈ zG := zG_of 399 rfl rfl
theorem k_400 : (Jvm.Cond.methodLink "TabledExecutive$TaskList" (44 : Nat) ({ cls := "java/lang/Math", name := "max", desc := "(II)I" } : Jvm.MethodName)) ∈ zG := zG_of 400 (by decide +kernel) (by decide +kernel)
theorem k_401 : (Jvm.Cond.static ({ cls := "java/lang/Math", name := "max", desc := "(II)I" } : Jvm.MethodName)) ∈ zG := zG_of 401 (by decide +kernel) (by decide +kernel)
set_option maxRecDepth 20000 in
theorem k_402 : (Jvm.Cond.code ({ cls := "java/lang/Math", name := "max", desc := "(II)I" } : Jvm.MethodName) prog_14_method_65_code (2 : Nat) (Option.some Jvm.ClassFile.FieldType.int)) ∈ zG := zG_of 402 rfl rfl
theorem k_403 : (Jvm.Cond.methodLink "TabledExecutive$Planner" (34 : Nat) ({ cls := "TabledExecutive$Planner", name := "release", desc := "(LTabledExecutive$TaskList;I)V" } : Jvm.MethodName)) ∈ zG := zG_of 403 (by decide +kernel) (by decide +kernel)
theorem k_405 : (Jvm.Cond.instanceMethod ({ cls := "TabledExecutive$Planner", name := "release", desc := "(LTabledExecutive$TaskList;I)V" } : Jvm.MethodName)) ∈ zG := zG_of 405 (by decide +kernel) (by decide +kernel)
set_option maxRecDepth 20000 in
theorem k_406 : (Jvm.Cond.code ({ cls := "TabledExecutive$Planner", name := "release", desc := "(LTabledExecutive$TaskList;I)V" } : Jvm.MethodName) prog_4_method_3_code (5 : Nat) (Option.none : Option Jvm.ClassFile.FieldType)) ∈ zG := zG_of 406 rfl rfl
theorem k_407 : (Jvm.Cond.methodLink "TabledExecutive$Planner" (53 : Nat) ({ cls := "TabledExecutive$Task", name := "releasesAt", desc := "(I)Z" } : Jvm.MethodName)) ∈ zG := zG_of 407 (by decide +kernel) (by decide +kernel)
theorem k_408 : (Jvm.Cond.instanceMethod ({ cls := "TabledExecutive$Task", name := "releasesAt", desc := "(I)Z" } : Jvm.MethodName)) ∈ zG := zG_of 408 (by decide +kernel) (by decide +kernel)
theorem k_409 : (Jvm.Cond.selects "TabledExecutive$Task" ({ cls := "TabledExecutive$Task", name := "releasesAt", desc := "(I)Z" } : Jvm.MethodName) ({ cls := "TabledExecutive$Task", name := "releasesAt", desc := "(I)Z" } : Jvm.MethodName)) ∈ zG := zG_of 409 (by decide +kernel) (by decide +kernel)
set_option maxRecDepth 20000 in
theorem k_410 : (Jvm.Cond.code ({ cls := "TabledExecutive$Task", name := "releasesAt", desc := "(I)Z" } : Jvm.MethodName) prog_6_method_2_code (2 : Nat) (Option.some Jvm.ClassFile.FieldType.boolean)) ∈ zG := zG_of 410 rfl rfl
theorem k_411 : (Jvm.Cond.methodLink "TabledExecutive$Planner" (42 : Nat) ({ cls := "TabledExecutive$Planner", name := "mostUrgent", desc := "(I)I" } : Jvm.MethodName)) ∈ zG := zG_of 411 (by decide +kernel) (by decide +kernel)
theorem k_413 : (Jvm.Cond.instanceMethod ({ cls := "TabledExecutive$Planner", name := "mostUrgent", desc := "(I)I" } : Jvm.MethodName)) ∈ zG := zG_of 413 (by decide +kernel) (by decide +kernel)
set_option maxRecDepth 20000 in
theorem k_414 : (Jvm.Cond.code ({ cls := "TabledExecutive$Planner", name := "mostUrgent", desc := "(I)I" } : Jvm.MethodName) prog_4_method_4_code (4 : Nat) (Option.some Jvm.ClassFile.FieldType.int)) ∈ zG := zG_of 414 rfl rfl
theorem k_415 : (Jvm.Cond.methodLink "TabledExecutive$Planner" (45 : Nat) ({ cls := "TabledExecutive$Planner", name := "missesWindow", desc := "(II)Z" } : Jvm.MethodName)) ∈ zG := zG_of 415 (by decide +kernel) (by decide +kernel)
theorem k_417 : (Jvm.Cond.instanceMethod ({ cls := "TabledExecutive$Planner", name := "missesWindow", desc := "(II)Z" } : Jvm.MethodName)) ∈ zG := zG_of 417 (by decide +kernel) (by decide +kernel)
set_option maxRecDepth 20000 in
theorem k_418 : (Jvm.Cond.code ({ cls := "TabledExecutive$Planner", name := "missesWindow", desc := "(II)Z" } : Jvm.MethodName) prog_4_method_5_code (4 : Nat) (Option.some Jvm.ClassFile.FieldType.boolean)) ∈ zG := zG_of 418 rfl rfl
theorem k_419 : (Jvm.Cond.methodLink "TabledExecutive" (103 : Nat) ({ cls := "TabledExecutive$Table", name := "become", desc := "([II)Z" } : Jvm.MethodName)) ∈ zG := zG_of 419 (by decide +kernel) (by decide +kernel)
theorem k_420 : (Jvm.Cond.instanceMethod ({ cls := "TabledExecutive$Table", name := "become", desc := "([II)Z" } : Jvm.MethodName)) ∈ zG := zG_of 420 (by decide +kernel) (by decide +kernel)
theorem k_421 : (Jvm.Cond.selects "TabledExecutive$Table" ({ cls := "TabledExecutive$Table", name := "become", desc := "([II)Z" } : Jvm.MethodName) ({ cls := "TabledExecutive$Table", name := "become", desc := "([II)Z" } : Jvm.MethodName)) ∈ zG := zG_of 421 (by decide +kernel) (by decide +kernel)
set_option maxRecDepth 20000 in
theorem k_422 : (Jvm.Cond.code ({ cls := "TabledExecutive$Table", name := "become", desc := "([II)Z" } : Jvm.MethodName) prog_5_method_4_code (4 : Nat) (Option.some Jvm.ClassFile.FieldType.boolean)) ∈ zG := zG_of 422 rfl rfl
theorem k_423 : (Jvm.Cond.methodLink "TabledExecutive$Table" (25 : Nat) ({ cls := "TabledExecutive$Table", name := "put", desc := "(IIII)V" } : Jvm.MethodName)) ∈ zG := zG_of 423 (by decide +kernel) (by decide +kernel)
theorem k_424 : (Jvm.Cond.instanceMethod ({ cls := "TabledExecutive$Table", name := "put", desc := "(IIII)V" } : Jvm.MethodName)) ∈ zG := zG_of 424 (by decide +kernel) (by decide +kernel)
theorem k_425 : (Jvm.Cond.selects "TabledExecutive$Table" ({ cls := "TabledExecutive$Table", name := "put", desc := "(IIII)V" } : Jvm.MethodName) ({ cls := "TabledExecutive$Table", name := "put", desc := "(IIII)V" } : Jvm.MethodName)) ∈ zG := zG_of 425 (by decide +kernel) (by decide +kernel)
set_option maxRecDepth 20000 in
theorem k_426 : (Jvm.Cond.code ({ cls := "TabledExecutive$Table", name := "put", desc := "(IIII)V" } : Jvm.MethodName) prog_5_method_3_code (5 : Nat) (Option.none : Option Jvm.ClassFile.FieldType)) ∈ zG := zG_of 426 rfl rfl
theorem k_427 : (Jvm.Cond.methodLink "TabledExecutiveLaw" (96 : Nat) ({ cls := "TabledExecutiveLaw", name := "slot", desc := "(LTabledExecutive;IIII)I" } : Jvm.MethodName)) ∈ zG := zG_of 427 (by decide +kernel) (by decide +kernel)
theorem k_428 : (Jvm.Cond.static ({ cls := "TabledExecutiveLaw", name := "slot", desc := "(LTabledExecutive;IIII)I" } : Jvm.MethodName)) ∈ zG := zG_of 428 (by decide +kernel) (by decide +kernel)
set_option maxRecDepth 20000 in
theorem k_429 : (Jvm.Cond.codeWith ({ cls := "TabledExecutiveLaw", name := "slot", desc := "(LTabledExecutive;IIII)I" } : Jvm.MethodName) method_8_code (6 : Nat) (Option.some Jvm.ClassFile.FieldType.int) [((0 : Nat), (9 : Nat), (12 : Nat), (13 : Nat)), ((0 : Nat), (9 : Nat), (16 : Nat), (15 : Nat)), ((0 : Nat), (9 : Nat), (20 : Nat), (21 : Nat))]) ∈ zG := zG_of 429 rfl rfl
theorem k_430 : (Jvm.Cond.methodLink "TabledExecutiveLaw" (33 : Nat) ({ cls := "TabledExecutive", name := "slot", desc := "(IIII)V" } : Jvm.MethodName)) ∈ zG := zG_of 430 (by decide +kernel) (by decide +kernel)
theorem k_431 : (Jvm.Cond.instanceMethod ({ cls := "TabledExecutive", name := "slot", desc := "(IIII)V" } : Jvm.MethodName)) ∈ zG := zG_of 431 (by decide +kernel) (by decide +kernel)
theorem k_432 : (Jvm.Cond.selects "TabledExecutive" ({ cls := "TabledExecutive", name := "slot", desc := "(IIII)V" } : Jvm.MethodName) ({ cls := "TabledExecutive", name := "slot", desc := "(IIII)V" } : Jvm.MethodName)) ∈ zG := zG_of 432 (by decide +kernel) (by decide +kernel)
set_option maxRecDepth 20000 in
theorem k_433 : (Jvm.Cond.code ({ cls := "TabledExecutive", name := "slot", desc := "(IIII)V" } : Jvm.MethodName) prog_1_method_8_code (5 : Nat) (Option.none : Option Jvm.ClassFile.FieldType)) ∈ zG := zG_of 433 rfl rfl
theorem k_434 : (Jvm.Cond.methodLink "TabledExecutive" (107 : Nat) ({ cls := "java/lang/Math", name := "min", desc := "(II)I" } : Jvm.MethodName)) ∈ zG := zG_of 434 (by decide +kernel) (by decide +kernel)
theorem k_435 : (Jvm.Cond.static ({ cls := "java/lang/Math", name := "min", desc := "(II)I" } : Jvm.MethodName)) ∈ zG := zG_of 435 (by decide +kernel) (by decide +kernel)
set_option maxRecDepth 20000 in
theorem k_436 : (Jvm.Cond.code ({ cls := "java/lang/Math", name := "min", desc := "(II)I" } : Jvm.MethodName) prog_14_method_69_code (2 : Nat) (Option.some Jvm.ClassFile.FieldType.int)) ∈ zG := zG_of 436 rfl rfl
theorem k_438 : (Jvm.Cond.methodLink "TabledExecutive" (115 : Nat) ({ cls := "TabledExecutive$Table", name := "put", desc := "(IIII)V" } : Jvm.MethodName)) ∈ zG := zG_of 438 (by decide +kernel) (by decide +kernel)
theorem k_439 : (Jvm.Cond.methodLink "TabledExecutiveLaw" (100 : Nat) ({ cls := "TabledExecutiveLaw", name := "drop", desc := "(LTabledExecutive;)I" } : Jvm.MethodName)) ∈ zG := zG_of 439 (by decide +kernel) (by decide +kernel)
theorem k_440 : (Jvm.Cond.static ({ cls := "TabledExecutiveLaw", name := "drop", desc := "(LTabledExecutive;)I" } : Jvm.MethodName)) ∈ zG := zG_of 440 (by decide +kernel) (by decide +kernel)
set_option maxRecDepth 20000 in
theorem k_441 : (Jvm.Cond.codeWith ({ cls := "TabledExecutiveLaw", name := "drop", desc := "(LTabledExecutive;)I" } : Jvm.MethodName) method_9_code (2 : Nat) (Option.some Jvm.ClassFile.FieldType.int) [((0 : Nat), (4 : Nat), (7 : Nat), (13 : Nat))]) ∈ zG := zG_of 441 rfl rfl
theorem k_442 : (Jvm.Cond.methodLink "TabledExecutiveLaw" (37 : Nat) ({ cls := "TabledExecutive", name := "drop", desc := "()V" } : Jvm.MethodName)) ∈ zG := zG_of 442 (by decide +kernel) (by decide +kernel)
theorem k_443 : (Jvm.Cond.instanceMethod ({ cls := "TabledExecutive", name := "drop", desc := "()V" } : Jvm.MethodName)) ∈ zG := zG_of 443 (by decide +kernel) (by decide +kernel)
theorem k_444 : (Jvm.Cond.selects "TabledExecutive" ({ cls := "TabledExecutive", name := "drop", desc := "()V" } : Jvm.MethodName) ({ cls := "TabledExecutive", name := "drop", desc := "()V" } : Jvm.MethodName)) ∈ zG := zG_of 444 (by decide +kernel) (by decide +kernel)
set_option maxRecDepth 20000 in
theorem k_445 : (Jvm.Cond.code ({ cls := "TabledExecutive", name := "drop", desc := "()V" } : Jvm.MethodName) prog_1_method_9_code (1 : Nat) (Option.none : Option Jvm.ClassFile.FieldType)) ∈ zG := zG_of 445 rfl rfl
theorem k_447 : (Jvm.Cond.methodLink "TabledExecutiveLaw" (107 : Nat) ({ cls := "TabledExecutiveLaw", name := "slotOf", desc := "(LTabledExecutive;II[J)I" } : Jvm.MethodName)) ∈ zG := zG_of 447 (by decide +kernel) (by decide +kernel)
theorem k_448 : (Jvm.Cond.static ({ cls := "TabledExecutiveLaw", name := "slotOf", desc := "(LTabledExecutive;II[J)I" } : Jvm.MethodName)) ∈ zG := zG_of 448 (by decide +kernel) (by decide +kernel)
set_option maxRecDepth 20000 in
theorem k_449 : (Jvm.Cond.codeWith ({ cls := "TabledExecutiveLaw", name := "slotOf", desc := "(LTabledExecutive;II[J)I" } : Jvm.MethodName) method_10_code (5 : Nat) (Option.some Jvm.ClassFile.FieldType.int) [((0 : Nat), (10 : Nat), (13 : Nat), (15 : Nat))]) ∈ zG := zG_of 449 rfl rfl
theorem k_450 : (Jvm.Cond.methodLink "TabledExecutiveLaw" (40 : Nat) ({ cls := "TabledExecutive", name := "slotOf", desc := "(II)I" } : Jvm.MethodName)) ∈ zG := zG_of 450 (by decide +kernel) (by decide +kernel)
theorem k_451 : (Jvm.Cond.instanceMethod ({ cls := "TabledExecutive", name := "slotOf", desc := "(II)I" } : Jvm.MethodName)) ∈ zG := zG_of 451 (by decide +kernel) (by decide +kernel)
theorem k_452 : (Jvm.Cond.selects "TabledExecutive" ({ cls := "TabledExecutive", name := "slotOf", desc := "(II)I" } : Jvm.MethodName) ({ cls := "TabledExecutive", name := "slotOf", desc := "(II)I" } : Jvm.MethodName)) ∈ zG := zG_of 452 (by decide +kernel) (by decide +kernel)
set_option maxRecDepth 20000 in
theorem k_453 : (Jvm.Cond.code ({ cls := "TabledExecutive", name := "slotOf", desc := "(II)I" } : Jvm.MethodName) prog_1_method_11_code (3 : Nat) (Option.some Jvm.ClassFile.FieldType.int)) ∈ zG := zG_of 453 rfl rfl
theorem k_454 : (Jvm.Cond.methodLink "TabledExecutive" (121 : Nat) ({ cls := "TabledExecutive$Table", name := "part", desc := "(II)I" } : Jvm.MethodName)) ∈ zG := zG_of 454 (by decide +kernel) (by decide +kernel)
theorem k_455 : (Jvm.Cond.instanceMethod ({ cls := "TabledExecutive$Table", name := "part", desc := "(II)I" } : Jvm.MethodName)) ∈ zG := zG_of 455 (by decide +kernel) (by decide +kernel)
theorem k_456 : (Jvm.Cond.selects "TabledExecutive$Table" ({ cls := "TabledExecutive$Table", name := "part", desc := "(II)I" } : Jvm.MethodName) ({ cls := "TabledExecutive$Table", name := "part", desc := "(II)I" } : Jvm.MethodName)) ∈ zG := zG_of 456 (by decide +kernel) (by decide +kernel)
set_option maxRecDepth 20000 in
theorem k_457 : (Jvm.Cond.code ({ cls := "TabledExecutive$Table", name := "part", desc := "(II)I" } : Jvm.MethodName) prog_5_method_2_code (3 : Nat) (Option.some Jvm.ClassFile.FieldType.int)) ∈ zG := zG_of 457 rfl rfl
theorem k_458 : (Jvm.Cond.methodLink "TabledExecutiveLaw" (111 : Nat) ({ cls := "TabledExecutiveLaw", name := "check", desc := "(LTabledExecutive;[J)I" } : Jvm.MethodName)) ∈ zG := zG_of 458 (by decide +kernel) (by decide +kernel)
theorem k_459 : (Jvm.Cond.static ({ cls := "TabledExecutiveLaw", name := "check", desc := "(LTabledExecutive;[J)I" } : Jvm.MethodName)) ∈ zG := zG_of 459 (by decide +kernel) (by decide +kernel)
set_option maxRecDepth 20000 in
theorem k_460 : (Jvm.Cond.codeWith ({ cls := "TabledExecutiveLaw", name := "check", desc := "(LTabledExecutive;[J)I" } : Jvm.MethodName) method_11_code (3 : Nat) (Option.some Jvm.ClassFile.FieldType.int) [((0 : Nat), (15 : Nat), (18 : Nat), (13 : Nat))]) ∈ zG := zG_of 460 rfl rfl
theorem k_461 : (Jvm.Cond.methodLink "TabledExecutiveLaw" (44 : Nat) ({ cls := "TabledExecutive", name := "check", desc := "()Z" } : Jvm.MethodName)) ∈ zG := zG_of 461 (by decide +kernel) (by decide +kernel)
theorem k_462 : (Jvm.Cond.instanceMethod ({ cls := "TabledExecutive", name := "check", desc := "()Z" } : Jvm.MethodName)) ∈ zG := zG_of 462 (by decide +kernel) (by decide +kernel)
theorem k_463 : (Jvm.Cond.selects "TabledExecutive" ({ cls := "TabledExecutive", name := "check", desc := "()Z" } : Jvm.MethodName) ({ cls := "TabledExecutive", name := "check", desc := "()Z" } : Jvm.MethodName)) ∈ zG := zG_of 463 (by decide +kernel) (by decide +kernel)
set_option maxRecDepth 20000 in
theorem k_464 : (Jvm.Cond.code ({ cls := "TabledExecutive", name := "check", desc := "()Z" } : Jvm.MethodName) prog_1_method_12_code (2 : Nat) (Option.some Jvm.ClassFile.FieldType.boolean)) ∈ zG := zG_of 464 rfl rfl
theorem k_465 : (Jvm.Cond.methodLink "TabledExecutive" (124 : Nat) ({ cls := "TabledExecutive$Table", name := "spread", desc := "([II)Z" } : Jvm.MethodName)) ∈ zG := zG_of 465 (by decide +kernel) (by decide +kernel)
theorem k_466 : (Jvm.Cond.instanceMethod ({ cls := "TabledExecutive$Table", name := "spread", desc := "([II)Z" } : Jvm.MethodName)) ∈ zG := zG_of 466 (by decide +kernel) (by decide +kernel)
theorem k_467 : (Jvm.Cond.selects "TabledExecutive$Table" ({ cls := "TabledExecutive$Table", name := "spread", desc := "([II)Z" } : Jvm.MethodName) ({ cls := "TabledExecutive$Table", name := "spread", desc := "([II)Z" } : Jvm.MethodName)) ∈ zG := zG_of 467 (by decide +kernel) (by decide +kernel)
set_option maxRecDepth 20000 in
theorem k_468 : (Jvm.Cond.code ({ cls := "TabledExecutive$Table", name := "spread", desc := "([II)Z" } : Jvm.MethodName) prog_5_method_5_code (5 : Nat) (Option.some Jvm.ClassFile.FieldType.boolean)) ∈ zG := zG_of 468 rfl rfl
theorem k_469 : (Jvm.Cond.methodLink "TabledExecutive$Table" (29 : Nat) ({ cls := "java/util/Arrays", name := "fill", desc := "([II)V" } : Jvm.MethodName)) ∈ zG := zG_of 469 (by decide +kernel) (by decide +kernel)
theorem k_470 : (Jvm.Cond.methodLink "TabledExecutive" (127 : Nat) ({ cls := "TabledExecutive$TaskList", name := "areServed", desc := "([II)Z" } : Jvm.MethodName)) ∈ zG := zG_of 470 (by decide +kernel) (by decide +kernel)
theorem k_471 : (Jvm.Cond.instanceMethod ({ cls := "TabledExecutive$TaskList", name := "areServed", desc := "([II)Z" } : Jvm.MethodName)) ∈ zG := zG_of 471 (by decide +kernel) (by decide +kernel)
theorem k_472 : (Jvm.Cond.selects "TabledExecutive$TaskList" ({ cls := "TabledExecutive$TaskList", name := "areServed", desc := "([II)Z" } : Jvm.MethodName) ({ cls := "TabledExecutive$TaskList", name := "areServed", desc := "([II)Z" } : Jvm.MethodName)) ∈ zG := zG_of 472 (by decide +kernel) (by decide +kernel)
set_option maxRecDepth 20000 in
theorem k_473 : (Jvm.Cond.code ({ cls := "TabledExecutive$TaskList", name := "areServed", desc := "([II)Z" } : Jvm.MethodName) prog_7_method_7_code (4 : Nat) (Option.some Jvm.ClassFile.FieldType.boolean)) ∈ zG := zG_of 473 rfl rfl
theorem k_474 : (Jvm.Cond.methodLink "TabledExecutive$TaskList" (50 : Nat) ({ cls := "TabledExecutive$Task", name := "isServed", desc := "(I[II)Z" } : Jvm.MethodName)) ∈ zG := zG_of 474 (by decide +kernel) (by decide +kernel)
theorem k_475 : (Jvm.Cond.instanceMethod ({ cls := "TabledExecutive$Task", name := "isServed", desc := "(I[II)Z" } : Jvm.MethodName)) ∈ zG := zG_of 475 (by decide +kernel) (by decide +kernel)
theorem k_476 : (Jvm.Cond.selects "TabledExecutive$Task" ({ cls := "TabledExecutive$Task", name := "isServed", desc := "(I[II)Z" } : Jvm.MethodName) ({ cls := "TabledExecutive$Task", name := "isServed", desc := "(I[II)Z" } : Jvm.MethodName)) ∈ zG := zG_of 476 (by decide +kernel) (by decide +kernel)
set_option maxRecDepth 20000 in
theorem k_477 : (Jvm.Cond.code ({ cls := "TabledExecutive$Task", name := "isServed", desc := "(I[II)Z" } : Jvm.MethodName) prog_6_method_5_code (6 : Nat) (Option.some Jvm.ClassFile.FieldType.boolean)) ∈ zG := zG_of 477 rfl rfl
theorem k_478 : (Jvm.Cond.methodLink "TabledExecutive$Task" (51 : Nat) ({ cls := "TabledExecutive$Task", name := "ticksOf", desc := "(III[II)I" } : Jvm.MethodName)) ∈ zG := zG_of 478 (by decide +kernel) (by decide +kernel)
theorem k_479 : (Jvm.Cond.static ({ cls := "TabledExecutive$Task", name := "ticksOf", desc := "(III[II)I" } : Jvm.MethodName)) ∈ zG := zG_of 479 (by decide +kernel) (by decide +kernel)
set_option maxRecDepth 20000 in
theorem k_480 : (Jvm.Cond.code ({ cls := "TabledExecutive$Task", name := "ticksOf", desc := "(III[II)I" } : Jvm.MethodName) prog_6_method_6_code (7 : Nat) (Option.some Jvm.ClassFile.FieldType.int)) ∈ zG := zG_of 480 rfl rfl
theorem k_481 : (Jvm.Cond.methodLink "TabledExecutive" (130 : Nat) ({ cls := "TabledExecutive", name := "startRun", desc := "(I)V" } : Jvm.MethodName)) ∈ zG := zG_of 481 (by decide +kernel) (by decide +kernel)
theorem k_483 : (Jvm.Cond.instanceMethod ({ cls := "TabledExecutive", name := "startRun", desc := "(I)V" } : Jvm.MethodName)) ∈ zG := zG_of 483 (by decide +kernel) (by decide +kernel)
set_option maxRecDepth 20000 in
theorem k_484 : (Jvm.Cond.code ({ cls := "TabledExecutive", name := "startRun", desc := "(I)V" } : Jvm.MethodName) prog_1_method_23_code (3 : Nat) (Option.none : Option Jvm.ClassFile.FieldType)) ∈ zG := zG_of 484 rfl rfl
theorem k_485 : (Jvm.Cond.methodLink "TabledExecutive" (157 : Nat) ({ cls := "java/util/Arrays", name := "fill", desc := "([II)V" } : Jvm.MethodName)) ∈ zG := zG_of 485 (by decide +kernel) (by decide +kernel)
theorem k_486 : (Jvm.Cond.methodLink "TabledExecutive" (163 : Nat) ({ cls := "TabledExecutive$Task", name := "forgetRun", desc := "()V" } : Jvm.MethodName)) ∈ zG := zG_of 486 (by decide +kernel) (by decide +kernel)
theorem k_487 : (Jvm.Cond.methodLink "TabledExecutiveLaw" (114 : Nat) ({ cls := "TabledExecutiveLaw", name := "stop", desc := "(LTabledExecutive;)I" } : Jvm.MethodName)) ∈ zG := zG_of 487 (by decide +kernel) (by decide +kernel)
theorem k_488 : (Jvm.Cond.static ({ cls := "TabledExecutiveLaw", name := "stop", desc := "(LTabledExecutive;)I" } : Jvm.MethodName)) ∈ zG := zG_of 488 (by decide +kernel) (by decide +kernel)
set_option maxRecDepth 20000 in
theorem k_489 : (Jvm.Cond.codeWith ({ cls := "TabledExecutiveLaw", name := "stop", desc := "(LTabledExecutive;)I" } : Jvm.MethodName) method_12_code (2 : Nat) (Option.some Jvm.ClassFile.FieldType.int) [((0 : Nat), (4 : Nat), (7 : Nat), (13 : Nat))]) ∈ zG := zG_of 489 rfl rfl
theorem k_490 : (Jvm.Cond.methodLink "TabledExecutiveLaw" (48 : Nat) ({ cls := "TabledExecutive", name := "stop", desc := "()V" } : Jvm.MethodName)) ∈ zG := zG_of 490 (by decide +kernel) (by decide +kernel)
theorem k_491 : (Jvm.Cond.instanceMethod ({ cls := "TabledExecutive", name := "stop", desc := "()V" } : Jvm.MethodName)) ∈ zG := zG_of 491 (by decide +kernel) (by decide +kernel)
theorem k_492 : (Jvm.Cond.selects "TabledExecutive" ({ cls := "TabledExecutive", name := "stop", desc := "()V" } : Jvm.MethodName) ({ cls := "TabledExecutive", name := "stop", desc := "()V" } : Jvm.MethodName)) ∈ zG := zG_of 492 (by decide +kernel) (by decide +kernel)
set_option maxRecDepth 20000 in
theorem k_493 : (Jvm.Cond.code ({ cls := "TabledExecutive", name := "stop", desc := "()V" } : Jvm.MethodName) prog_1_method_13_code (1 : Nat) (Option.none : Option Jvm.ClassFile.FieldType)) ∈ zG := zG_of 493 rfl rfl
theorem k_494 : (Jvm.Cond.methodLink "TabledExecutive" (134 : Nat) ({ cls := "TabledExecutive", name := "needRun", desc := "()V" } : Jvm.MethodName)) ∈ zG := zG_of 494 (by decide +kernel) (by decide +kernel)
theorem k_496 : (Jvm.Cond.instanceMethod ({ cls := "TabledExecutive", name := "needRun", desc := "()V" } : Jvm.MethodName)) ∈ zG := zG_of 496 (by decide +kernel) (by decide +kernel)
set_option maxRecDepth 20000 in
theorem k_497 : (Jvm.Cond.code ({ cls := "TabledExecutive", name := "needRun", desc := "()V" } : Jvm.MethodName) prog_1_method_20_code (1 : Nat) (Option.none : Option Jvm.ClassFile.FieldType)) ∈ zG := zG_of 497 rfl rfl
theorem k_499 : (Jvm.Cond.methodLink "TabledExecutiveLaw" (117 : Nat) ({ cls := "TabledExecutiveLaw", name := "tick", desc := "(LTabledExecutive;[J)I" } : Jvm.MethodName)) ∈ zG := zG_of 499 (by decide +kernel) (by decide +kernel)
theorem k_500 : (Jvm.Cond.static ({ cls := "TabledExecutiveLaw", name := "tick", desc := "(LTabledExecutive;[J)I" } : Jvm.MethodName)) ∈ zG := zG_of 500 (by decide +kernel) (by decide +kernel)
set_option maxRecDepth 20000 in
theorem k_501 : (Jvm.Cond.codeWith ({ cls := "TabledExecutiveLaw", name := "tick", desc := "(LTabledExecutive;[J)I" } : Jvm.MethodName) method_13_code (3 : Nat) (Option.some Jvm.ClassFile.FieldType.int) [((0 : Nat), (8 : Nat), (11 : Nat), (13 : Nat))]) ∈ zG := zG_of 501 rfl rfl
theorem k_502 : (Jvm.Cond.methodLink "TabledExecutiveLaw" (51 : Nat) ({ cls := "TabledExecutive", name := "tick", desc := "()I" } : Jvm.MethodName)) ∈ zG := zG_of 502 (by decide +kernel) (by decide +kernel)
theorem k_503 : (Jvm.Cond.instanceMethod ({ cls := "TabledExecutive", name := "tick", desc := "()I" } : Jvm.MethodName)) ∈ zG := zG_of 503 (by decide +kernel) (by decide +kernel)
theorem k_504 : (Jvm.Cond.selects "TabledExecutive" ({ cls := "TabledExecutive", name := "tick", desc := "()I" } : Jvm.MethodName) ({ cls := "TabledExecutive", name := "tick", desc := "()I" } : Jvm.MethodName)) ∈ zG := zG_of 504 (by decide +kernel) (by decide +kernel)
set_option maxRecDepth 20000 in
theorem k_505 : (Jvm.Cond.code ({ cls := "TabledExecutive", name := "tick", desc := "()I" } : Jvm.MethodName) prog_1_method_14_code (1 : Nat) (Option.some Jvm.ClassFile.FieldType.int)) ∈ zG := zG_of 505 rfl rfl
theorem k_506 : (Jvm.Cond.methodLink "TabledExecutive" (137 : Nat) ({ cls := "TabledExecutive", name := "runTick", desc := "()I" } : Jvm.MethodName)) ∈ zG := zG_of 506 (by decide +kernel) (by decide +kernel)
theorem k_508 : (Jvm.Cond.instanceMethod ({ cls := "TabledExecutive", name := "runTick", desc := "()I" } : Jvm.MethodName)) ∈ zG := zG_of 508 (by decide +kernel) (by decide +kernel)
set_option maxRecDepth 20000 in
theorem k_509 : (Jvm.Cond.code ({ cls := "TabledExecutive", name := "runTick", desc := "()I" } : Jvm.MethodName) prog_1_method_24_code (3 : Nat) (Option.some Jvm.ClassFile.FieldType.int)) ∈ zG := zG_of 509 rfl rfl
theorem k_510 : (Jvm.Cond.methodLink "TabledExecutive" (166 : Nat) ({ cls := "TabledExecutive$TaskList", name := "releaseJobs", desc := "(I)V" } : Jvm.MethodName)) ∈ zG := zG_of 510 (by decide +kernel) (by decide +kernel)
theorem k_511 : (Jvm.Cond.instanceMethod ({ cls := "TabledExecutive$TaskList", name := "releaseJobs", desc := "(I)V" } : Jvm.MethodName)) ∈ zG := zG_of 511 (by decide +kernel) (by decide +kernel)
theorem k_512 : (Jvm.Cond.selects "TabledExecutive$TaskList" ({ cls := "TabledExecutive$TaskList", name := "releaseJobs", desc := "(I)V" } : Jvm.MethodName) ({ cls := "TabledExecutive$TaskList", name := "releaseJobs", desc := "(I)V" } : Jvm.MethodName)) ∈ zG := zG_of 512 (by decide +kernel) (by decide +kernel)
set_option maxRecDepth 20000 in
theorem k_513 : (Jvm.Cond.code ({ cls := "TabledExecutive$TaskList", name := "releaseJobs", desc := "(I)V" } : Jvm.MethodName) prog_7_method_8_code (3 : Nat) (Option.none : Option Jvm.ClassFile.FieldType)) ∈ zG := zG_of 513 rfl rfl
theorem k_514 : (Jvm.Cond.methodLink "TabledExecutive$TaskList" (54 : Nat) ({ cls := "TabledExecutive$Task", name := "releasesAt", desc := "(I)Z" } : Jvm.MethodName)) ∈ zG := zG_of 514 (by decide +kernel) (by decide +kernel)
theorem k_515 : (Jvm.Cond.methodLink "TabledExecutive$TaskList" (61 : Nat) ({ cls := "TabledExecutive$Job", name := "start", desc := "(II)V" } : Jvm.MethodName)) ∈ zG := zG_of 515 (by decide +kernel) (by decide +kernel)
theorem k_516 : (Jvm.Cond.instanceMethod ({ cls := "TabledExecutive$Job", name := "start", desc := "(II)V" } : Jvm.MethodName)) ∈ zG := zG_of 516 (by decide +kernel) (by decide +kernel)
theorem k_517 : (Jvm.Cond.selects "TabledExecutive$Job" ({ cls := "TabledExecutive$Job", name := "start", desc := "(II)V" } : Jvm.MethodName) ({ cls := "TabledExecutive$Job", name := "start", desc := "(II)V" } : Jvm.MethodName)) ∈ zG := zG_of 517 (by decide +kernel) (by decide +kernel)
set_option maxRecDepth 20000 in
theorem k_518 : (Jvm.Cond.code ({ cls := "TabledExecutive$Job", name := "start", desc := "(II)V" } : Jvm.MethodName) prog_2_method_2_code (3 : Nat) (Option.none : Option Jvm.ClassFile.FieldType)) ∈ zG := zG_of 518 rfl rfl
theorem k_519 : (Jvm.Cond.methodLink "TabledExecutive$Job" (15 : Nat) ({ cls := "java/util/Arrays", name := "fill", desc := "([II)V" } : Jvm.MethodName)) ∈ zG := zG_of 519 (by decide +kernel) (by decide +kernel)
theorem k_520 : (Jvm.Cond.methodLink "TabledExecutive" (169 : Nat) ({ cls := "java/lang/Math", name := "floorMod", desc := "(II)I" } : Jvm.MethodName)) ∈ zG := zG_of 520 (by decide +kernel) (by decide +kernel)
theorem k_521 : (Jvm.Cond.static ({ cls := "java/lang/Math", name := "floorMod", desc := "(II)I" } : Jvm.MethodName)) ∈ zG := zG_of 521 (by decide +kernel) (by decide +kernel)
set_option maxRecDepth 20000 in
theorem k_522 : (Jvm.Cond.code ({ cls := "java/lang/Math", name := "floorMod", desc := "(II)I" } : Jvm.MethodName) prog_14_method_50_code (3 : Nat) (Option.some Jvm.ClassFile.FieldType.int)) ∈ zG := zG_of 522 rfl rfl
theorem k_523 : (Jvm.Cond.methodLink "TabledExecutive" (181 : Nat) ({ cls := "TabledExecutive", name := "serve", desc := "(LTabledExecutive$Task;)I" } : Jvm.MethodName)) ∈ zG := zG_of 523 (by decide +kernel) (by decide +kernel)
theorem k_525 : (Jvm.Cond.instanceMethod ({ cls := "TabledExecutive", name := "serve", desc := "(LTabledExecutive$Task;)I" } : Jvm.MethodName)) ∈ zG := zG_of 525 (by decide +kernel) (by decide +kernel)
set_option maxRecDepth 20000 in
theorem k_526 : (Jvm.Cond.code ({ cls := "TabledExecutive", name := "serve", desc := "(LTabledExecutive$Task;)I" } : Jvm.MethodName) prog_1_method_25_code (4 : Nat) (Option.some Jvm.ClassFile.FieldType.int)) ∈ zG := zG_of 526 rfl rfl
theorem k_527 : (Jvm.Cond.methodLink "TabledExecutive" (185 : Nat) ({ cls := "TabledExecutive$Machine", name := "step", desc := "(LTabledExecutive$Job;)I" } : Jvm.MethodName)) ∈ zG := zG_of 527 (by decide +kernel) (by decide +kernel)
theorem k_528 : (Jvm.Cond.instanceMethod ({ cls := "TabledExecutive$Machine", name := "step", desc := "(LTabledExecutive$Job;)I" } : Jvm.MethodName)) ∈ zG := zG_of 528 (by decide +kernel) (by decide +kernel)
theorem k_529 : (Jvm.Cond.selects "TabledExecutive$Machine" ({ cls := "TabledExecutive$Machine", name := "step", desc := "(LTabledExecutive$Job;)I" } : Jvm.MethodName) ({ cls := "TabledExecutive$Machine", name := "step", desc := "(LTabledExecutive$Job;)I" } : Jvm.MethodName)) ∈ zG := zG_of 529 (by decide +kernel) (by decide +kernel)
set_option maxRecDepth 20000 in
theorem k_530 : (Jvm.Cond.code ({ cls := "TabledExecutive$Machine", name := "step", desc := "(LTabledExecutive$Job;)I" } : Jvm.MethodName) prog_3_method_2_code (7 : Nat) (Option.some Jvm.ClassFile.FieldType.int)) ∈ zG := zG_of 530 rfl rfl
theorem k_531 : (Jvm.Cond.methodLink "TabledExecutive$Machine" (24 : Nat) ({ cls := "TabledExecutive$Machine", name := "placeOf", desc := "(I)I" } : Jvm.MethodName)) ∈ zG := zG_of 531 (by decide +kernel) (by decide +kernel)
theorem k_532 : (Jvm.Cond.static ({ cls := "TabledExecutive$Machine", name := "placeOf", desc := "(I)I" } : Jvm.MethodName)) ∈ zG := zG_of 532 (by decide +kernel) (by decide +kernel)
set_option maxRecDepth 20000 in
theorem k_533 : (Jvm.Cond.code ({ cls := "TabledExecutive$Machine", name := "placeOf", desc := "(I)I" } : Jvm.MethodName) prog_3_method_4_code (1 : Nat) (Option.some Jvm.ClassFile.FieldType.int)) ∈ zG := zG_of 533 rfl rfl
theorem k_534 : (Jvm.Cond.methodLink "TabledExecutive$Machine" (31 : Nat) ({ cls := "TabledExecutive$Machine", name := "jumpIf", desc := "(ZILTabledExecutive$Job;)V" } : Jvm.MethodName)) ∈ zG := zG_of 534 (by decide +kernel) (by decide +kernel)
theorem k_535 : (Jvm.Cond.static ({ cls := "TabledExecutive$Machine", name := "jumpIf", desc := "(ZILTabledExecutive$Job;)V" } : Jvm.MethodName)) ∈ zG := zG_of 535 (by decide +kernel) (by decide +kernel)
set_option maxRecDepth 20000 in
theorem k_536 : (Jvm.Cond.code ({ cls := "TabledExecutive$Machine", name := "jumpIf", desc := "(ZILTabledExecutive$Job;)V" } : Jvm.MethodName) prog_3_method_3_code (3 : Nat) (Option.none : Option Jvm.ClassFile.FieldType)) ∈ zG := zG_of 536 rfl rfl
theorem k_537 : (Jvm.Cond.methodLink "TabledExecutive" (195 : Nat) ({ cls := "TabledExecutive$Task", name := "endJob", desc := "(II)V" } : Jvm.MethodName)) ∈ zG := zG_of 537 (by decide +kernel) (by decide +kernel)
theorem k_538 : (Jvm.Cond.instanceMethod ({ cls := "TabledExecutive$Task", name := "endJob", desc := "(II)V" } : Jvm.MethodName)) ∈ zG := zG_of 538 (by decide +kernel) (by decide +kernel)
theorem k_539 : (Jvm.Cond.selects "TabledExecutive$Task" ({ cls := "TabledExecutive$Task", name := "endJob", desc := "(II)V" } : Jvm.MethodName) ({ cls := "TabledExecutive$Task", name := "endJob", desc := "(II)V" } : Jvm.MethodName)) ∈ zG := zG_of 539 (by decide +kernel) (by decide +kernel)
set_option maxRecDepth 20000 in
theorem k_540 : (Jvm.Cond.code ({ cls := "TabledExecutive$Task", name := "endJob", desc := "(II)V" } : Jvm.MethodName) prog_6_method_4_code (3 : Nat) (Option.none : Option Jvm.ClassFile.FieldType)) ∈ zG := zG_of 540 rfl rfl
theorem k_541 : (Jvm.Cond.methodLink "TabledExecutive$Task" (42 : Nat) ({ cls := "java/lang/Math", name := "max", desc := "(II)I" } : Jvm.MethodName)) ∈ zG := zG_of 541 (by decide +kernel) (by decide +kernel)
theorem k_542 : (Jvm.Cond.methodLink "TabledExecutiveLaw" (120 : Nat) ({ cls := "TabledExecutiveLaw", name := "ticks", desc := "(LTabledExecutive;I[J)I" } : Jvm.MethodName)) ∈ zG := zG_of 542 (by decide +kernel) (by decide +kernel)
theorem k_543 : (Jvm.Cond.static ({ cls := "TabledExecutiveLaw", name := "ticks", desc := "(LTabledExecutive;I[J)I" } : Jvm.MethodName)) ∈ zG := zG_of 543 (by decide +kernel) (by decide +kernel)
set_option maxRecDepth 20000 in
theorem k_544 : (Jvm.Cond.codeWith ({ cls := "TabledExecutiveLaw", name := "ticks", desc := "(LTabledExecutive;I[J)I" } : Jvm.MethodName) method_14_code (4 : Nat) (Option.some Jvm.ClassFile.FieldType.int) [((0 : Nat), (9 : Nat), (12 : Nat), (13 : Nat)), ((0 : Nat), (9 : Nat), (15 : Nat), (21 : Nat))]) ∈ zG := zG_of 544 rfl rfl
theorem k_545 : (Jvm.Cond.methodLink "TabledExecutiveLaw" (54 : Nat) ({ cls := "TabledExecutive", name := "ticks", desc := "(I)I" } : Jvm.MethodName)) ∈ zG := zG_of 545 (by decide +kernel) (by decide +kernel)
theorem k_546 : (Jvm.Cond.instanceMethod ({ cls := "TabledExecutive", name := "ticks", desc := "(I)I" } : Jvm.MethodName)) ∈ zG := zG_of 546 (by decide +kernel) (by decide +kernel)
theorem k_547 : (Jvm.Cond.selects "TabledExecutive" ({ cls := "TabledExecutive", name := "ticks", desc := "(I)I" } : Jvm.MethodName) ({ cls := "TabledExecutive", name := "ticks", desc := "(I)I" } : Jvm.MethodName)) ∈ zG := zG_of 547 (by decide +kernel) (by decide +kernel)
set_option maxRecDepth 20000 in
theorem k_548 : (Jvm.Cond.code ({ cls := "TabledExecutive", name := "ticks", desc := "(I)I" } : Jvm.MethodName) prog_1_method_15_code (4 : Nat) (Option.some Jvm.ClassFile.FieldType.int)) ∈ zG := zG_of 548 rfl rfl
theorem k_550 : (Jvm.Cond.methodLink "TabledExecutiveLaw" (128 : Nat) ({ cls := "TabledExecutiveLaw", name := "count", desc := "(LTabledExecutive;II[J)I" } : Jvm.MethodName)) ∈ zG := zG_of 550 (by decide +kernel) (by decide +kernel)
theorem k_551 : (Jvm.Cond.static ({ cls := "TabledExecutiveLaw", name := "count", desc := "(LTabledExecutive;II[J)I" } : Jvm.MethodName)) ∈ zG := zG_of 551 (by decide +kernel) (by decide +kernel)
set_option maxRecDepth 20000 in
theorem k_552 : (Jvm.Cond.codeWith ({ cls := "TabledExecutiveLaw", name := "count", desc := "(LTabledExecutive;II[J)I" } : Jvm.MethodName) method_15_code (5 : Nat) (Option.some Jvm.ClassFile.FieldType.int) [((0 : Nat), (10 : Nat), (13 : Nat), (15 : Nat))]) ∈ zG := zG_of 552 rfl rfl
theorem k_553 : (Jvm.Cond.methodLink "TabledExecutiveLaw" (58 : Nat) ({ cls := "TabledExecutive", name := "count", desc := "(II)I" } : Jvm.MethodName)) ∈ zG := zG_of 553 (by decide +kernel) (by decide +kernel)
theorem k_554 : (Jvm.Cond.instanceMethod ({ cls := "TabledExecutive", name := "count", desc := "(II)I" } : Jvm.MethodName)) ∈ zG := zG_of 554 (by decide +kernel) (by decide +kernel)
theorem k_555 : (Jvm.Cond.selects "TabledExecutive" ({ cls := "TabledExecutive", name := "count", desc := "(II)I" } : Jvm.MethodName) ({ cls := "TabledExecutive", name := "count", desc := "(II)I" } : Jvm.MethodName)) ∈ zG := zG_of 555 (by decide +kernel) (by decide +kernel)
set_option maxRecDepth 20000 in
theorem k_556 : (Jvm.Cond.code ({ cls := "TabledExecutive", name := "count", desc := "(II)I" } : Jvm.MethodName) prog_1_method_17_code (3 : Nat) (Option.some Jvm.ClassFile.FieldType.int)) ∈ zG := zG_of 556 rfl rfl
theorem k_557 : (Jvm.Cond.methodLink "TabledExecutiveLaw" (131 : Nat) ({ cls := "TabledExecutiveLaw", name := "shared", desc := "(LTabledExecutive;I[J)I" } : Jvm.MethodName)) ∈ zG := zG_of 557 (by decide +kernel) (by decide +kernel)
theorem k_558 : (Jvm.Cond.static ({ cls := "TabledExecutiveLaw", name := "shared", desc := "(LTabledExecutive;I[J)I" } : Jvm.MethodName)) ∈ zG := zG_of 558 (by decide +kernel) (by decide +kernel)
set_option maxRecDepth 20000 in
theorem k_559 : (Jvm.Cond.codeWith ({ cls := "TabledExecutiveLaw", name := "shared", desc := "(LTabledExecutive;I[J)I" } : Jvm.MethodName) method_16_code (4 : Nat) (Option.some Jvm.ClassFile.FieldType.int) [((0 : Nat), (9 : Nat), (12 : Nat), (15 : Nat))]) ∈ zG := zG_of 559 rfl rfl
theorem k_560 : (Jvm.Cond.methodLink "TabledExecutiveLaw" (61 : Nat) ({ cls := "TabledExecutive", name := "shared", desc := "(I)I" } : Jvm.MethodName)) ∈ zG := zG_of 560 (by decide +kernel) (by decide +kernel)
theorem k_561 : (Jvm.Cond.instanceMethod ({ cls := "TabledExecutive", name := "shared", desc := "(I)I" } : Jvm.MethodName)) ∈ zG := zG_of 561 (by decide +kernel) (by decide +kernel)
theorem k_562 : (Jvm.Cond.selects "TabledExecutive" ({ cls := "TabledExecutive", name := "shared", desc := "(I)I" } : Jvm.MethodName) ({ cls := "TabledExecutive", name := "shared", desc := "(I)I" } : Jvm.MethodName)) ∈ zG := zG_of 562 (by decide +kernel) (by decide +kernel)
set_option maxRecDepth 20000 in
theorem k_563 : (Jvm.Cond.code ({ cls := "TabledExecutive", name := "shared", desc := "(I)I" } : Jvm.MethodName) prog_1_method_18_code (2 : Nat) (Option.some Jvm.ClassFile.FieldType.int)) ∈ zG := zG_of 563 rfl rfl
theorem k_564 : (Jvm.Cond.classLink "TabledExecutiveLaw" (65 : Nat) "TabledExecutiveModel") ∈ zG := zG_of 564 (by decide +kernel) (by decide +kernel)
theorem k_565 : (Jvm.Cond.instantiable "TabledExecutiveModel" (22 : Nat)) ∈ zG := zG_of 565 (by decide +kernel) (by decide +kernel)
theorem k_566 : (Jvm.Cond.methodLink "TabledExecutiveLaw" (67 : Nat) ({ cls := "TabledExecutiveModel", name := "<init>", desc := "()V" } : Jvm.MethodName)) ∈ zG := zG_of 566 (by decide +kernel) (by decide +kernel)
theorem k_567 : (Jvm.Cond.instanceMethod ({ cls := "TabledExecutiveModel", name := "<init>", desc := "()V" } : Jvm.MethodName)) ∈ zG := zG_of 567 (by decide +kernel) (by decide +kernel)
set_option maxRecDepth 20000 in
theorem k_568 : (Jvm.Cond.code ({ cls := "TabledExecutiveModel", name := "<init>", desc := "()V" } : Jvm.MethodName) prog_9_method_1_code (1 : Nat) (Option.none : Option Jvm.ClassFile.FieldType)) ∈ zG := zG_of 568 rfl rfl
theorem k_569 : (Jvm.Cond.methodLink "TabledExecutiveModel" (1 : Nat) ({ cls := "java/lang/Object", name := "<init>", desc := "()V" } : Jvm.MethodName)) ∈ zG := zG_of 569 (by decide +kernel) (by decide +kernel)
theorem k_570 : (Jvm.Cond.fieldLink "TabledExecutiveModel" (62 : Nat) "TabledExecutiveModel" "fault" "I") ∈ zG := zG_of 570 (by decide +kernel) (by decide +kernel)
theorem k_571 : (Jvm.Cond.fieldLink "TabledExecutiveModel" (66 : Nat) "TabledExecutiveModel" "runs" "Z") ∈ zG := zG_of 571 (by decide +kernel) (by decide +kernel)
theorem k_572 : (Jvm.Cond.fieldLink "TabledExecutiveModel" (74 : Nat) "TabledExecutiveModel" "tasks" "I") ∈ zG := zG_of 572 (by decide +kernel) (by decide +kernel)
theorem k_573 : (Jvm.Cond.fieldLink "TabledExecutiveModel" (7 : Nat) "TabledExecutiveModel" "period" "[I") ∈ zG := zG_of 573 (by decide +kernel) (by decide +kernel)
theorem k_574 : (Jvm.Cond.fieldLink "TabledExecutiveModel" (13 : Nat) "TabledExecutiveModel" "work" "[I") ∈ zG := zG_of 574 (by decide +kernel) (by decide +kernel)
theorem k_575 : (Jvm.Cond.fieldLink "TabledExecutiveModel" (16 : Nat) "TabledExecutiveModel" "deadline" "[I") ∈ zG := zG_of 575 (by decide +kernel) (by decide +kernel)
theorem k_576 : (Jvm.Cond.fieldLink "TabledExecutiveModel" (19 : Nat) "TabledExecutiveModel" "offset" "[I") ∈ zG := zG_of 576 (by decide +kernel) (by decide +kernel)
theorem k_577 : (Jvm.Cond.fieldLink "TabledExecutiveModel" (22 : Nat) "TabledExecutiveModel" "entry" "[I") ∈ zG := zG_of 577 (by decide +kernel) (by decide +kernel)
theorem k_578 : (Jvm.Cond.fieldLink "TabledExecutiveModel" (77 : Nat) "TabledExecutiveModel" "slots" "I") ∈ zG := zG_of 578 (by decide +kernel) (by decide +kernel)
theorem k_579 : (Jvm.Cond.fieldLink "TabledExecutiveModel" (25 : Nat) "TabledExecutiveModel" "start" "[I") ∈ zG := zG_of 579 (by decide +kernel) (by decide +kernel)
theorem k_580 : (Jvm.Cond.fieldLink "TabledExecutiveModel" (28 : Nat) "TabledExecutiveModel" "length" "[I") ∈ zG := zG_of 580 (by decide +kernel) (by decide +kernel)
theorem k_581 : (Jvm.Cond.fieldLink "TabledExecutiveModel" (31 : Nat) "TabledExecutiveModel" "owner" "[I") ∈ zG := zG_of 581 (by decide +kernel) (by decide +kernel)
theorem k_582 : (Jvm.Cond.fieldLink "TabledExecutiveModel" (34 : Nat) "TabledExecutiveModel" "code" "[I") ∈ zG := zG_of 582 (by decide +kernel) (by decide +kernel)
theorem k_583 : (Jvm.Cond.fieldLink "TabledExecutiveModel" (37 : Nat) "TabledExecutiveModel" "shared" "[I") ∈ zG := zG_of 583 (by decide +kernel) (by decide +kernel)
theorem k_584 : (Jvm.Cond.fieldLink "TabledExecutiveModel" (111 : Nat) "TabledExecutiveModel" "time" "I") ∈ zG := zG_of 584 (by decide +kernel) (by decide +kernel)
theorem k_585 : (Jvm.Cond.fieldLink "TabledExecutiveModel" (40 : Nat) "TabledExecutiveModel" "lives" "[Z") ∈ zG := zG_of 585 (by decide +kernel) (by decide +kernel)
theorem k_586 : (Jvm.Cond.fieldLink "TabledExecutiveModel" (44 : Nat) "TabledExecutiveModel" "since" "[I") ∈ zG := zG_of 586 (by decide +kernel) (by decide +kernel)
theorem k_587 : (Jvm.Cond.fieldLink "TabledExecutiveModel" (47 : Nat) "TabledExecutiveModel" "had" "[I") ∈ zG := zG_of 587 (by decide +kernel) (by decide +kernel)
theorem k_588 : (Jvm.Cond.fieldLink "TabledExecutiveModel" (50 : Nat) "TabledExecutiveModel" "place" "[I") ∈ zG := zG_of 588 (by decide +kernel) (by decide +kernel)
theorem k_589 : (Jvm.Cond.fieldLink "TabledExecutiveModel" (53 : Nat) "TabledExecutiveModel" "register" "[I") ∈ zG := zG_of 589 (by decide +kernel) (by decide +kernel)
theorem k_590 : (Jvm.Cond.fieldLink "TabledExecutiveModel" (56 : Nat) "TabledExecutiveModel" "counted" "[I") ∈ zG := zG_of 590 (by decide +kernel) (by decide +kernel)
theorem k_591 : (Jvm.Cond.fieldLink "TabledExecutiveModel" (59 : Nat) "TabledExecutiveModel" "goes" "[I") ∈ zG := zG_of 591 (by decide +kernel) (by decide +kernel)
theorem k_592 : (Jvm.Cond.lays "TabledExecutiveModel" "TabledExecutiveModel" "fault" "I") ∈ zG := zG_of 592 (by decide +kernel) (by decide +kernel)
theorem k_594 : (Jvm.Cond.lays "TabledExecutiveModel" "TabledExecutiveModel" "runs" "Z") ∈ zG := zG_of 594 (by decide +kernel) (by decide +kernel)
theorem k_596 : (Jvm.Cond.lays "TabledExecutiveModel" "TabledExecutiveModel" "tasks" "I") ∈ zG := zG_of 596 (by decide +kernel) (by decide +kernel)
theorem k_598 : (Jvm.Cond.laysFinal "TabledExecutiveModel" "TabledExecutiveModel" "period" "[I") ∈ zG := zG_of 598 (by decide +kernel) (by decide +kernel)
theorem k_600 : (Jvm.Cond.laysFinal "TabledExecutiveModel" "TabledExecutiveModel" "work" "[I") ∈ zG := zG_of 600 (by decide +kernel) (by decide +kernel)
theorem k_602 : (Jvm.Cond.laysFinal "TabledExecutiveModel" "TabledExecutiveModel" "deadline" "[I") ∈ zG := zG_of 602 (by decide +kernel) (by decide +kernel)
theorem k_604 : (Jvm.Cond.laysFinal "TabledExecutiveModel" "TabledExecutiveModel" "offset" "[I") ∈ zG := zG_of 604 (by decide +kernel) (by decide +kernel)
theorem k_606 : (Jvm.Cond.laysFinal "TabledExecutiveModel" "TabledExecutiveModel" "entry" "[I") ∈ zG := zG_of 606 (by decide +kernel) (by decide +kernel)
theorem k_608 : (Jvm.Cond.lays "TabledExecutiveModel" "TabledExecutiveModel" "slots" "I") ∈ zG := zG_of 608 (by decide +kernel) (by decide +kernel)
theorem k_610 : (Jvm.Cond.laysFinal "TabledExecutiveModel" "TabledExecutiveModel" "start" "[I") ∈ zG := zG_of 610 (by decide +kernel) (by decide +kernel)
theorem k_612 : (Jvm.Cond.laysFinal "TabledExecutiveModel" "TabledExecutiveModel" "length" "[I") ∈ zG := zG_of 612 (by decide +kernel) (by decide +kernel)
theorem k_614 : (Jvm.Cond.laysFinal "TabledExecutiveModel" "TabledExecutiveModel" "owner" "[I") ∈ zG := zG_of 614 (by decide +kernel) (by decide +kernel)
theorem k_616 : (Jvm.Cond.laysFinal "TabledExecutiveModel" "TabledExecutiveModel" "code" "[I") ∈ zG := zG_of 616 (by decide +kernel) (by decide +kernel)
theorem k_618 : (Jvm.Cond.laysFinal "TabledExecutiveModel" "TabledExecutiveModel" "shared" "[I") ∈ zG := zG_of 618 (by decide +kernel) (by decide +kernel)
theorem k_620 : (Jvm.Cond.lays "TabledExecutiveModel" "TabledExecutiveModel" "time" "I") ∈ zG := zG_of 620 (by decide +kernel) (by decide +kernel)
theorem k_622 : (Jvm.Cond.laysFinal "TabledExecutiveModel" "TabledExecutiveModel" "lives" "[Z") ∈ zG := zG_of 622 (by decide +kernel) (by decide +kernel)
theorem k_624 : (Jvm.Cond.laysFinal "TabledExecutiveModel" "TabledExecutiveModel" "since" "[I") ∈ zG := zG_of 624 (by decide +kernel) (by decide +kernel)
theorem k_626 : (Jvm.Cond.laysFinal "TabledExecutiveModel" "TabledExecutiveModel" "had" "[I") ∈ zG := zG_of 626 (by decide +kernel) (by decide +kernel)
theorem k_628 : (Jvm.Cond.laysFinal "TabledExecutiveModel" "TabledExecutiveModel" "place" "[I") ∈ zG := zG_of 628 (by decide +kernel) (by decide +kernel)
theorem k_630 : (Jvm.Cond.laysFinal "TabledExecutiveModel" "TabledExecutiveModel" "register" "[I") ∈ zG := zG_of 630 (by decide +kernel) (by decide +kernel)
theorem k_632 : (Jvm.Cond.laysFinal "TabledExecutiveModel" "TabledExecutiveModel" "counted" "[I") ∈ zG := zG_of 632 (by decide +kernel) (by decide +kernel)
theorem k_634 : (Jvm.Cond.laysFinal "TabledExecutiveModel" "TabledExecutiveModel" "goes" "[I") ∈ zG := zG_of 634 (by decide +kernel) (by decide +kernel)
theorem k_637 : (Jvm.Cond.arrayClass Jvm.ClassFile.FieldType.boolean) ∈ zG := zG_of 637 (by decide +kernel) (by decide +kernel)
theorem k_638 : (Jvm.Cond.methodLink "TabledExecutiveLaw" (74 : Nat) ({ cls := "TabledExecutiveModel", name := "thrown", desc := "()I" } : Jvm.MethodName)) ∈ zG := zG_of 638 (by decide +kernel) (by decide +kernel)
theorem k_639 : (Jvm.Cond.instanceMethod ({ cls := "TabledExecutiveModel", name := "thrown", desc := "()I" } : Jvm.MethodName)) ∈ zG := zG_of 639 (by decide +kernel) (by decide +kernel)
theorem k_640 : (Jvm.Cond.selects "TabledExecutiveModel" ({ cls := "TabledExecutiveModel", name := "thrown", desc := "()I" } : Jvm.MethodName) ({ cls := "TabledExecutiveModel", name := "thrown", desc := "()I" } : Jvm.MethodName)) ∈ zG := zG_of 640 (by decide +kernel) (by decide +kernel)
set_option maxRecDepth 20000 in
theorem k_641 : (Jvm.Cond.code ({ cls := "TabledExecutiveModel", name := "thrown", desc := "()I" } : Jvm.MethodName) prog_9_method_2_code (1 : Nat) (Option.some Jvm.ClassFile.FieldType.int)) ∈ zG := zG_of 641 rfl rfl
theorem k_642 : (Jvm.Cond.methodLink "TabledExecutiveLaw" (73 : Nat) ({ cls := "TabledExecutiveModel", name := "load", desc := "(II)V" } : Jvm.MethodName)) ∈ zG := zG_of 642 (by decide +kernel) (by decide +kernel)
theorem k_643 : (Jvm.Cond.instanceMethod ({ cls := "TabledExecutiveModel", name := "load", desc := "(II)V" } : Jvm.MethodName)) ∈ zG := zG_of 643 (by decide +kernel) (by decide +kernel)
theorem k_644 : (Jvm.Cond.selects "TabledExecutiveModel" ({ cls := "TabledExecutiveModel", name := "load", desc := "(II)V" } : Jvm.MethodName) ({ cls := "TabledExecutiveModel", name := "load", desc := "(II)V" } : Jvm.MethodName)) ∈ zG := zG_of 644 (by decide +kernel) (by decide +kernel)
set_option maxRecDepth 20000 in
theorem k_645 : (Jvm.Cond.code ({ cls := "TabledExecutiveModel", name := "load", desc := "(II)V" } : Jvm.MethodName) prog_9_method_4_code (3 : Nat) (Option.none : Option Jvm.ClassFile.FieldType)) ∈ zG := zG_of 645 rfl rfl
theorem k_646 : (Jvm.Cond.methodLink "TabledExecutiveModel" (70 : Nat) ({ cls := "TabledExecutiveModel", name := "refused", desc := "(I)Z" } : Jvm.MethodName)) ∈ zG := zG_of 646 (by decide +kernel) (by decide +kernel)
theorem k_648 : (Jvm.Cond.instanceMethod ({ cls := "TabledExecutiveModel", name := "refused", desc := "(I)Z" } : Jvm.MethodName)) ∈ zG := zG_of 648 (by decide +kernel) (by decide +kernel)
set_option maxRecDepth 20000 in
theorem k_649 : (Jvm.Cond.code ({ cls := "TabledExecutiveModel", name := "refused", desc := "(I)Z" } : Jvm.MethodName) prog_9_method_3_code (2 : Nat) (Option.some Jvm.ClassFile.FieldType.boolean)) ∈ zG := zG_of 649 rfl rfl
theorem k_650 : (Jvm.Cond.methodLink "TabledExecutiveLaw" (80 : Nat) ({ cls := "TabledExecutiveModel", name := "task", desc := "(IIII)I" } : Jvm.MethodName)) ∈ zG := zG_of 650 (by decide +kernel) (by decide +kernel)
theorem k_651 : (Jvm.Cond.instanceMethod ({ cls := "TabledExecutiveModel", name := "task", desc := "(IIII)I" } : Jvm.MethodName)) ∈ zG := zG_of 651 (by decide +kernel) (by decide +kernel)
theorem k_652 : (Jvm.Cond.selects "TabledExecutiveModel" ({ cls := "TabledExecutiveModel", name := "task", desc := "(IIII)I" } : Jvm.MethodName) ({ cls := "TabledExecutiveModel", name := "task", desc := "(IIII)I" } : Jvm.MethodName)) ∈ zG := zG_of 652 (by decide +kernel) (by decide +kernel)
set_option maxRecDepth 20000 in
theorem k_653 : (Jvm.Cond.code ({ cls := "TabledExecutiveModel", name := "task", desc := "(IIII)I" } : Jvm.MethodName) prog_9_method_5_code (7 : Nat) (Option.some Jvm.ClassFile.FieldType.int)) ∈ zG := zG_of 653 rfl rfl
theorem k_654 : (Jvm.Cond.methodLink "TabledExecutiveLaw" (83 : Nat) ({ cls := "TabledExecutiveModel", name := "entry", desc := "(II)V" } : Jvm.MethodName)) ∈ zG := zG_of 654 (by decide +kernel) (by decide +kernel)
theorem k_655 : (Jvm.Cond.instanceMethod ({ cls := "TabledExecutiveModel", name := "entry", desc := "(II)V" } : Jvm.MethodName)) ∈ zG := zG_of 655 (by decide +kernel) (by decide +kernel)
theorem k_656 : (Jvm.Cond.selects "TabledExecutiveModel" ({ cls := "TabledExecutiveModel", name := "entry", desc := "(II)V" } : Jvm.MethodName) ({ cls := "TabledExecutiveModel", name := "entry", desc := "(II)V" } : Jvm.MethodName)) ∈ zG := zG_of 656 (by decide +kernel) (by decide +kernel)
set_option maxRecDepth 20000 in
theorem k_657 : (Jvm.Cond.code ({ cls := "TabledExecutiveModel", name := "entry", desc := "(II)V" } : Jvm.MethodName) prog_9_method_6_code (3 : Nat) (Option.none : Option Jvm.ClassFile.FieldType)) ∈ zG := zG_of 657 rfl rfl
theorem k_658 : (Jvm.Cond.methodLink "TabledExecutiveLaw" (87 : Nat) ({ cls := "TabledExecutiveModel", name := "clear", desc := "()V" } : Jvm.MethodName)) ∈ zG := zG_of 658 (by decide +kernel) (by decide +kernel)
theorem k_659 : (Jvm.Cond.instanceMethod ({ cls := "TabledExecutiveModel", name := "clear", desc := "()V" } : Jvm.MethodName)) ∈ zG := zG_of 659 (by decide +kernel) (by decide +kernel)
theorem k_660 : (Jvm.Cond.selects "TabledExecutiveModel" ({ cls := "TabledExecutiveModel", name := "clear", desc := "()V" } : Jvm.MethodName) ({ cls := "TabledExecutiveModel", name := "clear", desc := "()V" } : Jvm.MethodName)) ∈ zG := zG_of 660 (by decide +kernel) (by decide +kernel)
set_option maxRecDepth 20000 in
theorem k_661 : (Jvm.Cond.code ({ cls := "TabledExecutiveModel", name := "clear", desc := "()V" } : Jvm.MethodName) prog_9_method_7_code (1 : Nat) (Option.none : Option Jvm.ClassFile.FieldType)) ∈ zG := zG_of 661 rfl rfl
theorem k_662 : (Jvm.Cond.methodLink "TabledExecutiveLaw" (91 : Nat) ({ cls := "TabledExecutiveModel", name := "round", desc := "()I" } : Jvm.MethodName)) ∈ zG := zG_of 662 (by decide +kernel) (by decide +kernel)
theorem k_663 : (Jvm.Cond.instanceMethod ({ cls := "TabledExecutiveModel", name := "round", desc := "()I" } : Jvm.MethodName)) ∈ zG := zG_of 663 (by decide +kernel) (by decide +kernel)
theorem k_664 : (Jvm.Cond.selects "TabledExecutiveModel" ({ cls := "TabledExecutiveModel", name := "round", desc := "()I" } : Jvm.MethodName) ({ cls := "TabledExecutiveModel", name := "round", desc := "()I" } : Jvm.MethodName)) ∈ zG := zG_of 664 (by decide +kernel) (by decide +kernel)
set_option maxRecDepth 20000 in
theorem k_665 : (Jvm.Cond.code ({ cls := "TabledExecutiveModel", name := "round", desc := "()I" } : Jvm.MethodName) prog_9_method_9_code (2 : Nat) (Option.some Jvm.ClassFile.FieldType.int)) ∈ zG := zG_of 665 rfl rfl
theorem k_666 : (Jvm.Cond.methodLink "TabledExecutiveModel" (80 : Nat) ({ cls := "TabledExecutiveModel", name := "whole", desc := "()I" } : Jvm.MethodName)) ∈ zG := zG_of 666 (by decide +kernel) (by decide +kernel)
theorem k_668 : (Jvm.Cond.instanceMethod ({ cls := "TabledExecutiveModel", name := "whole", desc := "()I" } : Jvm.MethodName)) ∈ zG := zG_of 668 (by decide +kernel) (by decide +kernel)
set_option maxRecDepth 20000 in
theorem k_669 : (Jvm.Cond.code ({ cls := "TabledExecutiveModel", name := "whole", desc := "()I" } : Jvm.MethodName) prog_9_method_8_code (4 : Nat) (Option.some Jvm.ClassFile.FieldType.int)) ∈ zG := zG_of 669 rfl rfl
theorem k_670 : (Jvm.Cond.methodLink "TabledExecutiveLaw" (95 : Nat) ({ cls := "TabledExecutiveModel", name := "synthesize", desc := "()I" } : Jvm.MethodName)) ∈ zG := zG_of 670 (by decide +kernel) (by decide +kernel)
theorem k_671 : (Jvm.Cond.instanceMethod ({ cls := "TabledExecutiveModel", name := "synthesize", desc := "()I" } : Jvm.MethodName)) ∈ zG := zG_of 671 (by decide +kernel) (by decide +kernel)
theorem k_672 : (Jvm.Cond.selects "TabledExecutiveModel" ({ cls := "TabledExecutiveModel", name := "synthesize", desc := "()I" } : Jvm.MethodName) ({ cls := "TabledExecutiveModel", name := "synthesize", desc := "()I" } : Jvm.MethodName)) ∈ zG := zG_of 672 (by decide +kernel) (by decide +kernel)
set_option maxRecDepth 20000 in
theorem k_673 : (Jvm.Cond.code ({ cls := "TabledExecutiveModel", name := "synthesize", desc := "()I" } : Jvm.MethodName) prog_9_method_14_code (4 : Nat) (Option.some Jvm.ClassFile.FieldType.int)) ∈ zG := zG_of 673 rfl rfl
theorem k_674 : (Jvm.Cond.methodLink "TabledExecutiveModel" (91 : Nat) ({ cls := "TabledExecutiveModel", name := "greatestOffset", desc := "()I" } : Jvm.MethodName)) ∈ zG := zG_of 674 (by decide +kernel) (by decide +kernel)
theorem k_676 : (Jvm.Cond.instanceMethod ({ cls := "TabledExecutiveModel", name := "greatestOffset", desc := "()I" } : Jvm.MethodName)) ∈ zG := zG_of 676 (by decide +kernel) (by decide +kernel)
set_option maxRecDepth 20000 in
theorem k_677 : (Jvm.Cond.code ({ cls := "TabledExecutiveModel", name := "greatestOffset", desc := "()I" } : Jvm.MethodName) prog_9_method_10_code (3 : Nat) (Option.some Jvm.ClassFile.FieldType.int)) ∈ zG := zG_of 677 rfl rfl
theorem k_678 : (Jvm.Cond.methodLink "TabledExecutiveModel" (94 : Nat) ({ cls := "TabledExecutiveModel", name := "imagine", desc := "(II)Z" } : Jvm.MethodName)) ∈ zG := zG_of 678 (by decide +kernel) (by decide +kernel)
theorem k_680 : (Jvm.Cond.instanceMethod ({ cls := "TabledExecutiveModel", name := "imagine", desc := "(II)Z" } : Jvm.MethodName)) ∈ zG := zG_of 680 (by decide +kernel) (by decide +kernel)
set_option maxRecDepth 20000 in
theorem k_681 : (Jvm.Cond.code ({ cls := "TabledExecutiveModel", name := "imagine", desc := "(II)Z" } : Jvm.MethodName) prog_9_method_13_code (5 : Nat) (Option.some Jvm.ClassFile.FieldType.boolean)) ∈ zG := zG_of 681 rfl rfl
theorem k_682 : (Jvm.Cond.methodLink "TabledExecutiveModel" (84 : Nat) ({ cls := "TabledExecutiveModel", name := "isReleased", desc := "(II)Z" } : Jvm.MethodName)) ∈ zG := zG_of 682 (by decide +kernel) (by decide +kernel)
theorem k_684 : (Jvm.Cond.instanceMethod ({ cls := "TabledExecutiveModel", name := "isReleased", desc := "(II)Z" } : Jvm.MethodName)) ∈ zG := zG_of 684 (by decide +kernel) (by decide +kernel)
set_option maxRecDepth 20000 in
theorem k_685 : (Jvm.Cond.code ({ cls := "TabledExecutiveModel", name := "isReleased", desc := "(II)Z" } : Jvm.MethodName) prog_9_method_11_code (3 : Nat) (Option.some Jvm.ClassFile.FieldType.boolean)) ∈ zG := zG_of 685 rfl rfl
theorem k_686 : (Jvm.Cond.methodLink "TabledExecutiveModel" (88 : Nat) ({ cls := "TabledExecutiveModel", name := "chosen", desc := "()I" } : Jvm.MethodName)) ∈ zG := zG_of 686 (by decide +kernel) (by decide +kernel)
theorem k_688 : (Jvm.Cond.instanceMethod ({ cls := "TabledExecutiveModel", name := "chosen", desc := "()I" } : Jvm.MethodName)) ∈ zG := zG_of 688 (by decide +kernel) (by decide +kernel)
set_option maxRecDepth 20000 in
theorem k_689 : (Jvm.Cond.code ({ cls := "TabledExecutiveModel", name := "chosen", desc := "()I" } : Jvm.MethodName) prog_9_method_12_code (4 : Nat) (Option.some Jvm.ClassFile.FieldType.int)) ∈ zG := zG_of 689 rfl rfl
theorem k_690 : (Jvm.Cond.methodLink "TabledExecutiveLaw" (99 : Nat) ({ cls := "TabledExecutiveModel", name := "slot", desc := "(IIII)V" } : Jvm.MethodName)) ∈ zG := zG_of 690 (by decide +kernel) (by decide +kernel)
theorem k_691 : (Jvm.Cond.instanceMethod ({ cls := "TabledExecutiveModel", name := "slot", desc := "(IIII)V" } : Jvm.MethodName)) ∈ zG := zG_of 691 (by decide +kernel) (by decide +kernel)
theorem k_692 : (Jvm.Cond.selects "TabledExecutiveModel" ({ cls := "TabledExecutiveModel", name := "slot", desc := "(IIII)V" } : Jvm.MethodName) ({ cls := "TabledExecutiveModel", name := "slot", desc := "(IIII)V" } : Jvm.MethodName)) ∈ zG := zG_of 692 (by decide +kernel) (by decide +kernel)
set_option maxRecDepth 20000 in
theorem k_693 : (Jvm.Cond.code ({ cls := "TabledExecutiveModel", name := "slot", desc := "(IIII)V" } : Jvm.MethodName) prog_9_method_15_code (7 : Nat) (Option.none : Option Jvm.ClassFile.FieldType)) ∈ zG := zG_of 693 rfl rfl
theorem k_694 : (Jvm.Cond.methodLink "TabledExecutiveLaw" (102 : Nat) ({ cls := "TabledExecutiveModel", name := "drop", desc := "()V" } : Jvm.MethodName)) ∈ zG := zG_of 694 (by decide +kernel) (by decide +kernel)
theorem k_695 : (Jvm.Cond.instanceMethod ({ cls := "TabledExecutiveModel", name := "drop", desc := "()V" } : Jvm.MethodName)) ∈ zG := zG_of 695 (by decide +kernel) (by decide +kernel)
theorem k_696 : (Jvm.Cond.selects "TabledExecutiveModel" ({ cls := "TabledExecutiveModel", name := "drop", desc := "()V" } : Jvm.MethodName) ({ cls := "TabledExecutiveModel", name := "drop", desc := "()V" } : Jvm.MethodName)) ∈ zG := zG_of 696 (by decide +kernel) (by decide +kernel)
set_option maxRecDepth 20000 in
theorem k_697 : (Jvm.Cond.code ({ cls := "TabledExecutiveModel", name := "drop", desc := "()V" } : Jvm.MethodName) prog_9_method_16_code (1 : Nat) (Option.none : Option Jvm.ClassFile.FieldType)) ∈ zG := zG_of 697 rfl rfl
theorem k_698 : (Jvm.Cond.methodLink "TabledExecutiveLaw" (106 : Nat) ({ cls := "TabledExecutiveModel", name := "slots", desc := "()I" } : Jvm.MethodName)) ∈ zG := zG_of 698 (by decide +kernel) (by decide +kernel)
theorem k_699 : (Jvm.Cond.instanceMethod ({ cls := "TabledExecutiveModel", name := "slots", desc := "()I" } : Jvm.MethodName)) ∈ zG := zG_of 699 (by decide +kernel) (by decide +kernel)
theorem k_700 : (Jvm.Cond.selects "TabledExecutiveModel" ({ cls := "TabledExecutiveModel", name := "slots", desc := "()I" } : Jvm.MethodName) ({ cls := "TabledExecutiveModel", name := "slots", desc := "()I" } : Jvm.MethodName)) ∈ zG := zG_of 700 (by decide +kernel) (by decide +kernel)
set_option maxRecDepth 20000 in
theorem k_701 : (Jvm.Cond.code ({ cls := "TabledExecutiveModel", name := "slots", desc := "()I" } : Jvm.MethodName) prog_9_method_17_code (1 : Nat) (Option.some Jvm.ClassFile.FieldType.int)) ∈ zG := zG_of 701 rfl rfl
theorem k_702 : (Jvm.Cond.methodLink "TabledExecutiveLaw" (110 : Nat) ({ cls := "TabledExecutiveModel", name := "slotOf", desc := "(II)I" } : Jvm.MethodName)) ∈ zG := zG_of 702 (by decide +kernel) (by decide +kernel)
theorem k_703 : (Jvm.Cond.instanceMethod ({ cls := "TabledExecutiveModel", name := "slotOf", desc := "(II)I" } : Jvm.MethodName)) ∈ zG := zG_of 703 (by decide +kernel) (by decide +kernel)
theorem k_704 : (Jvm.Cond.selects "TabledExecutiveModel" ({ cls := "TabledExecutiveModel", name := "slotOf", desc := "(II)I" } : Jvm.MethodName) ({ cls := "TabledExecutiveModel", name := "slotOf", desc := "(II)I" } : Jvm.MethodName)) ∈ zG := zG_of 704 (by decide +kernel) (by decide +kernel)
set_option maxRecDepth 20000 in
theorem k_705 : (Jvm.Cond.code ({ cls := "TabledExecutiveModel", name := "slotOf", desc := "(II)I" } : Jvm.MethodName) prog_9_method_18_code (3 : Nat) (Option.some Jvm.ClassFile.FieldType.int)) ∈ zG := zG_of 705 rfl rfl
theorem k_706 : (Jvm.Cond.methodLink "TabledExecutiveLaw" (113 : Nat) ({ cls := "TabledExecutiveModel", name := "check", desc := "()Z" } : Jvm.MethodName)) ∈ zG := zG_of 706 (by decide +kernel) (by decide +kernel)
theorem k_707 : (Jvm.Cond.instanceMethod ({ cls := "TabledExecutiveModel", name := "check", desc := "()Z" } : Jvm.MethodName)) ∈ zG := zG_of 707 (by decide +kernel) (by decide +kernel)
theorem k_708 : (Jvm.Cond.selects "TabledExecutiveModel" ({ cls := "TabledExecutiveModel", name := "check", desc := "()Z" } : Jvm.MethodName) ({ cls := "TabledExecutiveModel", name := "check", desc := "()Z" } : Jvm.MethodName)) ∈ zG := zG_of 708 (by decide +kernel) (by decide +kernel)
set_option maxRecDepth 20000 in
theorem k_709 : (Jvm.Cond.code ({ cls := "TabledExecutiveModel", name := "check", desc := "()Z" } : Jvm.MethodName) prog_9_method_23_code (2 : Nat) (Option.some Jvm.ClassFile.FieldType.boolean)) ∈ zG := zG_of 709 rfl rfl
theorem k_710 : (Jvm.Cond.methodLink "TabledExecutiveModel" (107 : Nat) ({ cls := "TabledExecutiveModel", name := "isGood", desc := "()Z" } : Jvm.MethodName)) ∈ zG := zG_of 710 (by decide +kernel) (by decide +kernel)
theorem k_712 : (Jvm.Cond.instanceMethod ({ cls := "TabledExecutiveModel", name := "isGood", desc := "()Z" } : Jvm.MethodName)) ∈ zG := zG_of 712 (by decide +kernel) (by decide +kernel)
set_option maxRecDepth 20000 in
theorem k_713 : (Jvm.Cond.code ({ cls := "TabledExecutiveModel", name := "isGood", desc := "()Z" } : Jvm.MethodName) prog_9_method_22_code (4 : Nat) (Option.some Jvm.ClassFile.FieldType.boolean)) ∈ zG := zG_of 713 rfl rfl
theorem k_714 : (Jvm.Cond.methodLink "TabledExecutiveModel" (101 : Nat) ({ cls := "TabledExecutiveModel", name := "covering", desc := "(I)I" } : Jvm.MethodName)) ∈ zG := zG_of 714 (by decide +kernel) (by decide +kernel)
theorem k_716 : (Jvm.Cond.instanceMethod ({ cls := "TabledExecutiveModel", name := "covering", desc := "(I)I" } : Jvm.MethodName)) ∈ zG := zG_of 716 (by decide +kernel) (by decide +kernel)
set_option maxRecDepth 20000 in
theorem k_717 : (Jvm.Cond.code ({ cls := "TabledExecutiveModel", name := "covering", desc := "(I)I" } : Jvm.MethodName) prog_9_method_19_code (4 : Nat) (Option.some Jvm.ClassFile.FieldType.int)) ∈ zG := zG_of 717 rfl rfl
theorem k_718 : (Jvm.Cond.methodLink "TabledExecutiveModel" (104 : Nat) ({ cls := "TabledExecutiveModel", name := "isServed", desc := "(II)Z" } : Jvm.MethodName)) ∈ zG := zG_of 718 (by decide +kernel) (by decide +kernel)
theorem k_720 : (Jvm.Cond.instanceMethod ({ cls := "TabledExecutiveModel", name := "isServed", desc := "(II)Z" } : Jvm.MethodName)) ∈ zG := zG_of 720 (by decide +kernel) (by decide +kernel)
set_option maxRecDepth 20000 in
theorem k_721 : (Jvm.Cond.code ({ cls := "TabledExecutiveModel", name := "isServed", desc := "(II)Z" } : Jvm.MethodName) prog_9_method_21_code (8 : Nat) (Option.some Jvm.ClassFile.FieldType.boolean)) ∈ zG := zG_of 721 rfl rfl
theorem k_722 : (Jvm.Cond.methodLink "TabledExecutiveModel" (97 : Nat) ({ cls := "TabledExecutiveModel", name := "at", desc := "(I)I" } : Jvm.MethodName)) ∈ zG := zG_of 722 (by decide +kernel) (by decide +kernel)
theorem k_724 : (Jvm.Cond.instanceMethod ({ cls := "TabledExecutiveModel", name := "at", desc := "(I)I" } : Jvm.MethodName)) ∈ zG := zG_of 724 (by decide +kernel) (by decide +kernel)
set_option maxRecDepth 20000 in
theorem k_725 : (Jvm.Cond.code ({ cls := "TabledExecutiveModel", name := "at", desc := "(I)I" } : Jvm.MethodName) prog_9_method_20_code (4 : Nat) (Option.some Jvm.ClassFile.FieldType.int)) ∈ zG := zG_of 725 rfl rfl
theorem k_726 : (Jvm.Cond.methodLink "TabledExecutiveLaw" (116 : Nat) ({ cls := "TabledExecutiveModel", name := "stop", desc := "()V" } : Jvm.MethodName)) ∈ zG := zG_of 726 (by decide +kernel) (by decide +kernel)
theorem k_727 : (Jvm.Cond.instanceMethod ({ cls := "TabledExecutiveModel", name := "stop", desc := "()V" } : Jvm.MethodName)) ∈ zG := zG_of 727 (by decide +kernel) (by decide +kernel)
theorem k_728 : (Jvm.Cond.selects "TabledExecutiveModel" ({ cls := "TabledExecutiveModel", name := "stop", desc := "()V" } : Jvm.MethodName) ({ cls := "TabledExecutiveModel", name := "stop", desc := "()V" } : Jvm.MethodName)) ∈ zG := zG_of 728 (by decide +kernel) (by decide +kernel)
set_option maxRecDepth 20000 in
theorem k_729 : (Jvm.Cond.code ({ cls := "TabledExecutiveModel", name := "stop", desc := "()V" } : Jvm.MethodName) prog_9_method_24_code (1 : Nat) (Option.none : Option Jvm.ClassFile.FieldType)) ∈ zG := zG_of 729 rfl rfl
theorem k_730 : (Jvm.Cond.methodLink "TabledExecutiveLaw" (119 : Nat) ({ cls := "TabledExecutiveModel", name := "tick", desc := "()I" } : Jvm.MethodName)) ∈ zG := zG_of 730 (by decide +kernel) (by decide +kernel)
theorem k_731 : (Jvm.Cond.instanceMethod ({ cls := "TabledExecutiveModel", name := "tick", desc := "()I" } : Jvm.MethodName)) ∈ zG := zG_of 731 (by decide +kernel) (by decide +kernel)
theorem k_732 : (Jvm.Cond.selects "TabledExecutiveModel" ({ cls := "TabledExecutiveModel", name := "tick", desc := "()I" } : Jvm.MethodName) ({ cls := "TabledExecutiveModel", name := "tick", desc := "()I" } : Jvm.MethodName)) ∈ zG := zG_of 732 (by decide +kernel) (by decide +kernel)
set_option maxRecDepth 20000 in
theorem k_733 : (Jvm.Cond.code ({ cls := "TabledExecutiveModel", name := "tick", desc := "()I" } : Jvm.MethodName) prog_9_method_28_code (1 : Nat) (Option.some Jvm.ClassFile.FieldType.int)) ∈ zG := zG_of 733 rfl rfl
theorem k_734 : (Jvm.Cond.methodLink "TabledExecutiveModel" (121 : Nat) ({ cls := "TabledExecutiveModel", name := "one", desc := "()I" } : Jvm.MethodName)) ∈ zG := zG_of 734 (by decide +kernel) (by decide +kernel)
theorem k_736 : (Jvm.Cond.instanceMethod ({ cls := "TabledExecutiveModel", name := "one", desc := "()I" } : Jvm.MethodName)) ∈ zG := zG_of 736 (by decide +kernel) (by decide +kernel)
set_option maxRecDepth 20000 in
theorem k_737 : (Jvm.Cond.code ({ cls := "TabledExecutiveModel", name := "one", desc := "()I" } : Jvm.MethodName) prog_9_method_27_code (4 : Nat) (Option.some Jvm.ClassFile.FieldType.int)) ∈ zG := zG_of 737 rfl rfl
theorem k_738 : (Jvm.Cond.methodLink "TabledExecutiveModel" (114 : Nat) ({ cls := "TabledExecutiveModel", name := "release", desc := "(I)V" } : Jvm.MethodName)) ∈ zG := zG_of 738 (by decide +kernel) (by decide +kernel)
theorem k_740 : (Jvm.Cond.instanceMethod ({ cls := "TabledExecutiveModel", name := "release", desc := "(I)V" } : Jvm.MethodName)) ∈ zG := zG_of 740 (by decide +kernel) (by decide +kernel)
set_option maxRecDepth 20000 in
theorem k_741 : (Jvm.Cond.code ({ cls := "TabledExecutiveModel", name := "release", desc := "(I)V" } : Jvm.MethodName) prog_9_method_26_code (3 : Nat) (Option.none : Option Jvm.ClassFile.FieldType)) ∈ zG := zG_of 741 rfl rfl
theorem k_742 : (Jvm.Cond.methodLink "TabledExecutiveModel" (118 : Nat) ({ cls := "TabledExecutiveModel", name := "instruct", desc := "(I)I" } : Jvm.MethodName)) ∈ zG := zG_of 742 (by decide +kernel) (by decide +kernel)
theorem k_744 : (Jvm.Cond.instanceMethod ({ cls := "TabledExecutiveModel", name := "instruct", desc := "(I)I" } : Jvm.MethodName)) ∈ zG := zG_of 744 (by decide +kernel) (by decide +kernel)
set_option maxRecDepth 20000 in
theorem k_745 : (Jvm.Cond.code ({ cls := "TabledExecutiveModel", name := "instruct", desc := "(I)I" } : Jvm.MethodName) prog_9_method_25_code (6 : Nat) (Option.some Jvm.ClassFile.FieldType.int)) ∈ zG := zG_of 745 rfl rfl
theorem k_746 : (Jvm.Cond.methodLink "TabledExecutiveLaw" (123 : Nat) ({ cls := "TabledExecutiveModel", name := "ticks", desc := "(I)I" } : Jvm.MethodName)) ∈ zG := zG_of 746 (by decide +kernel) (by decide +kernel)
theorem k_747 : (Jvm.Cond.instanceMethod ({ cls := "TabledExecutiveModel", name := "ticks", desc := "(I)I" } : Jvm.MethodName)) ∈ zG := zG_of 747 (by decide +kernel) (by decide +kernel)
theorem k_748 : (Jvm.Cond.selects "TabledExecutiveModel" ({ cls := "TabledExecutiveModel", name := "ticks", desc := "(I)I" } : Jvm.MethodName) ({ cls := "TabledExecutiveModel", name := "ticks", desc := "(I)I" } : Jvm.MethodName)) ∈ zG := zG_of 748 (by decide +kernel) (by decide +kernel)
set_option maxRecDepth 20000 in
theorem k_749 : (Jvm.Cond.code ({ cls := "TabledExecutiveModel", name := "ticks", desc := "(I)I" } : Jvm.MethodName) prog_9_method_29_code (4 : Nat) (Option.some Jvm.ClassFile.FieldType.int)) ∈ zG := zG_of 749 rfl rfl
theorem k_750 : (Jvm.Cond.methodLink "TabledExecutiveLaw" (127 : Nat) ({ cls := "TabledExecutiveModel", name := "time", desc := "()I" } : Jvm.MethodName)) ∈ zG := zG_of 750 (by decide +kernel) (by decide +kernel)
theorem k_751 : (Jvm.Cond.instanceMethod ({ cls := "TabledExecutiveModel", name := "time", desc := "()I" } : Jvm.MethodName)) ∈ zG := zG_of 751 (by decide +kernel) (by decide +kernel)
theorem k_752 : (Jvm.Cond.selects "TabledExecutiveModel" ({ cls := "TabledExecutiveModel", name := "time", desc := "()I" } : Jvm.MethodName) ({ cls := "TabledExecutiveModel", name := "time", desc := "()I" } : Jvm.MethodName)) ∈ zG := zG_of 752 (by decide +kernel) (by decide +kernel)
set_option maxRecDepth 20000 in
theorem k_753 : (Jvm.Cond.code ({ cls := "TabledExecutiveModel", name := "time", desc := "()I" } : Jvm.MethodName) prog_9_method_30_code (1 : Nat) (Option.some Jvm.ClassFile.FieldType.int)) ∈ zG := zG_of 753 rfl rfl
theorem k_754 : (Jvm.Cond.methodLink "TabledExecutiveLaw" (130 : Nat) ({ cls := "TabledExecutiveModel", name := "count", desc := "(II)I" } : Jvm.MethodName)) ∈ zG := zG_of 754 (by decide +kernel) (by decide +kernel)
theorem k_755 : (Jvm.Cond.instanceMethod ({ cls := "TabledExecutiveModel", name := "count", desc := "(II)I" } : Jvm.MethodName)) ∈ zG := zG_of 755 (by decide +kernel) (by decide +kernel)
theorem k_756 : (Jvm.Cond.selects "TabledExecutiveModel" ({ cls := "TabledExecutiveModel", name := "count", desc := "(II)I" } : Jvm.MethodName) ({ cls := "TabledExecutiveModel", name := "count", desc := "(II)I" } : Jvm.MethodName)) ∈ zG := zG_of 756 (by decide +kernel) (by decide +kernel)
set_option maxRecDepth 20000 in
theorem k_757 : (Jvm.Cond.code ({ cls := "TabledExecutiveModel", name := "count", desc := "(II)I" } : Jvm.MethodName) prog_9_method_31_code (3 : Nat) (Option.some Jvm.ClassFile.FieldType.int)) ∈ zG := zG_of 757 rfl rfl
theorem k_758 : (Jvm.Cond.methodLink "TabledExecutiveLaw" (133 : Nat) ({ cls := "TabledExecutiveModel", name := "shared", desc := "(I)I" } : Jvm.MethodName)) ∈ zG := zG_of 758 (by decide +kernel) (by decide +kernel)
theorem k_759 : (Jvm.Cond.instanceMethod ({ cls := "TabledExecutiveModel", name := "shared", desc := "(I)I" } : Jvm.MethodName)) ∈ zG := zG_of 759 (by decide +kernel) (by decide +kernel)
theorem k_760 : (Jvm.Cond.selects "TabledExecutiveModel" ({ cls := "TabledExecutiveModel", name := "shared", desc := "(I)I" } : Jvm.MethodName) ({ cls := "TabledExecutiveModel", name := "shared", desc := "(I)I" } : Jvm.MethodName)) ∈ zG := zG_of 760 (by decide +kernel) (by decide +kernel)
set_option maxRecDepth 20000 in
theorem k_761 : (Jvm.Cond.code ({ cls := "TabledExecutiveModel", name := "shared", desc := "(I)I" } : Jvm.MethodName) prog_9_method_32_code (2 : Nat) (Option.some Jvm.ClassFile.FieldType.int)) ∈ zG := zG_of 761 rfl rfl
theorem k_762 : (Jvm.Cond.arrayClass Jvm.ClassFile.FieldType.long) ∈ zG := zG_of 762 (by decide +kernel) (by decide +kernel)
theorem u_Jb : ∀ w ∈ u_ws R_Jb F_Jb 5, w ∈ zG := by
  intro w hw
  obtain ⟨k, hk, rfl⟩ := List.mem_map.mp hw
  have hk := List.mem_range.mp hk
  match k, hk with
  | 0, _ => exact k_78
  | 1, _ => exact k_80
  | 2, _ => exact k_82
  | 3, _ => exact k_84
  | 4, _ => exact k_86
  | k + 5, h => exact absurd h (by omega)
theorem u_Mc : ∀ w ∈ u_ws R_Mc F_Mc 2, w ∈ zG := by
  intro w hw
  obtain ⟨k, hk, rfl⟩ := List.mem_map.mp hw
  have hk := List.mem_range.mp hk
  match k, hk with
  | 0, _ => exact k_177
  | 1, _ => exact k_179
  | k + 2, h => exact absurd h (by omega)
theorem u_Pl : ∀ w ∈ u_ws R_Pl F_Pl 2, w ∈ zG := by
  intro w hw
  obtain ⟨k, hk, rfl⟩ := List.mem_map.mp hw
  have hk := List.mem_range.mp hk
  match k, hk with
  | 0, _ => exact k_162
  | 1, _ => exact k_164
  | k + 2, h => exact absurd h (by omega)
theorem u_Tb : ∀ w ∈ u_ws R_Tb F_Tb 4, w ∈ zG := by
  intro w hw
  obtain ⟨k, hk, rfl⟩ := List.mem_map.mp hw
  have hk := List.mem_range.mp hk
  match k, hk with
  | 0, _ => exact k_145
  | 1, _ => exact k_147
  | 2, _ => exact k_149
  | 3, _ => exact k_151
  | k + 4, h => exact absurd h (by omega)
theorem u_Tk : ∀ w ∈ u_ws R_Tk F_Tk 7, w ∈ zG := by
  intro w hw
  obtain ⟨k, hk, rfl⟩ := List.mem_map.mp hw
  have hk := List.mem_range.mp hk
  match k, hk with
  | 0, _ => exact k_108
  | 1, _ => exact k_110
  | 2, _ => exact k_112
  | 3, _ => exact k_114
  | 4, _ => exact k_116
  | 5, _ => exact k_118
  | 6, _ => exact k_120
  | k + 7, h => exact absurd h (by omega)
theorem u_Tl : ∀ w ∈ u_ws R_Tl F_Tl 2, w ∈ zG := by
  intro w hw
  obtain ⟨k, hk, rfl⟩ := List.mem_map.mp hw
  have hk := List.mem_range.mp hk
  match k, hk with
  | 0, _ => exact k_129
  | 1, _ => exact k_131
  | k + 2, h => exact absurd h (by omega)
theorem u_Ex : ∀ w ∈ u_ws R_Ex F_Ex 8, w ∈ zG := by
  intro w hw
  obtain ⟨k, hk, rfl⟩ := List.mem_map.mp hw
  have hk := List.mem_range.mp hk
  match k, hk with
  | 0, _ => exact k_190
  | 1, _ => exact k_192
  | 2, _ => exact k_194
  | 3, _ => exact k_196
  | 4, _ => exact k_198
  | 5, _ => exact k_200
  | 6, _ => exact k_202
  | 7, _ => exact k_204
  | k + 8, h => exact absurd h (by omega)
theorem u_Md : ∀ w ∈ u_ws R_Md F_Md 22, w ∈ zG := by
  intro w hw
  obtain ⟨k, hk, rfl⟩ := List.mem_map.mp hw
  have hk := List.mem_range.mp hk
  match k, hk with
  | 0, _ => exact k_592
  | 1, _ => exact k_594
  | 2, _ => exact k_596
  | 3, _ => exact k_598
  | 4, _ => exact k_600
  | 5, _ => exact k_602
  | 6, _ => exact k_604
  | 7, _ => exact k_606
  | 8, _ => exact k_608
  | 9, _ => exact k_610
  | 10, _ => exact k_612
  | 11, _ => exact k_614
  | 12, _ => exact k_616
  | 13, _ => exact k_618
  | 14, _ => exact k_620
  | 15, _ => exact k_622
  | 16, _ => exact k_624
  | 17, _ => exact k_626
  | 18, _ => exact k_628
  | 19, _ => exact k_630
  | 20, _ => exact k_632
  | 21, _ => exact k_634
  | k + 22, h => exact absurd h (by omega)
