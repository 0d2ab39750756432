/-! the words that every contract stands on: those of the tables that stay -/
def UW : List Cond := lw_tbl.filter goodWord
theorem UW_tbl {w : Cond} (h : w ∈ UW) : w ∈ lw_tbl := (List.mem_filter.mp h).1
theorem UG : GoodIn UW UW := fun _ h => ⟨h, good_of_word (List.mem_filter.mp h).2⟩
theorem uw_t {w : Cond} (h : w ∈ tables_1) (hg : goodWord w = true) : w ∈ UW := List.mem_filter.mpr ⟨List.mem_append_right _ h, hg⟩
theorem uw_p {w : Cond} (h : w ∈ k2_sels lw_privs) (hg : goodWord w = true) : w ∈ UW := List.mem_filter.mpr ⟨List.mem_append_left _ h, hg⟩
theorem uw1 {w : Cond} (h : w ∈ tables_1_1) (hg : goodWord w = true) : w ∈ UW := uw_t (List.mem_append_left _ h) hg
theorem uw2 {w : Cond} (h : w ∈ tables_1_2) (hg : goodWord w = true) : w ∈ UW := uw_t (List.mem_append_right _ (List.mem_append_left _ h)) hg
theorem uw3 {w : Cond} (h : w ∈ tables_1_3) (hg : goodWord w = true) : w ∈ UW := uw_t (List.mem_append_right _ (List.mem_append_right _ (List.mem_append_left _ h))) hg
theorem uw4 {w : Cond} (h : w ∈ tables_1_4) (hg : goodWord w = true) : w ∈ UW := uw_t (List.mem_append_right _ (List.mem_append_right _ (List.mem_append_right _ (List.mem_append_left _ h)))) hg
theorem uw5 {w : Cond} (h : w ∈ tables_1_5) (hg : goodWord w = true) : w ∈ UW := uw_t (List.mem_append_right _ (List.mem_append_right _ (List.mem_append_right _ (List.mem_append_right _ (List.mem_append_left _ h))))) hg
theorem uw6 {w : Cond} (h : w ∈ tables_1_6) (hg : goodWord w = true) : w ∈ UW := uw_t (List.mem_append_right _ (List.mem_append_right _ (List.mem_append_right _ (List.mem_append_right _ (List.mem_append_right _ (h)))))) hg
theorem up1 {q : MethodName × Nat} (h : q ∈ lw_privs_1) (hg : goodWord (.selects q.1.cls q.1 q.1) = true) : Cond.selects q.1.cls q.1 q.1 ∈ UW := uw_p (List.mem_map_of_mem (f := fun q : MethodName × Nat => Cond.selects q.1.cls q.1 q.1) (show q ∈ lw_privs from List.mem_append_left _ h)) hg
theorem up2 {q : MethodName × Nat} (h : q ∈ lw_privs_2) (hg : goodWord (.selects q.1.cls q.1 q.1) = true) : Cond.selects q.1.cls q.1 q.1 ∈ UW := uw_p (List.mem_map_of_mem (f := fun q : MethodName × Nat => Cond.selects q.1.cls q.1 q.1) (show q ∈ lw_privs from List.mem_append_right _ (List.mem_append_left _ h))) hg
theorem up3 {q : MethodName × Nat} (h : q ∈ lw_privs_3) (hg : goodWord (.selects q.1.cls q.1 q.1) = true) : Cond.selects q.1.cls q.1 q.1 ∈ UW := uw_p (List.mem_map_of_mem (f := fun q : MethodName × Nat => Cond.selects q.1.cls q.1 q.1) (show q ∈ lw_privs from List.mem_append_right _ (List.mem_append_right _ (List.mem_append_left _ h)))) hg
theorem up4 {q : MethodName × Nat} (h : q ∈ lw_privs_4) (hg : goodWord (.selects q.1.cls q.1 q.1) = true) : Cond.selects q.1.cls q.1 q.1 ∈ UW := uw_p (List.mem_map_of_mem (f := fun q : MethodName × Nat => Cond.selects q.1.cls q.1 q.1) (show q ∈ lw_privs from List.mem_append_right _ (List.mem_append_right _ (List.mem_append_right _ (List.mem_append_left _ h))))) hg
theorem up5 {q : MethodName × Nat} (h : q ∈ lw_privs_5) (hg : goodWord (.selects q.1.cls q.1 q.1) = true) : Cond.selects q.1.cls q.1 q.1 ∈ UW := uw_p (List.mem_map_of_mem (f := fun q : MethodName × Nat => Cond.selects q.1.cls q.1 q.1) (show q ∈ lw_privs from List.mem_append_right _ (List.mem_append_right _ (List.mem_append_right _ (List.mem_append_right _ (h)))))) hg
theorem q1_0 : (Jvm.Cond.initialized "CoinMeterLaw") ∈ UW := uw1 (List.mem_of_getElem? (i := 0) rfl) rfl
theorem q1_1 : (Jvm.Cond.initialized "CoinMeter") ∈ UW := uw1 (List.mem_of_getElem? (i := 1) rfl) rfl
theorem q1_2 : (Jvm.Cond.initialized "CoinMeter$Town") ∈ UW := uw1 (List.mem_of_getElem? (i := 2) rfl) rfl
theorem q1_3 : (Jvm.Cond.initialized "CoinMeter$Shops") ∈ UW := uw1 (List.mem_of_getElem? (i := 3) rfl) rfl
theorem q1_4 : (Jvm.Cond.initialized "CoinMeter$Laws") ∈ UW := uw1 (List.mem_of_getElem? (i := 4) rfl) rfl
theorem q1_5 : (Jvm.Cond.initialized "CoinMeter$Readings") ∈ UW := uw1 (List.mem_of_getElem? (i := 5) rfl) rfl
theorem q1_6 : (Jvm.Cond.initialized "CoinMeter$Toppings") ∈ UW := uw1 (List.mem_of_getElem? (i := 6) rfl) rfl
theorem q1_7 : (Jvm.Cond.initialized "CoinMeter$Meter") ∈ UW := uw1 (List.mem_of_getElem? (i := 7) rfl) rfl
theorem q1_8 : (Jvm.Cond.initialized "CoinMeter$LawReader") ∈ UW := uw1 (List.mem_of_getElem? (i := 8) rfl) rfl
theorem q1_9 : (Jvm.Cond.initialized "CoinMeter$Voices") ∈ UW := uw1 (List.mem_of_getElem? (i := 9) rfl) rfl
theorem q1_10 : (Jvm.Cond.initialized "CoinMeter$Sheet") ∈ UW := uw1 (List.mem_of_getElem? (i := 10) rfl) rfl
theorem q1_11 : (Jvm.Cond.initialized "CoinMeterModel") ∈ UW := uw1 (List.mem_of_getElem? (i := 11) rfl) rfl
theorem q1_12 : (Jvm.Cond.initialized "java/lang/Math") ∈ UW := uw1 (List.mem_of_getElem? (i := 12) rfl) rfl
theorem q1_13 : (Jvm.Cond.initialized "java/lang/System") ∈ UW := uw1 (List.mem_of_getElem? (i := 13) rfl) rfl
theorem q1_14 : (Jvm.Cond.initialized "java/lang/Integer") ∈ UW := uw1 (List.mem_of_getElem? (i := 14) rfl) rfl
theorem q1_15 : (Jvm.Cond.classLink "CoinMeterLaw" (7 : Nat) "CoinMeter") ∈ UW := uw1 (List.mem_of_getElem? (i := 15) rfl) rfl
theorem q1_16 : (Jvm.Cond.instantiable "CoinMeter" (9 : Nat)) ∈ UW := uw1 (List.mem_of_getElem? (i := 16) rfl) rfl
theorem q1_17 : (Jvm.Cond.methodLink "CoinMeterLaw" (9 : Nat) ({ cls := "CoinMeter", name := "<init>", desc := "()V" } : Jvm.MethodName)) ∈ UW := uw1 (List.mem_of_getElem? (i := 17) rfl) rfl
theorem q1_18 : (Jvm.Cond.instanceMethod ({ cls := "CoinMeter", name := "<init>", desc := "()V" } : Jvm.MethodName)) ∈ UW := uw1 (List.mem_of_getElem? (i := 18) rfl) rfl
theorem q1_19 : (Jvm.Cond.code ({ cls := "CoinMeter", name := "<init>", desc := "()V" } : Jvm.MethodName) prog_1_method_1_code (2 : Nat) (Option.none : Option Jvm.ClassFile.FieldType)) ∈ UW := uw1 (List.mem_of_getElem? (i := 19) rfl) rfl
theorem q1_20 : (Jvm.Cond.methodLink "CoinMeter" (1 : Nat) ({ cls := "java/lang/Object", name := "<init>", desc := "()V" } : Jvm.MethodName)) ∈ UW := uw1 (List.mem_of_getElem? (i := 20) rfl) rfl
theorem q1_21 : (Jvm.Cond.instanceMethod ({ cls := "java/lang/Object", name := "<init>", desc := "()V" } : Jvm.MethodName)) ∈ UW := uw1 (List.mem_of_getElem? (i := 21) rfl) rfl
theorem q1_22 : (Jvm.Cond.code ({ cls := "java/lang/Object", name := "<init>", desc := "()V" } : Jvm.MethodName) object_method_1_code (1 : Nat) (Option.none : Option Jvm.ClassFile.FieldType)) ∈ UW := uw1 (List.mem_of_getElem? (i := 22) rfl) rfl
theorem q1_23 : (Jvm.Cond.classLink "CoinMeter" (7 : Nat) "CoinMeter$Town") ∈ UW := uw1 (List.mem_of_getElem? (i := 23) rfl) rfl
theorem q1_24 : (Jvm.Cond.instantiable "CoinMeter$Town" (9 : Nat)) ∈ UW := uw1 (List.mem_of_getElem? (i := 24) rfl) rfl
theorem q1_25 : (Jvm.Cond.methodLink "CoinMeter" (9 : Nat) ({ cls := "CoinMeter$Town", name := "<init>", desc := "()V" } : Jvm.MethodName)) ∈ UW := uw1 (List.mem_of_getElem? (i := 25) rfl) rfl
theorem q1_26 : (Jvm.Cond.instanceMethod ({ cls := "CoinMeter$Town", name := "<init>", desc := "()V" } : Jvm.MethodName)) ∈ UW := uw1 (List.mem_of_getElem? (i := 26) rfl) rfl
theorem q1_27 : (Jvm.Cond.code ({ cls := "CoinMeter$Town", name := "<init>", desc := "()V" } : Jvm.MethodName) prog_9_method_1_code (2 : Nat) (Option.none : Option Jvm.ClassFile.FieldType)) ∈ UW := uw1 (List.mem_of_getElem? (i := 27) rfl) rfl
theorem q1_28 : (Jvm.Cond.methodLink "CoinMeter$Town" (3 : Nat) ({ cls := "java/lang/Object", name := "<init>", desc := "()V" } : Jvm.MethodName)) ∈ UW := uw1 (List.mem_of_getElem? (i := 28) rfl) rfl
theorem q1_29 : (Jvm.Cond.classLink "CoinMeter$Town" (9 : Nat) "CoinMeter$Meter") ∈ UW := uw1 (List.mem_of_getElem? (i := 29) rfl) rfl
theorem q1_31 : (Jvm.Cond.classLink "CoinMeter$Town" (17 : Nat) "CoinMeter$Shops") ∈ UW := uw1 (List.mem_of_getElem? (i := 31) rfl) rfl
theorem q1_32 : (Jvm.Cond.instantiable "CoinMeter$Shops" (5 : Nat)) ∈ UW := uw1 (List.mem_of_getElem? (i := 32) rfl) rfl
theorem q1_34 : (Jvm.Cond.instanceMethod ({ cls := "CoinMeter$Shops", name := "<init>", desc := "()V" } : Jvm.MethodName)) ∈ UW := uw1 (List.mem_of_getElem? (i := 34) rfl) rfl
theorem q1_35 : (Jvm.Cond.code ({ cls := "CoinMeter$Shops", name := "<init>", desc := "()V" } : Jvm.MethodName) prog_7_method_1_code (1 : Nat) (Option.none : Option Jvm.ClassFile.FieldType)) ∈ UW := uw1 (List.mem_of_getElem? (i := 35) rfl) rfl
theorem q1_36 : (Jvm.Cond.methodLink "CoinMeter$Shops" (3 : Nat) ({ cls := "java/lang/Object", name := "<init>", desc := "()V" } : Jvm.MethodName)) ∈ UW := uw1 (List.mem_of_getElem? (i := 36) rfl) rfl
theorem q1_37 : (Jvm.Cond.fieldLink "CoinMeter$Shops" (9 : Nat) "CoinMeter$Shops" "x" "[I") ∈ UW := uw1 (List.mem_of_getElem? (i := 37) rfl) rfl
theorem q1_38 : (Jvm.Cond.fieldLink "CoinMeter$Shops" (15 : Nat) "CoinMeter$Shops" "y" "[I") ∈ UW := uw1 (List.mem_of_getElem? (i := 38) rfl) rfl
theorem q1_39 : (Jvm.Cond.fieldLink "CoinMeter$Shops" (18 : Nat) "CoinMeter$Shops" "from" "[I") ∈ UW := uw1 (List.mem_of_getElem? (i := 39) rfl) rfl
theorem q1_40 : (Jvm.Cond.fieldLink "CoinMeter$Shops" (21 : Nat) "CoinMeter$Shops" "to" "[I") ∈ UW := uw1 (List.mem_of_getElem? (i := 40) rfl) rfl
theorem q1_41 : (Jvm.Cond.fieldLink "CoinMeter$Shops" (24 : Nat) "CoinMeter$Shops" "count" "I") ∈ UW := uw1 (List.mem_of_getElem? (i := 41) rfl) rfl
theorem q1_42 : (Jvm.Cond.fieldLink "CoinMeter" (165 : Nat) "CoinMeter$Shops" "count" "I") ∈ UW := uw1 (List.mem_of_getElem? (i := 42) rfl) rfl
theorem q1_43 : (Jvm.Cond.laysFinal "CoinMeter$Shops" "CoinMeter$Shops" "x" "[I") ∈ UW := uw1 (List.mem_of_getElem? (i := 43) rfl) rfl
theorem q1_45 : (Jvm.Cond.laysFinal "CoinMeter$Shops" "CoinMeter$Shops" "y" "[I") ∈ UW := uw1 (List.mem_of_getElem? (i := 45) rfl) rfl
theorem q1_47 : (Jvm.Cond.laysFinal "CoinMeter$Shops" "CoinMeter$Shops" "from" "[I") ∈ UW := uw1 (List.mem_of_getElem? (i := 47) rfl) rfl
theorem q1_49 : (Jvm.Cond.laysFinal "CoinMeter$Shops" "CoinMeter$Shops" "to" "[I") ∈ UW := uw1 (List.mem_of_getElem? (i := 49) rfl) rfl
theorem q1_51 : (Jvm.Cond.lays "CoinMeter$Shops" "CoinMeter$Shops" "count" "I") ∈ UW := uw1 (List.mem_of_getElem? (i := 51) rfl) rfl
theorem q1_53 : (Jvm.Cond.superclass "CoinMeter$Shops" "java/lang/Object") ∈ UW := uw1 (List.mem_of_getElem? (i := 53) rfl) rfl
theorem q1_54 : (Jvm.Cond.arrayClass Jvm.ClassFile.FieldType.int) ∈ UW := uw1 (List.mem_of_getElem? (i := 54) rfl) rfl
theorem q1_55 : (Jvm.Cond.classLink "CoinMeter$Town" (24 : Nat) "CoinMeter$Laws") ∈ UW := uw1 (List.mem_of_getElem? (i := 55) rfl) rfl
theorem q1_56 : (Jvm.Cond.instantiable "CoinMeter$Laws" (6 : Nat)) ∈ UW := uw1 (List.mem_of_getElem? (i := 56) rfl) rfl
theorem q1_58 : (Jvm.Cond.instanceMethod ({ cls := "CoinMeter$Laws", name := "<init>", desc := "()V" } : Jvm.MethodName)) ∈ UW := uw1 (List.mem_of_getElem? (i := 58) rfl) rfl
theorem q1_59 : (Jvm.Cond.code ({ cls := "CoinMeter$Laws", name := "<init>", desc := "()V" } : Jvm.MethodName) prog_3_method_1_code (1 : Nat) (Option.none : Option Jvm.ClassFile.FieldType)) ∈ UW := uw1 (List.mem_of_getElem? (i := 59) rfl) rfl
theorem q1_60 : (Jvm.Cond.methodLink "CoinMeter$Laws" (3 : Nat) ({ cls := "java/lang/Object", name := "<init>", desc := "()V" } : Jvm.MethodName)) ∈ UW := uw1 (List.mem_of_getElem? (i := 60) rfl) rfl
theorem q1_61 : (Jvm.Cond.fieldLink "CoinMeter$Laws" (9 : Nat) "CoinMeter$Laws" "use" "[I") ∈ UW := uw1 (List.mem_of_getElem? (i := 61) rfl) rfl
theorem q1_62 : (Jvm.Cond.fieldLink "CoinMeter$Laws" (15 : Nat) "CoinMeter$Laws" "from" "[I") ∈ UW := uw1 (List.mem_of_getElem? (i := 62) rfl) rfl
theorem q1_63 : (Jvm.Cond.fieldLink "CoinMeter$Laws" (18 : Nat) "CoinMeter$Laws" "length" "[I") ∈ UW := uw1 (List.mem_of_getElem? (i := 63) rfl) rfl
theorem q1_64 : (Jvm.Cond.fieldLink "CoinMeter$Laws" (21 : Nat) "CoinMeter$Laws" "codes" "[I") ∈ UW := uw1 (List.mem_of_getElem? (i := 64) rfl) rfl
theorem q1_65 : (Jvm.Cond.fieldLink "CoinMeter$Laws" (24 : Nat) "CoinMeter$Laws" "stack" "[I") ∈ UW := uw1 (List.mem_of_getElem? (i := 65) rfl) rfl
theorem q1_66 : (Jvm.Cond.fieldLink "CoinMeter$Laws" (27 : Nat) "CoinMeter$Laws" "count" "I") ∈ UW := uw1 (List.mem_of_getElem? (i := 66) rfl) rfl
theorem q1_67 : (Jvm.Cond.fieldLink "CoinMeter" (214 : Nat) "CoinMeter$Laws" "count" "I") ∈ UW := uw1 (List.mem_of_getElem? (i := 67) rfl) rfl
theorem q1_68 : (Jvm.Cond.laysFinal "CoinMeter$Laws" "CoinMeter$Laws" "use" "[I") ∈ UW := uw1 (List.mem_of_getElem? (i := 68) rfl) rfl
theorem q1_70 : (Jvm.Cond.laysFinal "CoinMeter$Laws" "CoinMeter$Laws" "from" "[I") ∈ UW := uw1 (List.mem_of_getElem? (i := 70) rfl) rfl
theorem q1_72 : (Jvm.Cond.laysFinal "CoinMeter$Laws" "CoinMeter$Laws" "length" "[I") ∈ UW := uw1 (List.mem_of_getElem? (i := 72) rfl) rfl
theorem q1_74 : (Jvm.Cond.laysFinal "CoinMeter$Laws" "CoinMeter$Laws" "codes" "[I") ∈ UW := uw1 (List.mem_of_getElem? (i := 74) rfl) rfl
theorem q1_76 : (Jvm.Cond.laysFinal "CoinMeter$Laws" "CoinMeter$Laws" "stack" "[I") ∈ UW := uw1 (List.mem_of_getElem? (i := 76) rfl) rfl
theorem q1_78 : (Jvm.Cond.lays "CoinMeter$Laws" "CoinMeter$Laws" "count" "I") ∈ UW := uw1 (List.mem_of_getElem? (i := 78) rfl) rfl
theorem q1_80 : (Jvm.Cond.superclass "CoinMeter$Laws" "java/lang/Object") ∈ UW := uw1 (List.mem_of_getElem? (i := 80) rfl) rfl
theorem q1_81 : (Jvm.Cond.classLink "CoinMeter$Town" (31 : Nat) "CoinMeter$Readings") ∈ UW := uw1 (List.mem_of_getElem? (i := 81) rfl) rfl
theorem q1_82 : (Jvm.Cond.instantiable "CoinMeter$Readings" (5 : Nat)) ∈ UW := uw1 (List.mem_of_getElem? (i := 82) rfl) rfl
theorem q1_84 : (Jvm.Cond.instanceMethod ({ cls := "CoinMeter$Readings", name := "<init>", desc := "()V" } : Jvm.MethodName)) ∈ UW := uw1 (List.mem_of_getElem? (i := 84) rfl) rfl
theorem q1_85 : (Jvm.Cond.code ({ cls := "CoinMeter$Readings", name := "<init>", desc := "()V" } : Jvm.MethodName) prog_5_method_1_code (1 : Nat) (Option.none : Option Jvm.ClassFile.FieldType)) ∈ UW := uw1 (List.mem_of_getElem? (i := 85) rfl) rfl
theorem q1_86 : (Jvm.Cond.methodLink "CoinMeter$Readings" (3 : Nat) ({ cls := "java/lang/Object", name := "<init>", desc := "()V" } : Jvm.MethodName)) ∈ UW := uw1 (List.mem_of_getElem? (i := 86) rfl) rfl
theorem q1_87 : (Jvm.Cond.fieldLink "CoinMeter$Readings" (9 : Nat) "CoinMeter$Readings" "meter" "[I") ∈ UW := uw1 (List.mem_of_getElem? (i := 87) rfl) rfl
theorem q1_88 : (Jvm.Cond.fieldLink "CoinMeter$Readings" (15 : Nat) "CoinMeter$Readings" "hour" "[I") ∈ UW := uw1 (List.mem_of_getElem? (i := 88) rfl) rfl
theorem q1_89 : (Jvm.Cond.fieldLink "CoinMeter" (253 : Nat) "CoinMeter$Readings" "hour" "[I") ∈ UW := uw1 (List.mem_of_getElem? (i := 89) rfl) rfl
theorem q1_90 : (Jvm.Cond.fieldLink "CoinMeter$Readings" (18 : Nat) "CoinMeter$Readings" "credit" "[I") ∈ UW := uw1 (List.mem_of_getElem? (i := 90) rfl) rfl
theorem q1_91 : (Jvm.Cond.fieldLink "CoinMeter" (255 : Nat) "CoinMeter$Readings" "credit" "[I") ∈ UW := uw1 (List.mem_of_getElem? (i := 91) rfl) rfl
theorem q1_92 : (Jvm.Cond.fieldLink "CoinMeter$Readings" (21 : Nat) "CoinMeter$Readings" "toldIn" "[I") ∈ UW := uw1 (List.mem_of_getElem? (i := 92) rfl) rfl
theorem q1_93 : (Jvm.Cond.fieldLink "CoinMeter$Readings" (24 : Nat) "CoinMeter$Readings" "count" "I") ∈ UW := uw1 (List.mem_of_getElem? (i := 93) rfl) rfl
theorem q1_94 : (Jvm.Cond.fieldLink "CoinMeter" (241 : Nat) "CoinMeter$Readings" "count" "I") ∈ UW := uw1 (List.mem_of_getElem? (i := 94) rfl) rfl
theorem q1_95 : (Jvm.Cond.laysFinal "CoinMeter$Readings" "CoinMeter$Readings" "meter" "[I") ∈ UW := uw1 (List.mem_of_getElem? (i := 95) rfl) rfl
theorem q1_97 : (Jvm.Cond.laysFinal "CoinMeter$Readings" "CoinMeter$Readings" "hour" "[I") ∈ UW := uw1 (List.mem_of_getElem? (i := 97) rfl) rfl
theorem q1_99 : (Jvm.Cond.laysFinal "CoinMeter$Readings" "CoinMeter$Readings" "credit" "[I") ∈ UW := uw1 (List.mem_of_getElem? (i := 99) rfl) rfl
theorem q1_101 : (Jvm.Cond.laysFinal "CoinMeter$Readings" "CoinMeter$Readings" "toldIn" "[I") ∈ UW := uw1 (List.mem_of_getElem? (i := 101) rfl) rfl
theorem q1_103 : (Jvm.Cond.lays "CoinMeter$Readings" "CoinMeter$Readings" "count" "I") ∈ UW := uw1 (List.mem_of_getElem? (i := 103) rfl) rfl
theorem q1_105 : (Jvm.Cond.superclass "CoinMeter$Readings" "java/lang/Object") ∈ UW := uw1 (List.mem_of_getElem? (i := 105) rfl) rfl
theorem q1_106 : (Jvm.Cond.classLink "CoinMeter$Town" (38 : Nat) "CoinMeter$Toppings") ∈ UW := uw1 (List.mem_of_getElem? (i := 106) rfl) rfl
theorem q1_107 : (Jvm.Cond.instantiable "CoinMeter$Toppings" (6 : Nat)) ∈ UW := uw1 (List.mem_of_getElem? (i := 107) rfl) rfl
theorem q1_109 : (Jvm.Cond.instanceMethod ({ cls := "CoinMeter$Toppings", name := "<init>", desc := "()V" } : Jvm.MethodName)) ∈ UW := uw1 (List.mem_of_getElem? (i := 109) rfl) rfl
theorem q1_110 : (Jvm.Cond.code ({ cls := "CoinMeter$Toppings", name := "<init>", desc := "()V" } : Jvm.MethodName) prog_8_method_1_code (1 : Nat) (Option.none : Option Jvm.ClassFile.FieldType)) ∈ UW := uw1 (List.mem_of_getElem? (i := 110) rfl) rfl
theorem q1_111 : (Jvm.Cond.methodLink "CoinMeter$Toppings" (3 : Nat) ({ cls := "java/lang/Object", name := "<init>", desc := "()V" } : Jvm.MethodName)) ∈ UW := uw1 (List.mem_of_getElem? (i := 111) rfl) rfl
theorem q1_112 : (Jvm.Cond.fieldLink "CoinMeter$Toppings" (9 : Nat) "CoinMeter$Toppings" "meter" "[I") ∈ UW := uw1 (List.mem_of_getElem? (i := 112) rfl) rfl
theorem q1_113 : (Jvm.Cond.fieldLink "CoinMeter$Toppings" (15 : Nat) "CoinMeter$Toppings" "hour" "[I") ∈ UW := uw1 (List.mem_of_getElem? (i := 113) rfl) rfl
theorem q1_114 : (Jvm.Cond.fieldLink "CoinMeter$Toppings" (18 : Nat) "CoinMeter$Toppings" "rest" "[I") ∈ UW := uw1 (List.mem_of_getElem? (i := 114) rfl) rfl
theorem q1_115 : (Jvm.Cond.fieldLink "CoinMeter$Toppings" (28 : Nat) "CoinMeter$Toppings" "count" "I") ∈ UW := uw1 (List.mem_of_getElem? (i := 115) rfl) rfl
theorem q1_116 : (Jvm.Cond.fieldLink "CoinMeter" (325 : Nat) "CoinMeter$Toppings" "count" "I") ∈ UW := uw1 (List.mem_of_getElem? (i := 116) rfl) rfl
theorem q1_117 : (Jvm.Cond.fieldLink "CoinMeter$Toppings" (21 : Nat) "CoinMeter$Toppings" "allPence" "I") ∈ UW := uw1 (List.mem_of_getElem? (i := 117) rfl) rfl
theorem q1_118 : (Jvm.Cond.fieldLink "CoinMeter" (326 : Nat) "CoinMeter$Toppings" "allPence" "I") ∈ UW := uw1 (List.mem_of_getElem? (i := 118) rfl) rfl
theorem q1_119 : (Jvm.Cond.fieldLink "CoinMeter$Toppings" (25 : Nat) "CoinMeter$Toppings" "allTaken" "I") ∈ UW := uw1 (List.mem_of_getElem? (i := 119) rfl) rfl
theorem q1_120 : (Jvm.Cond.fieldLink "CoinMeter" (329 : Nat) "CoinMeter$Toppings" "allTaken" "I") ∈ UW := uw1 (List.mem_of_getElem? (i := 120) rfl) rfl
theorem q1_121 : (Jvm.Cond.laysFinal "CoinMeter$Toppings" "CoinMeter$Toppings" "meter" "[I") ∈ UW := uw1 (List.mem_of_getElem? (i := 121) rfl) rfl
theorem q1_123 : (Jvm.Cond.laysFinal "CoinMeter$Toppings" "CoinMeter$Toppings" "hour" "[I") ∈ UW := uw1 (List.mem_of_getElem? (i := 123) rfl) rfl
theorem q1_125 : (Jvm.Cond.laysFinal "CoinMeter$Toppings" "CoinMeter$Toppings" "rest" "[I") ∈ UW := uw1 (List.mem_of_getElem? (i := 125) rfl) rfl
theorem q1_127 : (Jvm.Cond.lays "CoinMeter$Toppings" "CoinMeter$Toppings" "count" "I") ∈ UW := uw1 (List.mem_of_getElem? (i := 127) rfl) rfl
theorem q1_129 : (Jvm.Cond.lays "CoinMeter$Toppings" "CoinMeter$Toppings" "allPence" "I") ∈ UW := uw1 (List.mem_of_getElem? (i := 129) rfl) rfl
theorem q1_131 : (Jvm.Cond.lays "CoinMeter$Toppings" "CoinMeter$Toppings" "allTaken" "I") ∈ UW := uw1 (List.mem_of_getElem? (i := 131) rfl) rfl
theorem q1_133 : (Jvm.Cond.superclass "CoinMeter$Toppings" "java/lang/Object") ∈ UW := uw1 (List.mem_of_getElem? (i := 133) rfl) rfl
theorem q1_134 : (Jvm.Cond.instantiable "CoinMeter$Meter" (15 : Nat)) ∈ UW := uw1 (List.mem_of_getElem? (i := 134) rfl) rfl
theorem q1_136 : (Jvm.Cond.instanceMethod ({ cls := "CoinMeter$Meter", name := "<init>", desc := "()V" } : Jvm.MethodName)) ∈ UW := uw1 (List.mem_of_getElem? (i := 136) rfl) rfl
theorem q1_137 : (Jvm.Cond.code ({ cls := "CoinMeter$Meter", name := "<init>", desc := "()V" } : Jvm.MethodName) prog_4_method_1_code (1 : Nat) (Option.none : Option Jvm.ClassFile.FieldType)) ∈ UW := uw1 (List.mem_of_getElem? (i := 137) rfl) rfl
theorem q1_138 : (Jvm.Cond.methodLink "CoinMeter$Meter" (3 : Nat) ({ cls := "java/lang/Object", name := "<init>", desc := "()V" } : Jvm.MethodName)) ∈ UW := uw1 (List.mem_of_getElem? (i := 138) rfl) rfl
theorem q1_139 : (Jvm.Cond.fieldLink "CoinMeter$Meter" (9 : Nat) "CoinMeter$Meter" "loads" "[I") ∈ UW := uw1 (List.mem_of_getElem? (i := 139) rfl) rfl
theorem q1_140 : (Jvm.Cond.fieldLink "CoinMeter" (136 : Nat) "CoinMeter$Meter" "loads" "[I") ∈ UW := uw1 (List.mem_of_getElem? (i := 140) rfl) rfl
theorem q1_141 : (Jvm.Cond.fieldLink "CoinMeter$Town" (131 : Nat) "CoinMeter$Meter" "loads" "[I") ∈ UW := uw1 (List.mem_of_getElem? (i := 141) rfl) rfl
theorem q1_142 : (Jvm.Cond.fieldLink "CoinMeter$Meter" (15 : Nat) "CoinMeter$Meter" "number" "I") ∈ UW := uw1 (List.mem_of_getElem? (i := 142) rfl) rfl
theorem q1_143 : (Jvm.Cond.fieldLink "CoinMeter$Town" (68 : Nat) "CoinMeter$Meter" "number" "I") ∈ UW := uw1 (List.mem_of_getElem? (i := 143) rfl) rfl
theorem q1_144 : (Jvm.Cond.fieldLink "CoinMeter$Voices" (52 : Nat) "CoinMeter$Meter" "number" "I") ∈ UW := uw1 (List.mem_of_getElem? (i := 144) rfl) rfl
theorem q1_145 : (Jvm.Cond.fieldLink "CoinMeter$Meter" (19 : Nat) "CoinMeter$Meter" "kind" "I") ∈ UW := uw1 (List.mem_of_getElem? (i := 145) rfl) rfl
theorem q1_146 : (Jvm.Cond.fieldLink "CoinMeter$Voices" (19 : Nat) "CoinMeter$Meter" "kind" "I") ∈ UW := uw1 (List.mem_of_getElem? (i := 146) rfl) rfl
theorem q1_147 : (Jvm.Cond.fieldLink "CoinMeter" (86 : Nat) "CoinMeter$Meter" "kind" "I") ∈ UW := uw1 (List.mem_of_getElem? (i := 147) rfl) rfl
theorem q1_148 : (Jvm.Cond.fieldLink "CoinMeter$Town" (105 : Nat) "CoinMeter$Meter" "kind" "I") ∈ UW := uw1 (List.mem_of_getElem? (i := 148) rfl) rfl
theorem q1_149 : (Jvm.Cond.fieldLink "CoinMeter$Laws" (76 : Nat) "CoinMeter$Meter" "kind" "I") ∈ UW := uw1 (List.mem_of_getElem? (i := 149) rfl) rfl
theorem q1_150 : (Jvm.Cond.fieldLink "CoinMeter$Meter" (22 : Nat) "CoinMeter$Meter" "x" "I") ∈ UW := uw1 (List.mem_of_getElem? (i := 150) rfl) rfl
theorem q1_151 : (Jvm.Cond.fieldLink "CoinMeter$Voices" (42 : Nat) "CoinMeter$Meter" "x" "I") ∈ UW := uw1 (List.mem_of_getElem? (i := 151) rfl) rfl
theorem q1_152 : (Jvm.Cond.fieldLink "CoinMeter$Shops" (32 : Nat) "CoinMeter$Meter" "x" "I") ∈ UW := uw1 (List.mem_of_getElem? (i := 152) rfl) rfl
theorem q1_153 : (Jvm.Cond.fieldLink "CoinMeter$Meter" (25 : Nat) "CoinMeter$Meter" "y" "I") ∈ UW := uw1 (List.mem_of_getElem? (i := 153) rfl) rfl
theorem q1_154 : (Jvm.Cond.fieldLink "CoinMeter$Voices" (45 : Nat) "CoinMeter$Meter" "y" "I") ∈ UW := uw1 (List.mem_of_getElem? (i := 154) rfl) rfl
theorem q1_155 : (Jvm.Cond.fieldLink "CoinMeter$Shops" (42 : Nat) "CoinMeter$Meter" "y" "I") ∈ UW := uw1 (List.mem_of_getElem? (i := 155) rfl) rfl
theorem q1_156 : (Jvm.Cond.fieldLink "CoinMeter$Meter" (28 : Nat) "CoinMeter$Meter" "credit" "I") ∈ UW := uw1 (List.mem_of_getElem? (i := 156) rfl) rfl
theorem q1_157 : (Jvm.Cond.fieldLink "CoinMeter" (83 : Nat) "CoinMeter$Meter" "credit" "I") ∈ UW := uw1 (List.mem_of_getElem? (i := 157) rfl) rfl
theorem q1_158 : (Jvm.Cond.fieldLink "CoinMeter$Town" (78 : Nat) "CoinMeter$Meter" "credit" "I") ∈ UW := uw1 (List.mem_of_getElem? (i := 158) rfl) rfl
theorem q1_159 : (Jvm.Cond.fieldLink "CoinMeter$Laws" (79 : Nat) "CoinMeter$Meter" "credit" "I") ∈ UW := uw1 (List.mem_of_getElem? (i := 159) rfl) rfl
theorem q1_160 : (Jvm.Cond.fieldLink "CoinMeter$Meter" (31 : Nat) "CoinMeter$Meter" "debt" "I") ∈ UW := uw1 (List.mem_of_getElem? (i := 160) rfl) rfl
theorem q1_161 : (Jvm.Cond.fieldLink "CoinMeter$Town" (75 : Nat) "CoinMeter$Meter" "debt" "I") ∈ UW := uw1 (List.mem_of_getElem? (i := 161) rfl) rfl
theorem q1_162 : (Jvm.Cond.fieldLink "CoinMeter" (89 : Nat) "CoinMeter$Meter" "debt" "I") ∈ UW := uw1 (List.mem_of_getElem? (i := 162) rfl) rfl
theorem q1_163 : (Jvm.Cond.fieldLink "CoinMeter$Laws" (57 : Nat) "CoinMeter$Meter" "debt" "I") ∈ UW := uw1 (List.mem_of_getElem? (i := 163) rfl) rfl
theorem q1_164 : (Jvm.Cond.fieldLink "CoinMeter$Meter" (34 : Nat) "CoinMeter$Meter" "part" "I") ∈ UW := uw1 (List.mem_of_getElem? (i := 164) rfl) rfl
theorem q1_165 : (Jvm.Cond.fieldLink "CoinMeter" (92 : Nat) "CoinMeter$Meter" "part" "I") ∈ UW := uw1 (List.mem_of_getElem? (i := 165) rfl) rfl
theorem q1_166 : (Jvm.Cond.fieldLink "CoinMeter$Town" (120 : Nat) "CoinMeter$Meter" "part" "I") ∈ UW := uw1 (List.mem_of_getElem? (i := 166) rfl) rfl
theorem q1_167 : (Jvm.Cond.fieldLink "CoinMeter$Meter" (37 : Nat) "CoinMeter$Meter" "connected" "Z") ∈ UW := uw1 (List.mem_of_getElem? (i := 167) rfl) rfl
theorem q1_168 : (Jvm.Cond.fieldLink "CoinMeter" (95 : Nat) "CoinMeter$Meter" "connected" "Z") ∈ UW := uw1 (List.mem_of_getElem? (i := 168) rfl) rfl
theorem q1_169 : (Jvm.Cond.fieldLink "CoinMeter$Town" (96 : Nat) "CoinMeter$Meter" "connected" "Z") ∈ UW := uw1 (List.mem_of_getElem? (i := 169) rfl) rfl
theorem q1_170 : (Jvm.Cond.fieldLink "CoinMeter$Meter" (41 : Nat) "CoinMeter$Meter" "emergency" "Z") ∈ UW := uw1 (List.mem_of_getElem? (i := 170) rfl) rfl
theorem q1_171 : (Jvm.Cond.fieldLink "CoinMeter$Town" (81 : Nat) "CoinMeter$Meter" "emergency" "Z") ∈ UW := uw1 (List.mem_of_getElem? (i := 171) rfl) rfl
theorem q1_172 : (Jvm.Cond.fieldLink "CoinMeter" (99 : Nat) "CoinMeter$Meter" "emergency" "Z") ∈ UW := uw1 (List.mem_of_getElem? (i := 172) rfl) rfl
theorem q1_173 : (Jvm.Cond.fieldLink "CoinMeter$Meter" (44 : Nat) "CoinMeter$Meter" "used" "I") ∈ UW := uw1 (List.mem_of_getElem? (i := 173) rfl) rfl
theorem q1_174 : (Jvm.Cond.fieldLink "CoinMeter" (102 : Nat) "CoinMeter$Meter" "used" "I") ∈ UW := uw1 (List.mem_of_getElem? (i := 174) rfl) rfl
theorem q1_175 : (Jvm.Cond.fieldLink "CoinMeter$Town" (146 : Nat) "CoinMeter$Meter" "used" "I") ∈ UW := uw1 (List.mem_of_getElem? (i := 175) rfl) rfl
theorem q1_176 : (Jvm.Cond.fieldLink "CoinMeter$Meter" (47 : Nat) "CoinMeter$Meter" "usedToday" "I") ∈ UW := uw1 (List.mem_of_getElem? (i := 176) rfl) rfl
theorem q1_177 : (Jvm.Cond.fieldLink "CoinMeter" (105 : Nat) "CoinMeter$Meter" "usedToday" "I") ∈ UW := uw1 (List.mem_of_getElem? (i := 177) rfl) rfl
theorem q1_178 : (Jvm.Cond.fieldLink "CoinMeter$Town" (128 : Nat) "CoinMeter$Meter" "usedToday" "I") ∈ UW := uw1 (List.mem_of_getElem? (i := 178) rfl) rfl
theorem q1_179 : (Jvm.Cond.fieldLink "CoinMeter$Laws" (73 : Nat) "CoinMeter$Meter" "usedToday" "I") ∈ UW := uw1 (List.mem_of_getElem? (i := 179) rfl) rfl
theorem q1_180 : (Jvm.Cond.fieldLink "CoinMeter$Meter" (50 : Nat) "CoinMeter$Meter" "dark" "I") ∈ UW := uw1 (List.mem_of_getElem? (i := 180) rfl) rfl
theorem q1_181 : (Jvm.Cond.fieldLink "CoinMeter" (108 : Nat) "CoinMeter$Meter" "dark" "I") ∈ UW := uw1 (List.mem_of_getElem? (i := 181) rfl) rfl
theorem q1_182 : (Jvm.Cond.fieldLink "CoinMeter$Town" (102 : Nat) "CoinMeter$Meter" "dark" "I") ∈ UW := uw1 (List.mem_of_getElem? (i := 182) rfl) rfl
theorem q1_183 : (Jvm.Cond.fieldLink "CoinMeter$Meter" (53 : Nat) "CoinMeter$Meter" "behind" "I") ∈ UW := uw1 (List.mem_of_getElem? (i := 183) rfl) rfl
theorem q1_184 : (Jvm.Cond.fieldLink "CoinMeter" (111 : Nat) "CoinMeter$Meter" "behind" "I") ∈ UW := uw1 (List.mem_of_getElem? (i := 184) rfl) rfl
theorem q1_185 : (Jvm.Cond.fieldLink "CoinMeter$Town" (143 : Nat) "CoinMeter$Meter" "behind" "I") ∈ UW := uw1 (List.mem_of_getElem? (i := 185) rfl) rfl
theorem q1_186 : (Jvm.Cond.fieldLink "CoinMeter$Meter" (56 : Nat) "CoinMeter$Meter" "loaded" "I") ∈ UW := uw1 (List.mem_of_getElem? (i := 186) rfl) rfl
theorem q1_187 : (Jvm.Cond.fieldLink "CoinMeter$Town" (65 : Nat) "CoinMeter$Meter" "loaded" "I") ∈ UW := uw1 (List.mem_of_getElem? (i := 187) rfl) rfl
theorem q1_188 : (Jvm.Cond.laysFinal "CoinMeter$Meter" "CoinMeter$Meter" "loads" "[I") ∈ UW := uw1 (List.mem_of_getElem? (i := 188) rfl) rfl
theorem q1_190 : (Jvm.Cond.lays "CoinMeter$Meter" "CoinMeter$Meter" "number" "I") ∈ UW := uw1 (List.mem_of_getElem? (i := 190) rfl) rfl
theorem q1_192 : (Jvm.Cond.lays "CoinMeter$Meter" "CoinMeter$Meter" "kind" "I") ∈ UW := uw1 (List.mem_of_getElem? (i := 192) rfl) rfl
theorem q1_194 : (Jvm.Cond.lays "CoinMeter$Meter" "CoinMeter$Meter" "x" "I") ∈ UW := uw1 (List.mem_of_getElem? (i := 194) rfl) rfl
theorem q1_196 : (Jvm.Cond.lays "CoinMeter$Meter" "CoinMeter$Meter" "y" "I") ∈ UW := uw1 (List.mem_of_getElem? (i := 196) rfl) rfl
theorem q1_198 : (Jvm.Cond.lays "CoinMeter$Meter" "CoinMeter$Meter" "credit" "I") ∈ UW := uw1 (List.mem_of_getElem? (i := 198) rfl) rfl
theorem q1_200 : (Jvm.Cond.lays "CoinMeter$Meter" "CoinMeter$Meter" "debt" "I") ∈ UW := uw1 (List.mem_of_getElem? (i := 200) rfl) rfl
theorem q1_202 : (Jvm.Cond.lays "CoinMeter$Meter" "CoinMeter$Meter" "part" "I") ∈ UW := uw1 (List.mem_of_getElem? (i := 202) rfl) rfl
theorem q1_204 : (Jvm.Cond.lays "CoinMeter$Meter" "CoinMeter$Meter" "connected" "Z") ∈ UW := uw1 (List.mem_of_getElem? (i := 204) rfl) rfl
theorem q1_206 : (Jvm.Cond.lays "CoinMeter$Meter" "CoinMeter$Meter" "emergency" "Z") ∈ UW := uw1 (List.mem_of_getElem? (i := 206) rfl) rfl
theorem q1_208 : (Jvm.Cond.lays "CoinMeter$Meter" "CoinMeter$Meter" "used" "I") ∈ UW := uw1 (List.mem_of_getElem? (i := 208) rfl) rfl
theorem q1_210 : (Jvm.Cond.lays "CoinMeter$Meter" "CoinMeter$Meter" "usedToday" "I") ∈ UW := uw1 (List.mem_of_getElem? (i := 210) rfl) rfl
theorem q1_212 : (Jvm.Cond.lays "CoinMeter$Meter" "CoinMeter$Meter" "dark" "I") ∈ UW := uw1 (List.mem_of_getElem? (i := 212) rfl) rfl
theorem q1_214 : (Jvm.Cond.lays "CoinMeter$Meter" "CoinMeter$Meter" "behind" "I") ∈ UW := uw1 (List.mem_of_getElem? (i := 214) rfl) rfl
theorem q1_216 : (Jvm.Cond.lays "CoinMeter$Meter" "CoinMeter$Meter" "loaded" "I") ∈ UW := uw1 (List.mem_of_getElem? (i := 216) rfl) rfl
theorem q1_218 : (Jvm.Cond.superclass "CoinMeter$Meter" "java/lang/Object") ∈ UW := uw1 (List.mem_of_getElem? (i := 218) rfl) rfl
theorem q1_219 : (Jvm.Cond.arrayClass Jvm.ClassFile.FieldType.byte) ∈ UW := uw1 (List.mem_of_getElem? (i := 219) rfl) rfl
theorem q1_220 : (Jvm.Cond.fieldLink "CoinMeter$Town" (11 : Nat) "CoinMeter$Town" "meters" "[LCoinMeter$Meter;") ∈ UW := uw1 (List.mem_of_getElem? (i := 220) rfl) rfl
theorem q1_221 : (Jvm.Cond.fieldLink "CoinMeter" (76 : Nat) "CoinMeter$Town" "meters" "[LCoinMeter$Meter;") ∈ UW := uw1 (List.mem_of_getElem? (i := 221) rfl) rfl
theorem q1_222 : (Jvm.Cond.fieldLink "CoinMeter$Town" (20 : Nat) "CoinMeter$Town" "shops" "LCoinMeter$Shops;") ∈ UW := uw1 (List.mem_of_getElem? (i := 222) rfl) rfl
theorem q1_223 : (Jvm.Cond.fieldLink "CoinMeter" (161 : Nat) "CoinMeter$Town" "shops" "LCoinMeter$Shops;") ∈ UW := uw1 (List.mem_of_getElem? (i := 223) rfl) rfl
theorem q1_224 : (Jvm.Cond.fieldLink "CoinMeter$Town" (27 : Nat) "CoinMeter$Town" "laws" "LCoinMeter$Laws;") ∈ UW := uw1 (List.mem_of_getElem? (i := 224) rfl) rfl
theorem q1_225 : (Jvm.Cond.fieldLink "CoinMeter" (114 : Nat) "CoinMeter$Town" "laws" "LCoinMeter$Laws;") ∈ UW := uw1 (List.mem_of_getElem? (i := 225) rfl) rfl
theorem q1_226 : (Jvm.Cond.fieldLink "CoinMeter$Town" (34 : Nat) "CoinMeter$Town" "readings" "LCoinMeter$Readings;") ∈ UW := uw1 (List.mem_of_getElem? (i := 226) rfl) rfl
theorem q1_227 : (Jvm.Cond.fieldLink "CoinMeter" (237 : Nat) "CoinMeter$Town" "readings" "LCoinMeter$Readings;") ∈ UW := uw1 (List.mem_of_getElem? (i := 227) rfl) rfl
theorem q1_228 : (Jvm.Cond.fieldLink "CoinMeter$Town" (41 : Nat) "CoinMeter$Town" "toppings" "LCoinMeter$Toppings;") ∈ UW := uw1 (List.mem_of_getElem? (i := 228) rfl) rfl
theorem q1_229 : (Jvm.Cond.fieldLink "CoinMeter" (192 : Nat) "CoinMeter$Town" "toppings" "LCoinMeter$Toppings;") ∈ UW := uw1 (List.mem_of_getElem? (i := 229) rfl) rfl
theorem q1_230 : (Jvm.Cond.fieldLink "CoinMeter$Town" (45 : Nat) "CoinMeter$Town" "tape" "[B") ∈ UW := uw1 (List.mem_of_getElem? (i := 230) rfl) rfl
theorem q1_231 : (Jvm.Cond.fieldLink "CoinMeter" (204 : Nat) "CoinMeter$Town" "tape" "[B") ∈ UW := uw1 (List.mem_of_getElem? (i := 231) rfl) rfl
theorem q1_232 : (Jvm.Cond.fieldLink "CoinMeter$Town" (50 : Nat) "CoinMeter$Town" "meterCount" "I") ∈ UW := uw1 (List.mem_of_getElem? (i := 232) rfl) rfl
theorem q1_233 : (Jvm.Cond.fieldLink "CoinMeter" (65 : Nat) "CoinMeter$Town" "meterCount" "I") ∈ UW := uw1 (List.mem_of_getElem? (i := 233) rfl) rfl
theorem q1_234 : (Jvm.Cond.fieldLink "CoinMeter$Town" (171 : Nat) "CoinMeter$Town" "tapeLength" "I") ∈ UW := uw1 (List.mem_of_getElem? (i := 234) rfl) rfl
theorem q1_235 : (Jvm.Cond.fieldLink "CoinMeter" (201 : Nat) "CoinMeter$Town" "tapeLength" "I") ∈ UW := uw1 (List.mem_of_getElem? (i := 235) rfl) rfl
theorem q1_236 : (Jvm.Cond.fieldLink "CoinMeter$Town" (58 : Nat) "CoinMeter$Town" "hour" "I") ∈ UW := uw1 (List.mem_of_getElem? (i := 236) rfl) rfl
theorem q1_237 : (Jvm.Cond.fieldLink "CoinMeter" (118 : Nat) "CoinMeter$Town" "hour" "I") ∈ UW := uw1 (List.mem_of_getElem? (i := 237) rfl) rfl
theorem q1_238 : (Jvm.Cond.laysFinal "CoinMeter$Town" "CoinMeter$Town" "meters" "[LCoinMeter$Meter;") ∈ UW := uw1 (List.mem_of_getElem? (i := 238) rfl) rfl
theorem q2_0 : (Jvm.Cond.laysFinal "CoinMeter$Town" "CoinMeter$Town" "shops" "LCoinMeter$Shops;") ∈ UW := uw2 (List.mem_of_getElem? (i := 0) rfl) rfl
theorem q2_2 : (Jvm.Cond.laysFinal "CoinMeter$Town" "CoinMeter$Town" "laws" "LCoinMeter$Laws;") ∈ UW := uw2 (List.mem_of_getElem? (i := 2) rfl) rfl
theorem q2_4 : (Jvm.Cond.laysFinal "CoinMeter$Town" "CoinMeter$Town" "readings" "LCoinMeter$Readings;") ∈ UW := uw2 (List.mem_of_getElem? (i := 4) rfl) rfl
theorem q2_6 : (Jvm.Cond.laysFinal "CoinMeter$Town" "CoinMeter$Town" "toppings" "LCoinMeter$Toppings;") ∈ UW := uw2 (List.mem_of_getElem? (i := 6) rfl) rfl
theorem q2_8 : (Jvm.Cond.laysFinal "CoinMeter$Town" "CoinMeter$Town" "tape" "[B") ∈ UW := uw2 (List.mem_of_getElem? (i := 8) rfl) rfl
theorem q2_10 : (Jvm.Cond.lays "CoinMeter$Town" "CoinMeter$Town" "meterCount" "I") ∈ UW := uw2 (List.mem_of_getElem? (i := 10) rfl) rfl
theorem q2_12 : (Jvm.Cond.lays "CoinMeter$Town" "CoinMeter$Town" "tapeLength" "I") ∈ UW := uw2 (List.mem_of_getElem? (i := 12) rfl) rfl
theorem q2_14 : (Jvm.Cond.lays "CoinMeter$Town" "CoinMeter$Town" "hour" "I") ∈ UW := uw2 (List.mem_of_getElem? (i := 14) rfl) rfl
theorem q2_16 : (Jvm.Cond.superclass "CoinMeter$Town" "java/lang/Object") ∈ UW := uw2 (List.mem_of_getElem? (i := 16) rfl) rfl
theorem q2_17 : (Jvm.Cond.classLink "CoinMeter" (19 : Nat) "CoinMeter$Meter") ∈ UW := uw2 (List.mem_of_getElem? (i := 17) rfl) rfl
theorem q2_19 : (Jvm.Cond.classLink "CoinMeter" (26 : Nat) "CoinMeter$LawReader") ∈ UW := uw2 (List.mem_of_getElem? (i := 19) rfl) rfl
theorem q2_20 : (Jvm.Cond.instantiable "CoinMeter$LawReader" (6 : Nat)) ∈ UW := uw2 (List.mem_of_getElem? (i := 20) rfl) rfl
theorem q2_22 : (Jvm.Cond.instanceMethod ({ cls := "CoinMeter$LawReader", name := "<init>", desc := "()V" } : Jvm.MethodName)) ∈ UW := uw2 (List.mem_of_getElem? (i := 22) rfl) rfl
theorem q2_23 : (Jvm.Cond.code ({ cls := "CoinMeter$LawReader", name := "<init>", desc := "()V" } : Jvm.MethodName) prog_2_method_1_code (1 : Nat) (Option.none : Option Jvm.ClassFile.FieldType)) ∈ UW := uw2 (List.mem_of_getElem? (i := 23) rfl) rfl
theorem q2_24 : (Jvm.Cond.methodLink "CoinMeter$LawReader" (3 : Nat) ({ cls := "java/lang/Object", name := "<init>", desc := "()V" } : Jvm.MethodName)) ∈ UW := uw2 (List.mem_of_getElem? (i := 24) rfl) rfl
theorem q2_25 : (Jvm.Cond.fieldLink "CoinMeter$LawReader" (9 : Nat) "CoinMeter$LawReader" "codes" "[I") ∈ UW := uw2 (List.mem_of_getElem? (i := 25) rfl) rfl
theorem q2_26 : (Jvm.Cond.fieldLink "CoinMeter$Laws" (34 : Nat) "CoinMeter$LawReader" "codes" "[I") ∈ UW := uw2 (List.mem_of_getElem? (i := 26) rfl) rfl
theorem q2_27 : (Jvm.Cond.fieldLink "CoinMeter$LawReader" (26 : Nat) "CoinMeter$LawReader" "count" "I") ∈ UW := uw2 (List.mem_of_getElem? (i := 27) rfl) rfl
theorem q2_28 : (Jvm.Cond.fieldLink "CoinMeter$Laws" (31 : Nat) "CoinMeter$LawReader" "count" "I") ∈ UW := uw2 (List.mem_of_getElem? (i := 28) rfl) rfl
theorem q2_29 : (Jvm.Cond.fieldLink "CoinMeter$LawReader" (15 : Nat) "CoinMeter$LawReader" "text" "[B") ∈ UW := uw2 (List.mem_of_getElem? (i := 29) rfl) rfl
theorem q2_30 : (Jvm.Cond.fieldLink "CoinMeter$LawReader" (19 : Nat) "CoinMeter$LawReader" "length" "I") ∈ UW := uw2 (List.mem_of_getElem? (i := 30) rfl) rfl
theorem q2_31 : (Jvm.Cond.fieldLink "CoinMeter$LawReader" (23 : Nat) "CoinMeter$LawReader" "at" "I") ∈ UW := uw2 (List.mem_of_getElem? (i := 31) rfl) rfl
theorem q2_32 : (Jvm.Cond.fieldLink "CoinMeter$LawReader" (29 : Nat) "CoinMeter$LawReader" "fault" "I") ∈ UW := uw2 (List.mem_of_getElem? (i := 32) rfl) rfl
theorem q2_33 : (Jvm.Cond.laysFinal "CoinMeter$LawReader" "CoinMeter$LawReader" "codes" "[I") ∈ UW := uw2 (List.mem_of_getElem? (i := 33) rfl) rfl
theorem q2_35 : (Jvm.Cond.lays "CoinMeter$LawReader" "CoinMeter$LawReader" "count" "I") ∈ UW := uw2 (List.mem_of_getElem? (i := 35) rfl) rfl
theorem q2_37 : (Jvm.Cond.lays "CoinMeter$LawReader" "CoinMeter$LawReader" "text" "[B") ∈ UW := uw2 (List.mem_of_getElem? (i := 37) rfl) rfl
theorem q2_39 : (Jvm.Cond.lays "CoinMeter$LawReader" "CoinMeter$LawReader" "length" "I") ∈ UW := uw2 (List.mem_of_getElem? (i := 39) rfl) rfl
theorem q2_41 : (Jvm.Cond.lays "CoinMeter$LawReader" "CoinMeter$LawReader" "at" "I") ∈ UW := uw2 (List.mem_of_getElem? (i := 41) rfl) rfl
theorem q2_43 : (Jvm.Cond.lays "CoinMeter$LawReader" "CoinMeter$LawReader" "fault" "I") ∈ UW := uw2 (List.mem_of_getElem? (i := 43) rfl) rfl
theorem q2_45 : (Jvm.Cond.superclass "CoinMeter$LawReader" "java/lang/Object") ∈ UW := uw2 (List.mem_of_getElem? (i := 45) rfl) rfl
theorem q2_46 : (Jvm.Cond.classLink "CoinMeter" (33 : Nat) "CoinMeter$Voices") ∈ UW := uw2 (List.mem_of_getElem? (i := 46) rfl) rfl
theorem q2_47 : (Jvm.Cond.instantiable "CoinMeter$Voices" (2 : Nat)) ∈ UW := uw2 (List.mem_of_getElem? (i := 47) rfl) rfl
theorem q2_49 : (Jvm.Cond.instanceMethod ({ cls := "CoinMeter$Voices", name := "<init>", desc := "()V" } : Jvm.MethodName)) ∈ UW := uw2 (List.mem_of_getElem? (i := 49) rfl) rfl
theorem q2_50 : (Jvm.Cond.code ({ cls := "CoinMeter$Voices", name := "<init>", desc := "()V" } : Jvm.MethodName) prog_10_method_1_code (1 : Nat) (Option.none : Option Jvm.ClassFile.FieldType)) ∈ UW := uw2 (List.mem_of_getElem? (i := 50) rfl) rfl
theorem q2_51 : (Jvm.Cond.methodLink "CoinMeter$Voices" (3 : Nat) ({ cls := "java/lang/Object", name := "<init>", desc := "()V" } : Jvm.MethodName)) ∈ UW := uw2 (List.mem_of_getElem? (i := 51) rfl) rfl
theorem q2_52 : (Jvm.Cond.fieldLink "CoinMeter$Voices" (11 : Nat) "CoinMeter$Voices" "bodies" "[I") ∈ UW := uw2 (List.mem_of_getElem? (i := 52) rfl) rfl
theorem q2_53 : (Jvm.Cond.fieldLink "CoinMeter" (290 : Nat) "CoinMeter$Voices" "bodies" "[I") ∈ UW := uw2 (List.mem_of_getElem? (i := 53) rfl) rfl
theorem q2_54 : (Jvm.Cond.fieldLink "CoinMeter$Voices" (15 : Nat) "CoinMeter$Voices" "count" "I") ∈ UW := uw2 (List.mem_of_getElem? (i := 54) rfl) rfl
theorem q2_55 : (Jvm.Cond.fieldLink "CoinMeter" (289 : Nat) "CoinMeter$Voices" "count" "I") ∈ UW := uw2 (List.mem_of_getElem? (i := 55) rfl) rfl
theorem q2_56 : (Jvm.Cond.laysFinal "CoinMeter$Voices" "CoinMeter$Voices" "bodies" "[I") ∈ UW := uw2 (List.mem_of_getElem? (i := 56) rfl) rfl
theorem q2_58 : (Jvm.Cond.lays "CoinMeter$Voices" "CoinMeter$Voices" "count" "I") ∈ UW := uw2 (List.mem_of_getElem? (i := 58) rfl) rfl
theorem q2_60 : (Jvm.Cond.superclass "CoinMeter$Voices" "java/lang/Object") ∈ UW := uw2 (List.mem_of_getElem? (i := 60) rfl) rfl
theorem q2_61 : (Jvm.Cond.classLink "CoinMeter" (40 : Nat) "CoinMeter$Sheet") ∈ UW := uw2 (List.mem_of_getElem? (i := 61) rfl) rfl
theorem q2_63 : (Jvm.Cond.instantiable "CoinMeter$Sheet" (3 : Nat)) ∈ UW := uw2 (List.mem_of_getElem? (i := 63) rfl) rfl
theorem q2_65 : (Jvm.Cond.instanceMethod ({ cls := "CoinMeter$Sheet", name := "<init>", desc := "()V" } : Jvm.MethodName)) ∈ UW := uw2 (List.mem_of_getElem? (i := 65) rfl) rfl
theorem q2_66 : (Jvm.Cond.code ({ cls := "CoinMeter$Sheet", name := "<init>", desc := "()V" } : Jvm.MethodName) prog_6_method_1_code (1 : Nat) (Option.none : Option Jvm.ClassFile.FieldType)) ∈ UW := uw2 (List.mem_of_getElem? (i := 66) rfl) rfl
theorem q2_67 : (Jvm.Cond.methodLink "CoinMeter$Sheet" (3 : Nat) ({ cls := "java/lang/Object", name := "<init>", desc := "()V" } : Jvm.MethodName)) ∈ UW := uw2 (List.mem_of_getElem? (i := 67) rfl) rfl
theorem q2_68 : (Jvm.Cond.fieldLink "CoinMeter$Sheet" (9 : Nat) "CoinMeter$Sheet" "numbers" "[I") ∈ UW := uw2 (List.mem_of_getElem? (i := 68) rfl) rfl
theorem q2_69 : (Jvm.Cond.fieldLink "CoinMeter" (309 : Nat) "CoinMeter$Sheet" "numbers" "[I") ∈ UW := uw2 (List.mem_of_getElem? (i := 69) rfl) rfl
theorem q2_70 : (Jvm.Cond.fieldLink "CoinMeter$Sheet" (15 : Nat) "CoinMeter$Sheet" "bits" "I") ∈ UW := uw2 (List.mem_of_getElem? (i := 70) rfl) rfl
theorem q2_71 : (Jvm.Cond.fieldLink "CoinMeter" (303 : Nat) "CoinMeter$Sheet" "bits" "I") ∈ UW := uw2 (List.mem_of_getElem? (i := 71) rfl) rfl
theorem q2_72 : (Jvm.Cond.fieldLink "CoinMeter$Sheet" (23 : Nat) "CoinMeter$Sheet" "count" "I") ∈ UW := uw2 (List.mem_of_getElem? (i := 72) rfl) rfl
theorem q2_73 : (Jvm.Cond.fieldLink "CoinMeter" (299 : Nat) "CoinMeter$Sheet" "count" "I") ∈ UW := uw2 (List.mem_of_getElem? (i := 73) rfl) rfl
theorem q2_74 : (Jvm.Cond.laysFinal "CoinMeter$Sheet" "CoinMeter$Sheet" "numbers" "[I") ∈ UW := uw2 (List.mem_of_getElem? (i := 74) rfl) rfl
theorem q2_76 : (Jvm.Cond.lays "CoinMeter$Sheet" "CoinMeter$Sheet" "bits" "I") ∈ UW := uw2 (List.mem_of_getElem? (i := 76) rfl) rfl
theorem q2_78 : (Jvm.Cond.lays "CoinMeter$Sheet" "CoinMeter$Sheet" "count" "I") ∈ UW := uw2 (List.mem_of_getElem? (i := 78) rfl) rfl
theorem q2_80 : (Jvm.Cond.superclass "CoinMeter$Sheet" "java/lang/Object") ∈ UW := uw2 (List.mem_of_getElem? (i := 80) rfl) rfl
theorem q2_81 : (Jvm.Cond.fieldLink "CoinMeter" (10 : Nat) "CoinMeter" "now" "LCoinMeter$Town;") ∈ UW := uw2 (List.mem_of_getElem? (i := 81) rfl) rfl
theorem q2_82 : (Jvm.Cond.fieldLink "CoinMeter" (16 : Nat) "CoinMeter" "kept" "LCoinMeter$Town;") ∈ UW := uw2 (List.mem_of_getElem? (i := 82) rfl) rfl
theorem q2_83 : (Jvm.Cond.fieldLink "CoinMeter" (22 : Nat) "CoinMeter" "trial" "LCoinMeter$Meter;") ∈ UW := uw2 (List.mem_of_getElem? (i := 83) rfl) rfl
theorem q2_84 : (Jvm.Cond.fieldLink "CoinMeter" (29 : Nat) "CoinMeter" "reader" "LCoinMeter$LawReader;") ∈ UW := uw2 (List.mem_of_getElem? (i := 84) rfl) rfl
theorem q2_85 : (Jvm.Cond.fieldLink "CoinMeter" (36 : Nat) "CoinMeter" "voices" "LCoinMeter$Voices;") ∈ UW := uw2 (List.mem_of_getElem? (i := 85) rfl) rfl
theorem q2_86 : (Jvm.Cond.fieldLink "CoinMeter" (42 : Nat) "CoinMeter" "sheets" "[LCoinMeter$Sheet;") ∈ UW := uw2 (List.mem_of_getElem? (i := 86) rfl) rfl
theorem q2_87 : (Jvm.Cond.fieldLink "CoinMeter" (46 : Nat) "CoinMeter" "findings" "[I") ∈ UW := uw2 (List.mem_of_getElem? (i := 87) rfl) rfl
theorem q2_88 : (Jvm.Cond.fieldLink "CoinMeter" (50 : Nat) "CoinMeter" "near" "[I") ∈ UW := uw2 (List.mem_of_getElem? (i := 88) rfl) rfl
theorem q2_89 : (Jvm.Cond.fieldLink "CoinMeter" (322 : Nat) "CoinMeter" "images" "I") ∈ UW := uw2 (List.mem_of_getElem? (i := 89) rfl) rfl
theorem q2_90 : (Jvm.Cond.laysFinal "CoinMeter" "CoinMeter" "now" "LCoinMeter$Town;") ∈ UW := uw2 (List.mem_of_getElem? (i := 90) rfl) rfl
theorem q2_92 : (Jvm.Cond.laysFinal "CoinMeter" "CoinMeter" "kept" "LCoinMeter$Town;") ∈ UW := uw2 (List.mem_of_getElem? (i := 92) rfl) rfl
theorem q2_94 : (Jvm.Cond.laysFinal "CoinMeter" "CoinMeter" "trial" "LCoinMeter$Meter;") ∈ UW := uw2 (List.mem_of_getElem? (i := 94) rfl) rfl
theorem q2_96 : (Jvm.Cond.laysFinal "CoinMeter" "CoinMeter" "reader" "LCoinMeter$LawReader;") ∈ UW := uw2 (List.mem_of_getElem? (i := 96) rfl) rfl
theorem q2_98 : (Jvm.Cond.laysFinal "CoinMeter" "CoinMeter" "voices" "LCoinMeter$Voices;") ∈ UW := uw2 (List.mem_of_getElem? (i := 98) rfl) rfl
theorem q2_100 : (Jvm.Cond.laysFinal "CoinMeter" "CoinMeter" "sheets" "[LCoinMeter$Sheet;") ∈ UW := uw2 (List.mem_of_getElem? (i := 100) rfl) rfl
theorem q2_102 : (Jvm.Cond.laysFinal "CoinMeter" "CoinMeter" "findings" "[I") ∈ UW := uw2 (List.mem_of_getElem? (i := 102) rfl) rfl
theorem q2_104 : (Jvm.Cond.laysFinal "CoinMeter" "CoinMeter" "near" "[I") ∈ UW := uw2 (List.mem_of_getElem? (i := 104) rfl) rfl
theorem q2_106 : (Jvm.Cond.lays "CoinMeter" "CoinMeter" "images" "I") ∈ UW := uw2 (List.mem_of_getElem? (i := 106) rfl) rfl
theorem q2_108 : (Jvm.Cond.superclass "CoinMeter" "java/lang/Object") ∈ UW := uw2 (List.mem_of_getElem? (i := 108) rfl) rfl
theorem q2_109 : (Jvm.Cond.methodLink "CoinMeterLaw" (13 : Nat) ({ cls := "CoinMeter", name := "meter", desc := "(II)I" } : Jvm.MethodName)) ∈ UW := uw2 (List.mem_of_getElem? (i := 109) rfl) rfl
theorem q2_110 : (Jvm.Cond.instanceMethod ({ cls := "CoinMeter", name := "meter", desc := "(II)I" } : Jvm.MethodName)) ∈ UW := uw2 (List.mem_of_getElem? (i := 110) rfl) rfl
theorem q2_111 : (Jvm.Cond.selects "CoinMeter" ({ cls := "CoinMeter", name := "meter", desc := "(II)I" } : Jvm.MethodName) ({ cls := "CoinMeter", name := "meter", desc := "(II)I" } : Jvm.MethodName)) ∈ UW := uw2 (List.mem_of_getElem? (i := 111) rfl) rfl
theorem q2_112 : (Jvm.Cond.code ({ cls := "CoinMeter", name := "meter", desc := "(II)I" } : Jvm.MethodName) prog_1_method_2_code (3 : Nat) (Option.some Jvm.ClassFile.FieldType.int)) ∈ UW := uw2 (List.mem_of_getElem? (i := 112) rfl) rfl
theorem q2_113 : (Jvm.Cond.methodLink "CoinMeter" (54 : Nat) ({ cls := "CoinMeter", name := "isKind", desc := "(I)Z" } : Jvm.MethodName)) ∈ UW := uw2 (List.mem_of_getElem? (i := 113) rfl) rfl
theorem q2_114 : (Jvm.Cond.static ({ cls := "CoinMeter", name := "isKind", desc := "(I)Z" } : Jvm.MethodName)) ∈ UW := uw2 (List.mem_of_getElem? (i := 114) rfl) rfl
theorem q2_115 : (Jvm.Cond.code ({ cls := "CoinMeter", name := "isKind", desc := "(I)Z" } : Jvm.MethodName) prog_1_method_40_code (1 : Nat) (Option.some Jvm.ClassFile.FieldType.boolean)) ∈ UW := uw2 (List.mem_of_getElem? (i := 115) rfl) rfl
theorem q2_116 : (Jvm.Cond.methodLink "CoinMeter" (58 : Nat) ({ cls := "CoinMeter", name := "isPlace", desc := "(I)Z" } : Jvm.MethodName)) ∈ UW := uw2 (List.mem_of_getElem? (i := 116) rfl) rfl
theorem q2_117 : (Jvm.Cond.static ({ cls := "CoinMeter", name := "isPlace", desc := "(I)Z" } : Jvm.MethodName)) ∈ UW := uw2 (List.mem_of_getElem? (i := 117) rfl) rfl
theorem q2_118 : (Jvm.Cond.code ({ cls := "CoinMeter", name := "isPlace", desc := "(I)Z" } : Jvm.MethodName) prog_1_method_41_code (1 : Nat) (Option.some Jvm.ClassFile.FieldType.boolean)) ∈ UW := uw2 (List.mem_of_getElem? (i := 118) rfl) rfl
theorem q2_119 : (Jvm.Cond.methodLink "CoinMeter" (61 : Nat) ({ cls := "CoinMeter", name := "finding", desc := "(I)I" } : Jvm.MethodName)) ∈ UW := uw2 (List.mem_of_getElem? (i := 119) rfl) rfl
theorem q2_121 : (Jvm.Cond.instanceMethod ({ cls := "CoinMeter", name := "finding", desc := "(I)I" } : Jvm.MethodName)) ∈ UW := uw2 (List.mem_of_getElem? (i := 121) rfl) rfl
theorem q2_122 : (Jvm.Cond.code ({ cls := "CoinMeter", name := "finding", desc := "(I)I" } : Jvm.MethodName) prog_1_method_35_code (2 : Nat) (Option.some Jvm.ClassFile.FieldType.int)) ∈ UW := uw2 (List.mem_of_getElem? (i := 122) rfl) rfl
theorem q2_123 : (Jvm.Cond.constant "CoinMeter" (338 : Nat) (-1000000 : Int32)) ∈ UW := uw2 (List.mem_of_getElem? (i := 123) rfl) rfl
theorem q2_124 : (Jvm.Cond.methodLink "CoinMeter" (69 : Nat) ({ cls := "CoinMeter$Town", name := "addMeter", desc := "(II)I" } : Jvm.MethodName)) ∈ UW := uw2 (List.mem_of_getElem? (i := 124) rfl) rfl
theorem q2_125 : (Jvm.Cond.instanceMethod ({ cls := "CoinMeter$Town", name := "addMeter", desc := "(II)I" } : Jvm.MethodName)) ∈ UW := uw2 (List.mem_of_getElem? (i := 125) rfl) rfl
theorem q2_126 : (Jvm.Cond.selects "CoinMeter$Town" ({ cls := "CoinMeter$Town", name := "addMeter", desc := "(II)I" } : Jvm.MethodName) ({ cls := "CoinMeter$Town", name := "addMeter", desc := "(II)I" } : Jvm.MethodName)) ∈ UW := uw2 (List.mem_of_getElem? (i := 126) rfl) rfl
theorem q2_127 : (Jvm.Cond.code ({ cls := "CoinMeter$Town", name := "addMeter", desc := "(II)I" } : Jvm.MethodName) prog_9_method_3_code (4 : Nat) (Option.some Jvm.ClassFile.FieldType.int)) ∈ UW := uw2 (List.mem_of_getElem? (i := 127) rfl) rfl
theorem q2_128 : (Jvm.Cond.methodLink "CoinMeter$Town" (54 : Nat) ({ cls := "CoinMeter$Meter", name := "begin", desc := "(III)V" } : Jvm.MethodName)) ∈ UW := uw2 (List.mem_of_getElem? (i := 128) rfl) rfl
theorem q2_129 : (Jvm.Cond.instanceMethod ({ cls := "CoinMeter$Meter", name := "begin", desc := "(III)V" } : Jvm.MethodName)) ∈ UW := uw2 (List.mem_of_getElem? (i := 129) rfl) rfl
theorem q2_130 : (Jvm.Cond.selects "CoinMeter$Meter" ({ cls := "CoinMeter$Meter", name := "begin", desc := "(III)V" } : Jvm.MethodName) ({ cls := "CoinMeter$Meter", name := "begin", desc := "(III)V" } : Jvm.MethodName)) ∈ UW := uw2 (List.mem_of_getElem? (i := 130) rfl) rfl
theorem q2_131 : (Jvm.Cond.code ({ cls := "CoinMeter$Meter", name := "begin", desc := "(III)V" } : Jvm.MethodName) prog_4_method_2_code (5 : Nat) (Option.none : Option Jvm.ClassFile.FieldType)) ∈ UW := uw2 (List.mem_of_getElem? (i := 131) rfl) rfl
theorem q2_132 : (Jvm.Cond.methodLink "CoinMeter$Town" (61 : Nat) ({ cls := "CoinMeter$Laws", name := "ruling", desc := "(II)I" } : Jvm.MethodName)) ∈ UW := uw2 (List.mem_of_getElem? (i := 132) rfl) rfl
theorem q2_133 : (Jvm.Cond.instanceMethod ({ cls := "CoinMeter$Laws", name := "ruling", desc := "(II)I" } : Jvm.MethodName)) ∈ UW := uw2 (List.mem_of_getElem? (i := 133) rfl) rfl
theorem q2_134 : (Jvm.Cond.selects "CoinMeter$Laws" ({ cls := "CoinMeter$Laws", name := "ruling", desc := "(II)I" } : Jvm.MethodName) ({ cls := "CoinMeter$Laws", name := "ruling", desc := "(II)I" } : Jvm.MethodName)) ∈ UW := uw2 (List.mem_of_getElem? (i := 134) rfl) rfl
theorem q2_135 : (Jvm.Cond.code ({ cls := "CoinMeter$Laws", name := "ruling", desc := "(II)I" } : Jvm.MethodName) prog_3_method_4_code (4 : Nat) (Option.some Jvm.ClassFile.FieldType.int)) ∈ UW := uw2 (List.mem_of_getElem? (i := 135) rfl) rfl
theorem q2_136 : (Jvm.Cond.methodLink "CoinMeterLaw" (18 : Nat) ({ cls := "CoinMeter", name := "as", desc := "(II)I" } : Jvm.MethodName)) ∈ UW := uw2 (List.mem_of_getElem? (i := 136) rfl) rfl
theorem q2_137 : (Jvm.Cond.instanceMethod ({ cls := "CoinMeter", name := "as", desc := "(II)I" } : Jvm.MethodName)) ∈ UW := uw2 (List.mem_of_getElem? (i := 137) rfl) rfl
theorem q2_138 : (Jvm.Cond.selects "CoinMeter" ({ cls := "CoinMeter", name := "as", desc := "(II)I" } : Jvm.MethodName) ({ cls := "CoinMeter", name := "as", desc := "(II)I" } : Jvm.MethodName)) ∈ UW := uw2 (List.mem_of_getElem? (i := 138) rfl) rfl
theorem q2_139 : (Jvm.Cond.code ({ cls := "CoinMeter", name := "as", desc := "(II)I" } : Jvm.MethodName) prog_1_method_3_code (4 : Nat) (Option.some Jvm.ClassFile.FieldType.int)) ∈ UW := uw2 (List.mem_of_getElem? (i := 139) rfl) rfl
theorem q2_140 : (Jvm.Cond.methodLink "CoinMeter" (73 : Nat) ({ cls := "CoinMeter$Town", name := "hasMeter", desc := "(I)Z" } : Jvm.MethodName)) ∈ UW := uw2 (List.mem_of_getElem? (i := 140) rfl) rfl
theorem q2_141 : (Jvm.Cond.instanceMethod ({ cls := "CoinMeter$Town", name := "hasMeter", desc := "(I)Z" } : Jvm.MethodName)) ∈ UW := uw2 (List.mem_of_getElem? (i := 141) rfl) rfl
theorem q2_142 : (Jvm.Cond.selects "CoinMeter$Town" ({ cls := "CoinMeter$Town", name := "hasMeter", desc := "(I)Z" } : Jvm.MethodName) ({ cls := "CoinMeter$Town", name := "hasMeter", desc := "(I)Z" } : Jvm.MethodName)) ∈ UW := uw2 (List.mem_of_getElem? (i := 142) rfl) rfl
theorem q2_143 : (Jvm.Cond.code ({ cls := "CoinMeter$Town", name := "hasMeter", desc := "(I)Z" } : Jvm.MethodName) prog_9_method_2_code (2 : Nat) (Option.some Jvm.ClassFile.FieldType.boolean)) ∈ UW := uw2 (List.mem_of_getElem? (i := 143) rfl) rfl
theorem q2_144 : (Jvm.Cond.methodLink "CoinMeter" (80 : Nat) ({ cls := "CoinMeter$Meter", name := "isOf", desc := "(I)Z" } : Jvm.MethodName)) ∈ UW := uw2 (List.mem_of_getElem? (i := 144) rfl) rfl
theorem q2_145 : (Jvm.Cond.instanceMethod ({ cls := "CoinMeter$Meter", name := "isOf", desc := "(I)Z" } : Jvm.MethodName)) ∈ UW := uw2 (List.mem_of_getElem? (i := 145) rfl) rfl
theorem q2_146 : (Jvm.Cond.selects "CoinMeter$Meter" ({ cls := "CoinMeter$Meter", name := "isOf", desc := "(I)Z" } : Jvm.MethodName) ({ cls := "CoinMeter$Meter", name := "isOf", desc := "(I)Z" } : Jvm.MethodName)) ∈ UW := uw2 (List.mem_of_getElem? (i := 146) rfl) rfl
theorem q2_147 : (Jvm.Cond.code ({ cls := "CoinMeter$Meter", name := "isOf", desc := "(I)Z" } : Jvm.MethodName) prog_4_method_4_code (4 : Nat) (Option.some Jvm.ClassFile.FieldType.boolean)) ∈ UW := uw2 (List.mem_of_getElem? (i := 147) rfl) rfl
theorem q2_151 : (Jvm.Cond.methodLink "CoinMeterLaw" (22 : Nat) ({ cls := "CoinMeter", name := "meterIs", desc := "(II)I" } : Jvm.MethodName)) ∈ UW := uw2 (List.mem_of_getElem? (i := 151) rfl) rfl
theorem q2_152 : (Jvm.Cond.instanceMethod ({ cls := "CoinMeter", name := "meterIs", desc := "(II)I" } : Jvm.MethodName)) ∈ UW := uw2 (List.mem_of_getElem? (i := 152) rfl) rfl
theorem q2_153 : (Jvm.Cond.selects "CoinMeter" ({ cls := "CoinMeter", name := "meterIs", desc := "(II)I" } : Jvm.MethodName) ({ cls := "CoinMeter", name := "meterIs", desc := "(II)I" } : Jvm.MethodName)) ∈ UW := uw2 (List.mem_of_getElem? (i := 153) rfl) rfl
theorem q2_154 : (Jvm.Cond.code ({ cls := "CoinMeter", name := "meterIs", desc := "(II)I" } : Jvm.MethodName) prog_1_method_4_code (4 : Nat) (Option.some Jvm.ClassFile.FieldType.int)) ∈ UW := uw2 (List.mem_of_getElem? (i := 154) rfl) rfl
theorem q2_155 : (Jvm.Cond.methodLink "CoinMeter" (121 : Nat) ({ cls := "CoinMeter$Laws", name := "ruling", desc := "(II)I" } : Jvm.MethodName)) ∈ UW := uw2 (List.mem_of_getElem? (i := 155) rfl) rfl
theorem q2_156 : (Jvm.Cond.methodLink "CoinMeter" (126 : Nat) ({ cls := "CoinMeter$Meter", name := "loadedUnder", desc := "(I)I" } : Jvm.MethodName)) ∈ UW := uw2 (List.mem_of_getElem? (i := 156) rfl) rfl
theorem q2_157 : (Jvm.Cond.instanceMethod ({ cls := "CoinMeter$Meter", name := "loadedUnder", desc := "(I)I" } : Jvm.MethodName)) ∈ UW := uw2 (List.mem_of_getElem? (i := 157) rfl) rfl
theorem q2_158 : (Jvm.Cond.selects "CoinMeter$Meter" ({ cls := "CoinMeter$Meter", name := "loadedUnder", desc := "(I)I" } : Jvm.MethodName) ({ cls := "CoinMeter$Meter", name := "loadedUnder", desc := "(I)I" } : Jvm.MethodName)) ∈ UW := uw2 (List.mem_of_getElem? (i := 158) rfl) rfl
theorem q2_159 : (Jvm.Cond.code ({ cls := "CoinMeter$Meter", name := "loadedUnder", desc := "(I)I" } : Jvm.MethodName) prog_4_method_6_code (2 : Nat) (Option.some Jvm.ClassFile.FieldType.int)) ∈ UW := uw2 (List.mem_of_getElem? (i := 159) rfl) rfl
theorem q2_160 : (Jvm.Cond.methodLink "CoinMeter$Meter" (72 : Nat) ({ cls := "CoinMeter$Meter", name := "isSmart", desc := "()Z" } : Jvm.MethodName)) ∈ UW := uw2 (List.mem_of_getElem? (i := 160) rfl) rfl
theorem q2_161 : (Jvm.Cond.instanceMethod ({ cls := "CoinMeter$Meter", name := "isSmart", desc := "()Z" } : Jvm.MethodName)) ∈ UW := uw2 (List.mem_of_getElem? (i := 161) rfl) rfl
theorem q2_162 : (Jvm.Cond.selects "CoinMeter$Meter" ({ cls := "CoinMeter$Meter", name := "isSmart", desc := "()Z" } : Jvm.MethodName) ({ cls := "CoinMeter$Meter", name := "isSmart", desc := "()Z" } : Jvm.MethodName)) ∈ UW := uw2 (List.mem_of_getElem? (i := 162) rfl) rfl
theorem q2_163 : (Jvm.Cond.code ({ cls := "CoinMeter$Meter", name := "isSmart", desc := "()Z" } : Jvm.MethodName) prog_4_method_5_code (1 : Nat) (Option.some Jvm.ClassFile.FieldType.boolean)) ∈ UW := uw2 (List.mem_of_getElem? (i := 163) rfl) rfl
theorem q2_164 : (Jvm.Cond.methodLink "CoinMeter" (129 : Nat) ({ cls := "CoinMeter$Meter", name := "limit", desc := "()I" } : Jvm.MethodName)) ∈ UW := uw2 (List.mem_of_getElem? (i := 164) rfl) rfl
theorem q2_165 : (Jvm.Cond.instanceMethod ({ cls := "CoinMeter$Meter", name := "limit", desc := "()I" } : Jvm.MethodName)) ∈ UW := uw2 (List.mem_of_getElem? (i := 165) rfl) rfl
theorem q2_166 : (Jvm.Cond.selects "CoinMeter$Meter" ({ cls := "CoinMeter$Meter", name := "limit", desc := "()I" } : Jvm.MethodName) ({ cls := "CoinMeter$Meter", name := "limit", desc := "()I" } : Jvm.MethodName)) ∈ UW := uw2 (List.mem_of_getElem? (i := 166) rfl) rfl
theorem q2_167 : (Jvm.Cond.code ({ cls := "CoinMeter$Meter", name := "limit", desc := "()I" } : Jvm.MethodName) prog_4_method_7_code (1 : Nat) (Option.some Jvm.ClassFile.FieldType.int)) ∈ UW := uw2 (List.mem_of_getElem? (i := 167) rfl) rfl
theorem q2_168 : (Jvm.Cond.methodLink "CoinMeterLaw" (26 : Nat) ({ cls := "CoinMeter", name := "load", desc := "(III)I" } : Jvm.MethodName)) ∈ UW := uw2 (List.mem_of_getElem? (i := 168) rfl) rfl
theorem q2_169 : (Jvm.Cond.instanceMethod ({ cls := "CoinMeter", name := "load", desc := "(III)I" } : Jvm.MethodName)) ∈ UW := uw2 (List.mem_of_getElem? (i := 169) rfl) rfl
theorem q2_170 : (Jvm.Cond.selects "CoinMeter" ({ cls := "CoinMeter", name := "load", desc := "(III)I" } : Jvm.MethodName) ({ cls := "CoinMeter", name := "load", desc := "(III)I" } : Jvm.MethodName)) ∈ UW := uw2 (List.mem_of_getElem? (i := 170) rfl) rfl
theorem q2_171 : (Jvm.Cond.code ({ cls := "CoinMeter", name := "load", desc := "(III)I" } : Jvm.MethodName) prog_1_method_5_code (6 : Nat) (Option.some Jvm.ClassFile.FieldType.int)) ∈ UW := uw2 (List.mem_of_getElem? (i := 171) rfl) rfl
theorem q2_172 : (Jvm.Cond.methodLink "CoinMeter" (133 : Nat) ({ cls := "CoinMeter", name := "isClock", desc := "(I)Z" } : Jvm.MethodName)) ∈ UW := uw2 (List.mem_of_getElem? (i := 172) rfl) rfl
theorem q2_173 : (Jvm.Cond.static ({ cls := "CoinMeter", name := "isClock", desc := "(I)Z" } : Jvm.MethodName)) ∈ UW := uw2 (List.mem_of_getElem? (i := 173) rfl) rfl
theorem q2_174 : (Jvm.Cond.code ({ cls := "CoinMeter", name := "isClock", desc := "(I)Z" } : Jvm.MethodName) prog_1_method_43_code (1 : Nat) (Option.some Jvm.ClassFile.FieldType.boolean)) ∈ UW := uw2 (List.mem_of_getElem? (i := 174) rfl) rfl
theorem q2_175 : (Jvm.Cond.methodLink "CoinMeterLaw" (31 : Nat) ({ cls := "CoinMeter", name := "owe", desc := "(II)I" } : Jvm.MethodName)) ∈ UW := uw2 (List.mem_of_getElem? (i := 175) rfl) rfl
theorem q2_176 : (Jvm.Cond.instanceMethod ({ cls := "CoinMeter", name := "owe", desc := "(II)I" } : Jvm.MethodName)) ∈ UW := uw2 (List.mem_of_getElem? (i := 176) rfl) rfl
theorem q2_177 : (Jvm.Cond.selects "CoinMeter" ({ cls := "CoinMeter", name := "owe", desc := "(II)I" } : Jvm.MethodName) ({ cls := "CoinMeter", name := "owe", desc := "(II)I" } : Jvm.MethodName)) ∈ UW := uw2 (List.mem_of_getElem? (i := 177) rfl) rfl
theorem q2_178 : (Jvm.Cond.code ({ cls := "CoinMeter", name := "owe", desc := "(II)I" } : Jvm.MethodName) prog_1_method_6_code (4 : Nat) (Option.some Jvm.ClassFile.FieldType.int)) ∈ UW := uw2 (List.mem_of_getElem? (i := 178) rfl) rfl
theorem q2_179 : (Jvm.Cond.methodLink "CoinMeter" (139 : Nat) ({ cls := "CoinMeter", name := "isPence", desc := "(I)Z" } : Jvm.MethodName)) ∈ UW := uw2 (List.mem_of_getElem? (i := 179) rfl) rfl
theorem q2_180 : (Jvm.Cond.static ({ cls := "CoinMeter", name := "isPence", desc := "(I)Z" } : Jvm.MethodName)) ∈ UW := uw2 (List.mem_of_getElem? (i := 180) rfl) rfl
theorem q2_181 : (Jvm.Cond.code ({ cls := "CoinMeter", name := "isPence", desc := "(I)Z" } : Jvm.MethodName) prog_1_method_45_code (1 : Nat) (Option.some Jvm.ClassFile.FieldType.boolean)) ∈ UW := uw2 (List.mem_of_getElem? (i := 181) rfl) rfl
theorem q2_182 : (Jvm.Cond.constant "CoinMeter" (142 : Nat) (99999 : Int32)) ∈ UW := uw2 (List.mem_of_getElem? (i := 182) rfl) rfl
theorem q2_183 : (Jvm.Cond.methodLink "CoinMeterLaw" (35 : Nat) ({ cls := "CoinMeter", name := "part", desc := "(II)I" } : Jvm.MethodName)) ∈ UW := uw2 (List.mem_of_getElem? (i := 183) rfl) rfl
theorem q2_184 : (Jvm.Cond.instanceMethod ({ cls := "CoinMeter", name := "part", desc := "(II)I" } : Jvm.MethodName)) ∈ UW := uw2 (List.mem_of_getElem? (i := 184) rfl) rfl
theorem q2_185 : (Jvm.Cond.selects "CoinMeter" ({ cls := "CoinMeter", name := "part", desc := "(II)I" } : Jvm.MethodName) ({ cls := "CoinMeter", name := "part", desc := "(II)I" } : Jvm.MethodName)) ∈ UW := uw2 (List.mem_of_getElem? (i := 185) rfl) rfl
theorem q2_186 : (Jvm.Cond.code ({ cls := "CoinMeter", name := "part", desc := "(II)I" } : Jvm.MethodName) prog_1_method_7_code (5 : Nat) (Option.some Jvm.ClassFile.FieldType.int)) ∈ UW := uw2 (List.mem_of_getElem? (i := 186) rfl) rfl
theorem q2_187 : (Jvm.Cond.methodLink "CoinMeter" (143 : Nat) ({ cls := "CoinMeter", name := "isPart", desc := "(I)Z" } : Jvm.MethodName)) ∈ UW := uw2 (List.mem_of_getElem? (i := 187) rfl) rfl
theorem q2_188 : (Jvm.Cond.static ({ cls := "CoinMeter", name := "isPart", desc := "(I)Z" } : Jvm.MethodName)) ∈ UW := uw2 (List.mem_of_getElem? (i := 188) rfl) rfl
theorem q2_189 : (Jvm.Cond.code ({ cls := "CoinMeter", name := "isPart", desc := "(I)Z" } : Jvm.MethodName) prog_1_method_46_code (1 : Nat) (Option.some Jvm.ClassFile.FieldType.boolean)) ∈ UW := uw2 (List.mem_of_getElem? (i := 189) rfl) rfl
theorem q2_190 : (Jvm.Cond.methodLink "CoinMeterLaw" (39 : Nat) ({ cls := "CoinMeter", name := "moveIn", desc := "(I)I" } : Jvm.MethodName)) ∈ UW := uw2 (List.mem_of_getElem? (i := 190) rfl) rfl
theorem q2_191 : (Jvm.Cond.instanceMethod ({ cls := "CoinMeter", name := "moveIn", desc := "(I)I" } : Jvm.MethodName)) ∈ UW := uw2 (List.mem_of_getElem? (i := 191) rfl) rfl
theorem q2_192 : (Jvm.Cond.selects "CoinMeter" ({ cls := "CoinMeter", name := "moveIn", desc := "(I)I" } : Jvm.MethodName) ({ cls := "CoinMeter", name := "moveIn", desc := "(I)I" } : Jvm.MethodName)) ∈ UW := uw2 (List.mem_of_getElem? (i := 192) rfl) rfl
theorem q2_193 : (Jvm.Cond.code ({ cls := "CoinMeter", name := "moveIn", desc := "(I)I" } : Jvm.MethodName) prog_1_method_8_code (4 : Nat) (Option.some Jvm.ClassFile.FieldType.int)) ∈ UW := uw2 (List.mem_of_getElem? (i := 193) rfl) rfl
theorem q2_194 : (Jvm.Cond.methodLink "CoinMeter" (146 : Nat) ({ cls := "java/lang/Math", name := "max", desc := "(II)I" } : Jvm.MethodName)) ∈ UW := uw2 (List.mem_of_getElem? (i := 194) rfl) rfl
theorem q2_195 : (Jvm.Cond.static ({ cls := "java/lang/Math", name := "max", desc := "(II)I" } : Jvm.MethodName)) ∈ UW := uw2 (List.mem_of_getElem? (i := 195) rfl) rfl
theorem q2_196 : (Jvm.Cond.code ({ cls := "java/lang/Math", name := "max", desc := "(II)I" } : Jvm.MethodName) prog_14_method_65_code (2 : Nat) (Option.some Jvm.ClassFile.FieldType.int)) ∈ UW := uw2 (List.mem_of_getElem? (i := 196) rfl) rfl
theorem q2_197 : (Jvm.Cond.methodLink "CoinMeterLaw" (44 : Nat) ({ cls := "CoinMeter", name := "force", desc := "(I)I" } : Jvm.MethodName)) ∈ UW := uw2 (List.mem_of_getElem? (i := 197) rfl) rfl
theorem q2_198 : (Jvm.Cond.instanceMethod ({ cls := "CoinMeter", name := "force", desc := "(I)I" } : Jvm.MethodName)) ∈ UW := uw2 (List.mem_of_getElem? (i := 198) rfl) rfl
theorem q2_199 : (Jvm.Cond.selects "CoinMeter" ({ cls := "CoinMeter", name := "force", desc := "(I)I" } : Jvm.MethodName) ({ cls := "CoinMeter", name := "force", desc := "(I)I" } : Jvm.MethodName)) ∈ UW := uw2 (List.mem_of_getElem? (i := 199) rfl) rfl
theorem q2_200 : (Jvm.Cond.code ({ cls := "CoinMeter", name := "force", desc := "(I)I" } : Jvm.MethodName) prog_1_method_9_code (3 : Nat) (Option.some Jvm.ClassFile.FieldType.int)) ∈ UW := uw2 (List.mem_of_getElem? (i := 200) rfl) rfl
theorem q2_201 : (Jvm.Cond.methodLink "CoinMeter" (151 : Nat) ({ cls := "CoinMeter$Laws", name := "allowForcing", desc := "(LCoinMeter$Meter;I)Z" } : Jvm.MethodName)) ∈ UW := uw2 (List.mem_of_getElem? (i := 201) rfl) rfl
theorem q2_202 : (Jvm.Cond.instanceMethod ({ cls := "CoinMeter$Laws", name := "allowForcing", desc := "(LCoinMeter$Meter;I)Z" } : Jvm.MethodName)) ∈ UW := uw2 (List.mem_of_getElem? (i := 202) rfl) rfl
theorem q2_203 : (Jvm.Cond.selects "CoinMeter$Laws" ({ cls := "CoinMeter$Laws", name := "allowForcing", desc := "(LCoinMeter$Meter;I)Z" } : Jvm.MethodName) ({ cls := "CoinMeter$Laws", name := "allowForcing", desc := "(LCoinMeter$Meter;I)Z" } : Jvm.MethodName)) ∈ UW := uw2 (List.mem_of_getElem? (i := 203) rfl) rfl
theorem q2_204 : (Jvm.Cond.code ({ cls := "CoinMeter$Laws", name := "allowForcing", desc := "(LCoinMeter$Meter;I)Z" } : Jvm.MethodName) prog_3_method_8_code (4 : Nat) (Option.some Jvm.ClassFile.FieldType.boolean)) ∈ UW := uw2 (List.mem_of_getElem? (i := 204) rfl) rfl
theorem q2_205 : (Jvm.Cond.methodLink "CoinMeter$Laws" (53 : Nat) ({ cls := "CoinMeter$Laws", name := "ruling", desc := "(II)I" } : Jvm.MethodName)) ∈ UW := uw2 (List.mem_of_getElem? (i := 205) rfl) rfl
theorem q2_206 : (Jvm.Cond.methodLink "CoinMeter$Laws" (41 : Nat) ({ cls := "CoinMeter$Laws", name := "has", desc := "(I)Z" } : Jvm.MethodName)) ∈ UW := uw2 (List.mem_of_getElem? (i := 206) rfl) rfl
theorem q2_207 : (Jvm.Cond.instanceMethod ({ cls := "CoinMeter$Laws", name := "has", desc := "(I)Z" } : Jvm.MethodName)) ∈ UW := uw2 (List.mem_of_getElem? (i := 207) rfl) rfl
theorem q2_208 : (Jvm.Cond.selects "CoinMeter$Laws" ({ cls := "CoinMeter$Laws", name := "has", desc := "(I)Z" } : Jvm.MethodName) ({ cls := "CoinMeter$Laws", name := "has", desc := "(I)Z" } : Jvm.MethodName)) ∈ UW := uw2 (List.mem_of_getElem? (i := 208) rfl) rfl
theorem q2_209 : (Jvm.Cond.code ({ cls := "CoinMeter$Laws", name := "has", desc := "(I)Z" } : Jvm.MethodName) prog_3_method_2_code (2 : Nat) (Option.some Jvm.ClassFile.FieldType.boolean)) ∈ UW := uw2 (List.mem_of_getElem? (i := 209) rfl) rfl
theorem q2_210 : (Jvm.Cond.methodLink "CoinMeter$Laws" (45 : Nat) ({ cls := "CoinMeter$Laws", name := "worth", desc := "(ILCoinMeter$Meter;II)I" } : Jvm.MethodName)) ∈ UW := uw2 (List.mem_of_getElem? (i := 210) rfl) rfl
theorem q2_211 : (Jvm.Cond.instanceMethod ({ cls := "CoinMeter$Laws", name := "worth", desc := "(ILCoinMeter$Meter;II)I" } : Jvm.MethodName)) ∈ UW := uw2 (List.mem_of_getElem? (i := 211) rfl) rfl
theorem q2_212 : (Jvm.Cond.selects "CoinMeter$Laws" ({ cls := "CoinMeter$Laws", name := "worth", desc := "(ILCoinMeter$Meter;II)I" } : Jvm.MethodName) ({ cls := "CoinMeter$Laws", name := "worth", desc := "(ILCoinMeter$Meter;II)I" } : Jvm.MethodName)) ∈ UW := uw2 (List.mem_of_getElem? (i := 212) rfl) rfl
theorem q2_213 : (Jvm.Cond.code ({ cls := "CoinMeter$Laws", name := "worth", desc := "(ILCoinMeter$Meter;II)I" } : Jvm.MethodName) prog_3_method_9_code (10 : Nat) (Option.some Jvm.ClassFile.FieldType.int)) ∈ UW := uw2 (List.mem_of_getElem? (i := 213) rfl) rfl
theorem q2_214 : (Jvm.Cond.methodLink "CoinMeter$Laws" (67 : Nat) ({ cls := "CoinMeter$Laws", name := "named", desc := "(ILCoinMeter$Meter;II)I" } : Jvm.MethodName)) ∈ UW := uw2 (List.mem_of_getElem? (i := 214) rfl) rfl
theorem q2_215 : (Jvm.Cond.static ({ cls := "CoinMeter$Laws", name := "named", desc := "(ILCoinMeter$Meter;II)I" } : Jvm.MethodName)) ∈ UW := uw2 (List.mem_of_getElem? (i := 215) rfl) rfl
theorem q2_216 : (Jvm.Cond.code ({ cls := "CoinMeter$Laws", name := "named", desc := "(ILCoinMeter$Meter;II)I" } : Jvm.MethodName) prog_3_method_11_code (4 : Nat) (Option.some Jvm.ClassFile.FieldType.int)) ∈ UW := uw2 (List.mem_of_getElem? (i := 216) rfl) rfl
theorem q2_217 : (Jvm.Cond.methodLink "CoinMeter$Laws" (70 : Nat) ({ cls := "CoinMeter$Laws", name := "joined", desc := "(III)I" } : Jvm.MethodName)) ∈ UW := uw2 (List.mem_of_getElem? (i := 217) rfl) rfl
theorem q2_218 : (Jvm.Cond.static ({ cls := "CoinMeter$Laws", name := "joined", desc := "(III)I" } : Jvm.MethodName)) ∈ UW := uw2 (List.mem_of_getElem? (i := 218) rfl) rfl
theorem q2_219 : (Jvm.Cond.code ({ cls := "CoinMeter$Laws", name := "joined", desc := "(III)I" } : Jvm.MethodName) prog_3_method_10_code (3 : Nat) (Option.some Jvm.ClassFile.FieldType.int)) ∈ UW := uw2 (List.mem_of_getElem? (i := 219) rfl) rfl
theorem q2_220 : (Jvm.Cond.methodLink "CoinMeterLaw" (48 : Nat) ({ cls := "CoinMeter", name := "press", desc := "(I)I" } : Jvm.MethodName)) ∈ UW := uw2 (List.mem_of_getElem? (i := 220) rfl) rfl
theorem q2_221 : (Jvm.Cond.instanceMethod ({ cls := "CoinMeter", name := "press", desc := "(I)I" } : Jvm.MethodName)) ∈ UW := uw2 (List.mem_of_getElem? (i := 221) rfl) rfl
theorem q2_222 : (Jvm.Cond.selects "CoinMeter" ({ cls := "CoinMeter", name := "press", desc := "(I)I" } : Jvm.MethodName) ({ cls := "CoinMeter", name := "press", desc := "(I)I" } : Jvm.MethodName)) ∈ UW := uw2 (List.mem_of_getElem? (i := 222) rfl) rfl
theorem q2_223 : (Jvm.Cond.code ({ cls := "CoinMeter", name := "press", desc := "(I)I" } : Jvm.MethodName) prog_1_method_10_code (3 : Nat) (Option.some Jvm.ClassFile.FieldType.int)) ∈ UW := uw2 (List.mem_of_getElem? (i := 223) rfl) rfl
theorem q2_224 : (Jvm.Cond.methodLink "CoinMeter" (155 : Nat) ({ cls := "CoinMeter$Meter", name := "connectAboveLimit", desc := "()V" } : Jvm.MethodName)) ∈ UW := uw2 (List.mem_of_getElem? (i := 224) rfl) rfl
theorem q2_225 : (Jvm.Cond.instanceMethod ({ cls := "CoinMeter$Meter", name := "connectAboveLimit", desc := "()V" } : Jvm.MethodName)) ∈ UW := uw2 (List.mem_of_getElem? (i := 225) rfl) rfl
theorem q2_226 : (Jvm.Cond.selects "CoinMeter$Meter" ({ cls := "CoinMeter$Meter", name := "connectAboveLimit", desc := "()V" } : Jvm.MethodName) ({ cls := "CoinMeter$Meter", name := "connectAboveLimit", desc := "()V" } : Jvm.MethodName)) ∈ UW := uw2 (List.mem_of_getElem? (i := 226) rfl) rfl
theorem q2_227 : (Jvm.Cond.code ({ cls := "CoinMeter$Meter", name := "connectAboveLimit", desc := "()V" } : Jvm.MethodName) prog_4_method_8_code (1 : Nat) (Option.none : Option Jvm.ClassFile.FieldType)) ∈ UW := uw2 (List.mem_of_getElem? (i := 227) rfl) rfl
theorem q2_228 : (Jvm.Cond.methodLink "CoinMeter$Meter" (76 : Nat) ({ cls := "CoinMeter$Meter", name := "limit", desc := "()I" } : Jvm.MethodName)) ∈ UW := uw2 (List.mem_of_getElem? (i := 228) rfl) rfl
theorem q2_229 : (Jvm.Cond.methodLink "CoinMeterLaw" (52 : Nat) ({ cls := "CoinMeter", name := "shop", desc := "(II)I" } : Jvm.MethodName)) ∈ UW := uw2 (List.mem_of_getElem? (i := 229) rfl) rfl
theorem q2_230 : (Jvm.Cond.instanceMethod ({ cls := "CoinMeter", name := "shop", desc := "(II)I" } : Jvm.MethodName)) ∈ UW := uw2 (List.mem_of_getElem? (i := 230) rfl) rfl
theorem q2_231 : (Jvm.Cond.selects "CoinMeter" ({ cls := "CoinMeter", name := "shop", desc := "(II)I" } : Jvm.MethodName) ({ cls := "CoinMeter", name := "shop", desc := "(II)I" } : Jvm.MethodName)) ∈ UW := uw2 (List.mem_of_getElem? (i := 231) rfl) rfl
theorem q2_232 : (Jvm.Cond.code ({ cls := "CoinMeter", name := "shop", desc := "(II)I" } : Jvm.MethodName) prog_1_method_11_code (3 : Nat) (Option.some Jvm.ClassFile.FieldType.int)) ∈ UW := uw2 (List.mem_of_getElem? (i := 232) rfl) rfl
theorem q2_233 : (Jvm.Cond.methodLink "CoinMeter" (158 : Nat) ({ cls := "CoinMeter", name := "isOpening", desc := "(I)Z" } : Jvm.MethodName)) ∈ UW := uw2 (List.mem_of_getElem? (i := 233) rfl) rfl
theorem q2_234 : (Jvm.Cond.static ({ cls := "CoinMeter", name := "isOpening", desc := "(I)Z" } : Jvm.MethodName)) ∈ UW := uw2 (List.mem_of_getElem? (i := 234) rfl) rfl
theorem q2_235 : (Jvm.Cond.code ({ cls := "CoinMeter", name := "isOpening", desc := "(I)Z" } : Jvm.MethodName) prog_1_method_42_code (1 : Nat) (Option.some Jvm.ClassFile.FieldType.boolean)) ∈ UW := uw2 (List.mem_of_getElem? (i := 235) rfl) rfl
theorem q2_236 : (Jvm.Cond.methodLink "CoinMeter" (170 : Nat) ({ cls := "CoinMeter$Shops", name := "add", desc := "(II)I" } : Jvm.MethodName)) ∈ UW := uw2 (List.mem_of_getElem? (i := 236) rfl) rfl
theorem q2_237 : (Jvm.Cond.instanceMethod ({ cls := "CoinMeter$Shops", name := "add", desc := "(II)I" } : Jvm.MethodName)) ∈ UW := uw2 (List.mem_of_getElem? (i := 237) rfl) rfl
theorem q2_238 : (Jvm.Cond.selects "CoinMeter$Shops" ({ cls := "CoinMeter$Shops", name := "add", desc := "(II)I" } : Jvm.MethodName) ({ cls := "CoinMeter$Shops", name := "add", desc := "(II)I" } : Jvm.MethodName)) ∈ UW := uw2 (List.mem_of_getElem? (i := 238) rfl) rfl
theorem q2_239 : (Jvm.Cond.code ({ cls := "CoinMeter$Shops", name := "add", desc := "(II)I" } : Jvm.MethodName) prog_7_method_3_code (3 : Nat) (Option.some Jvm.ClassFile.FieldType.int)) ∈ UW := uw2 (List.mem_of_getElem? (i := 239) rfl) rfl
theorem q3_0 : (Jvm.Cond.methodLink "CoinMeterLaw" (56 : Nat) ({ cls := "CoinMeter", name := "nearest", desc := "(II)I" } : Jvm.MethodName)) ∈ UW := uw3 (List.mem_of_getElem? (i := 0) rfl) rfl
theorem q3_1 : (Jvm.Cond.instanceMethod ({ cls := "CoinMeter", name := "nearest", desc := "(II)I" } : Jvm.MethodName)) ∈ UW := uw3 (List.mem_of_getElem? (i := 1) rfl) rfl
theorem q3_2 : (Jvm.Cond.selects "CoinMeter" ({ cls := "CoinMeter", name := "nearest", desc := "(II)I" } : Jvm.MethodName) ({ cls := "CoinMeter", name := "nearest", desc := "(II)I" } : Jvm.MethodName)) ∈ UW := uw3 (List.mem_of_getElem? (i := 2) rfl) rfl
theorem q3_3 : (Jvm.Cond.code ({ cls := "CoinMeter", name := "nearest", desc := "(II)I" } : Jvm.MethodName) prog_1_method_12_code (4 : Nat) (Option.some Jvm.ClassFile.FieldType.int)) ∈ UW := uw3 (List.mem_of_getElem? (i := 3) rfl) rfl
theorem q3_4 : (Jvm.Cond.methodLink "CoinMeter" (173 : Nat) ({ cls := "CoinMeter$Shops", name := "leastFar", desc := "(LCoinMeter$Meter;I)I" } : Jvm.MethodName)) ∈ UW := uw3 (List.mem_of_getElem? (i := 4) rfl) rfl
theorem q3_5 : (Jvm.Cond.instanceMethod ({ cls := "CoinMeter$Shops", name := "leastFar", desc := "(LCoinMeter$Meter;I)I" } : Jvm.MethodName)) ∈ UW := uw3 (List.mem_of_getElem? (i := 5) rfl) rfl
theorem q3_6 : (Jvm.Cond.selects "CoinMeter$Shops" ({ cls := "CoinMeter$Shops", name := "leastFar", desc := "(LCoinMeter$Meter;I)I" } : Jvm.MethodName) ({ cls := "CoinMeter$Shops", name := "leastFar", desc := "(LCoinMeter$Meter;I)I" } : Jvm.MethodName)) ∈ UW := uw3 (List.mem_of_getElem? (i := 6) rfl) rfl
theorem q3_7 : (Jvm.Cond.code ({ cls := "CoinMeter$Shops", name := "leastFar", desc := "(LCoinMeter$Meter;I)I" } : Jvm.MethodName) prog_7_method_6_code (5 : Nat) (Option.some Jvm.ClassFile.FieldType.int)) ∈ UW := uw3 (List.mem_of_getElem? (i := 7) rfl) rfl
theorem q3_8 : (Jvm.Cond.methodLink "CoinMeter$Shops" (44 : Nat) ({ cls := "CoinMeter$Shops", name := "isOpen", desc := "(II)Z" } : Jvm.MethodName)) ∈ UW := uw3 (List.mem_of_getElem? (i := 8) rfl) rfl
theorem q3_9 : (Jvm.Cond.instanceMethod ({ cls := "CoinMeter$Shops", name := "isOpen", desc := "(II)Z" } : Jvm.MethodName)) ∈ UW := uw3 (List.mem_of_getElem? (i := 9) rfl) rfl
theorem q3_10 : (Jvm.Cond.selects "CoinMeter$Shops" ({ cls := "CoinMeter$Shops", name := "isOpen", desc := "(II)Z" } : Jvm.MethodName) ({ cls := "CoinMeter$Shops", name := "isOpen", desc := "(II)Z" } : Jvm.MethodName)) ∈ UW := uw3 (List.mem_of_getElem? (i := 10) rfl) rfl
theorem q3_11 : (Jvm.Cond.code ({ cls := "CoinMeter$Shops", name := "isOpen", desc := "(II)Z" } : Jvm.MethodName) prog_7_method_4_code (3 : Nat) (Option.some Jvm.ClassFile.FieldType.boolean)) ∈ UW := uw3 (List.mem_of_getElem? (i := 11) rfl) rfl
theorem q3_12 : (Jvm.Cond.methodLink "CoinMeter$Shops" (28 : Nat) ({ cls := "CoinMeter$Shops", name := "has", desc := "(I)Z" } : Jvm.MethodName)) ∈ UW := uw3 (List.mem_of_getElem? (i := 12) rfl) rfl
theorem q3_13 : (Jvm.Cond.instanceMethod ({ cls := "CoinMeter$Shops", name := "has", desc := "(I)Z" } : Jvm.MethodName)) ∈ UW := uw3 (List.mem_of_getElem? (i := 13) rfl) rfl
theorem q3_14 : (Jvm.Cond.selects "CoinMeter$Shops" ({ cls := "CoinMeter$Shops", name := "has", desc := "(I)Z" } : Jvm.MethodName) ({ cls := "CoinMeter$Shops", name := "has", desc := "(I)Z" } : Jvm.MethodName)) ∈ UW := uw3 (List.mem_of_getElem? (i := 14) rfl) rfl
theorem q3_15 : (Jvm.Cond.code ({ cls := "CoinMeter$Shops", name := "has", desc := "(I)Z" } : Jvm.MethodName) prog_7_method_2_code (2 : Nat) (Option.some Jvm.ClassFile.FieldType.boolean)) ∈ UW := uw3 (List.mem_of_getElem? (i := 15) rfl) rfl
theorem q3_16 : (Jvm.Cond.methodLink "CoinMeter$Shops" (48 : Nat) ({ cls := "CoinMeter$Shops", name := "farFrom", desc := "(ILCoinMeter$Meter;)I" } : Jvm.MethodName)) ∈ UW := uw3 (List.mem_of_getElem? (i := 16) rfl) rfl
theorem q3_17 : (Jvm.Cond.instanceMethod ({ cls := "CoinMeter$Shops", name := "farFrom", desc := "(ILCoinMeter$Meter;)I" } : Jvm.MethodName)) ∈ UW := uw3 (List.mem_of_getElem? (i := 17) rfl) rfl
theorem q3_18 : (Jvm.Cond.selects "CoinMeter$Shops" ({ cls := "CoinMeter$Shops", name := "farFrom", desc := "(ILCoinMeter$Meter;)I" } : Jvm.MethodName) ({ cls := "CoinMeter$Shops", name := "farFrom", desc := "(ILCoinMeter$Meter;)I" } : Jvm.MethodName)) ∈ UW := uw3 (List.mem_of_getElem? (i := 18) rfl) rfl
theorem q3_19 : (Jvm.Cond.code ({ cls := "CoinMeter$Shops", name := "farFrom", desc := "(ILCoinMeter$Meter;)I" } : Jvm.MethodName) prog_7_method_5_code (3 : Nat) (Option.some Jvm.ClassFile.FieldType.int)) ∈ UW := uw3 (List.mem_of_getElem? (i := 19) rfl) rfl
theorem q3_20 : (Jvm.Cond.methodLink "CoinMeter$Shops" (36 : Nat) ({ cls := "java/lang/Math", name := "abs", desc := "(I)I" } : Jvm.MethodName)) ∈ UW := uw3 (List.mem_of_getElem? (i := 20) rfl) rfl
theorem q3_21 : (Jvm.Cond.static ({ cls := "java/lang/Math", name := "abs", desc := "(I)I" } : Jvm.MethodName)) ∈ UW := uw3 (List.mem_of_getElem? (i := 21) rfl) rfl
theorem q3_22 : (Jvm.Cond.code ({ cls := "java/lang/Math", name := "abs", desc := "(I)I" } : Jvm.MethodName) prog_14_method_59_code (1 : Nat) (Option.some Jvm.ClassFile.FieldType.int)) ∈ UW := uw3 (List.mem_of_getElem? (i := 22) rfl) rfl
theorem q3_23 : (Jvm.Cond.methodLink "CoinMeterLaw" (60 : Nat) ({ cls := "CoinMeter", name := "top", desc := "(III)I" } : Jvm.MethodName)) ∈ UW := uw3 (List.mem_of_getElem? (i := 23) rfl) rfl
theorem q3_24 : (Jvm.Cond.instanceMethod ({ cls := "CoinMeter", name := "top", desc := "(III)I" } : Jvm.MethodName)) ∈ UW := uw3 (List.mem_of_getElem? (i := 24) rfl) rfl
theorem q3_25 : (Jvm.Cond.selects "CoinMeter" ({ cls := "CoinMeter", name := "top", desc := "(III)I" } : Jvm.MethodName) ({ cls := "CoinMeter", name := "top", desc := "(III)I" } : Jvm.MethodName)) ∈ UW := uw3 (List.mem_of_getElem? (i := 25) rfl) rfl
theorem q3_26 : (Jvm.Cond.code ({ cls := "CoinMeter", name := "top", desc := "(III)I" } : Jvm.MethodName) prog_1_method_13_code (6 : Nat) (Option.some Jvm.ClassFile.FieldType.int)) ∈ UW := uw3 (List.mem_of_getElem? (i := 26) rfl) rfl
theorem q3_27 : (Jvm.Cond.methodLink "CoinMeter" (177 : Nat) ({ cls := "CoinMeter$Shops", name := "has", desc := "(I)Z" } : Jvm.MethodName)) ∈ UW := uw3 (List.mem_of_getElem? (i := 27) rfl) rfl
theorem q3_28 : (Jvm.Cond.methodLink "CoinMeter" (180 : Nat) ({ cls := "CoinMeter$Meter", name := "isSmart", desc := "()Z" } : Jvm.MethodName)) ∈ UW := uw3 (List.mem_of_getElem? (i := 28) rfl) rfl
theorem q3_29 : (Jvm.Cond.methodLink "CoinMeter" (184 : Nat) ({ cls := "CoinMeter$Shops", name := "isOpen", desc := "(II)Z" } : Jvm.MethodName)) ∈ UW := uw3 (List.mem_of_getElem? (i := 29) rfl) rfl
theorem q3_30 : (Jvm.Cond.methodLink "CoinMeter" (188 : Nat) ({ cls := "CoinMeter$Town", name := "topUp", desc := "(LCoinMeter$Meter;II)I" } : Jvm.MethodName)) ∈ UW := uw3 (List.mem_of_getElem? (i := 30) rfl) rfl
theorem q3_31 : (Jvm.Cond.instanceMethod ({ cls := "CoinMeter$Town", name := "topUp", desc := "(LCoinMeter$Meter;II)I" } : Jvm.MethodName)) ∈ UW := uw3 (List.mem_of_getElem? (i := 31) rfl) rfl
theorem q3_32 : (Jvm.Cond.selects "CoinMeter$Town" ({ cls := "CoinMeter$Town", name := "topUp", desc := "(LCoinMeter$Meter;II)I" } : Jvm.MethodName) ({ cls := "CoinMeter$Town", name := "topUp", desc := "(LCoinMeter$Meter;II)I" } : Jvm.MethodName)) ∈ UW := uw3 (List.mem_of_getElem? (i := 32) rfl) rfl
theorem q3_33 : (Jvm.Cond.code ({ cls := "CoinMeter$Town", name := "topUp", desc := "(LCoinMeter$Meter;II)I" } : Jvm.MethodName) prog_9_method_4_code (5 : Nat) (Option.some Jvm.ClassFile.FieldType.int)) ∈ UW := uw3 (List.mem_of_getElem? (i := 33) rfl) rfl
theorem q3_34 : (Jvm.Cond.methodLink "CoinMeter$Town" (71 : Nat) ({ cls := "CoinMeter$Laws", name := "takenFrom", desc := "(LCoinMeter$Meter;II)I" } : Jvm.MethodName)) ∈ UW := uw3 (List.mem_of_getElem? (i := 34) rfl) rfl
theorem q3_35 : (Jvm.Cond.instanceMethod ({ cls := "CoinMeter$Laws", name := "takenFrom", desc := "(LCoinMeter$Meter;II)I" } : Jvm.MethodName)) ∈ UW := uw3 (List.mem_of_getElem? (i := 35) rfl) rfl
theorem q3_36 : (Jvm.Cond.selects "CoinMeter$Laws" ({ cls := "CoinMeter$Laws", name := "takenFrom", desc := "(LCoinMeter$Meter;II)I" } : Jvm.MethodName) ({ cls := "CoinMeter$Laws", name := "takenFrom", desc := "(LCoinMeter$Meter;II)I" } : Jvm.MethodName)) ∈ UW := uw3 (List.mem_of_getElem? (i := 36) rfl) rfl
theorem q3_37 : (Jvm.Cond.code ({ cls := "CoinMeter$Laws", name := "takenFrom", desc := "(LCoinMeter$Meter;II)I" } : Jvm.MethodName) prog_3_method_7_code (5 : Nat) (Option.some Jvm.ClassFile.FieldType.int)) ∈ UW := uw3 (List.mem_of_getElem? (i := 37) rfl) rfl
theorem q3_39 : (Jvm.Cond.static ({ cls := "CoinMeter", name := "within", desc := "(III)I" } : Jvm.MethodName)) ∈ UW := uw3 (List.mem_of_getElem? (i := 39) rfl) rfl
theorem q3_40 : (Jvm.Cond.code ({ cls := "CoinMeter", name := "within", desc := "(III)I" } : Jvm.MethodName) prog_1_method_51_code (3 : Nat) (Option.some Jvm.ClassFile.FieldType.int)) ∈ UW := uw3 (List.mem_of_getElem? (i := 40) rfl) rfl
theorem q3_41 : (Jvm.Cond.methodLink "CoinMeter" (345 : Nat) ({ cls := "java/lang/Math", name := "min", desc := "(II)I" } : Jvm.MethodName)) ∈ UW := uw3 (List.mem_of_getElem? (i := 41) rfl) rfl
theorem q3_42 : (Jvm.Cond.static ({ cls := "java/lang/Math", name := "min", desc := "(II)I" } : Jvm.MethodName)) ∈ UW := uw3 (List.mem_of_getElem? (i := 42) rfl) rfl
theorem q3_43 : (Jvm.Cond.code ({ cls := "java/lang/Math", name := "min", desc := "(II)I" } : Jvm.MethodName) prog_14_method_69_code (2 : Nat) (Option.some Jvm.ClassFile.FieldType.int)) ∈ UW := uw3 (List.mem_of_getElem? (i := 43) rfl) rfl
theorem q3_44 : (Jvm.Cond.methodLink "CoinMeter$Laws" (62 : Nat) ({ cls := "java/lang/Math", name := "min", desc := "(II)I" } : Jvm.MethodName)) ∈ UW := uw3 (List.mem_of_getElem? (i := 44) rfl) rfl
theorem q3_45 : (Jvm.Cond.methodLink "CoinMeter$Town" (85 : Nat) ({ cls := "CoinMeter$Meter", name := "connectAboveLimit", desc := "()V" } : Jvm.MethodName)) ∈ UW := uw3 (List.mem_of_getElem? (i := 45) rfl) rfl
theorem q3_46 : (Jvm.Cond.methodLink "CoinMeter" (196 : Nat) ({ cls := "CoinMeter$Toppings", name := "add", desc := "(IIII)V" } : Jvm.MethodName)) ∈ UW := uw3 (List.mem_of_getElem? (i := 46) rfl) rfl
theorem q3_47 : (Jvm.Cond.instanceMethod ({ cls := "CoinMeter$Toppings", name := "add", desc := "(IIII)V" } : Jvm.MethodName)) ∈ UW := uw3 (List.mem_of_getElem? (i := 47) rfl) rfl
theorem q3_48 : (Jvm.Cond.selects "CoinMeter$Toppings" ({ cls := "CoinMeter$Toppings", name := "add", desc := "(IIII)V" } : Jvm.MethodName) ({ cls := "CoinMeter$Toppings", name := "add", desc := "(IIII)V" } : Jvm.MethodName)) ∈ UW := uw3 (List.mem_of_getElem? (i := 48) rfl) rfl
theorem q3_49 : (Jvm.Cond.code ({ cls := "CoinMeter$Toppings", name := "add", desc := "(IIII)V" } : Jvm.MethodName) prog_8_method_2_code (5 : Nat) (Option.none : Option Jvm.ClassFile.FieldType)) ∈ UW := uw3 (List.mem_of_getElem? (i := 49) rfl) rfl
theorem q3_50 : (Jvm.Cond.methodLink "CoinMeterLaw" (66 : Nat) ({ cls := "CoinMeter", name := "feed", desc := "(JI)I" } : Jvm.MethodName)) ∈ UW := uw3 (List.mem_of_getElem? (i := 50) rfl) rfl
theorem q3_51 : (Jvm.Cond.instanceMethod ({ cls := "CoinMeter", name := "feed", desc := "(JI)I" } : Jvm.MethodName)) ∈ UW := uw3 (List.mem_of_getElem? (i := 51) rfl) rfl
theorem q3_52 : (Jvm.Cond.selects "CoinMeter" ({ cls := "CoinMeter", name := "feed", desc := "(JI)I" } : Jvm.MethodName) ({ cls := "CoinMeter", name := "feed", desc := "(JI)I" } : Jvm.MethodName)) ∈ UW := uw3 (List.mem_of_getElem? (i := 52) rfl) rfl
theorem q3_53 : (Jvm.Cond.code ({ cls := "CoinMeter", name := "feed", desc := "(JI)I" } : Jvm.MethodName) prog_1_method_14_code (5 : Nat) (Option.some Jvm.ClassFile.FieldType.int)) ∈ UW := uw3 (List.mem_of_getElem? (i := 53) rfl) rfl
theorem q3_54 : (Jvm.Cond.methodLink "CoinMeterLaw" (71 : Nat) ({ cls := "CoinMeter", name := "law", desc := "(II)I" } : Jvm.MethodName)) ∈ UW := uw3 (List.mem_of_getElem? (i := 54) rfl) rfl
theorem q3_55 : (Jvm.Cond.instanceMethod ({ cls := "CoinMeter", name := "law", desc := "(II)I" } : Jvm.MethodName)) ∈ UW := uw3 (List.mem_of_getElem? (i := 55) rfl) rfl
theorem q3_56 : (Jvm.Cond.selects "CoinMeter" ({ cls := "CoinMeter", name := "law", desc := "(II)I" } : Jvm.MethodName) ({ cls := "CoinMeter", name := "law", desc := "(II)I" } : Jvm.MethodName)) ∈ UW := uw3 (List.mem_of_getElem? (i := 56) rfl) rfl
theorem q3_57 : (Jvm.Cond.code ({ cls := "CoinMeter", name := "law", desc := "(II)I" } : Jvm.MethodName) prog_1_method_15_code (4 : Nat) (Option.some Jvm.ClassFile.FieldType.int)) ∈ UW := uw3 (List.mem_of_getElem? (i := 57) rfl) rfl
theorem q3_58 : (Jvm.Cond.methodLink "CoinMeter" (208 : Nat) ({ cls := "CoinMeter", name := "isUse", desc := "(I)Z" } : Jvm.MethodName)) ∈ UW := uw3 (List.mem_of_getElem? (i := 58) rfl) rfl
theorem q3_59 : (Jvm.Cond.static ({ cls := "CoinMeter", name := "isUse", desc := "(I)Z" } : Jvm.MethodName)) ∈ UW := uw3 (List.mem_of_getElem? (i := 59) rfl) rfl
theorem q3_60 : (Jvm.Cond.code ({ cls := "CoinMeter", name := "isUse", desc := "(I)Z" } : Jvm.MethodName) prog_1_method_47_code (1 : Nat) (Option.some Jvm.ClassFile.FieldType.boolean)) ∈ UW := uw3 (List.mem_of_getElem? (i := 60) rfl) rfl
theorem q3_61 : (Jvm.Cond.methodLink "CoinMeter" (211 : Nat) ({ cls := "CoinMeter", name := "isHour", desc := "(I)Z" } : Jvm.MethodName)) ∈ UW := uw3 (List.mem_of_getElem? (i := 61) rfl) rfl
theorem q3_62 : (Jvm.Cond.static ({ cls := "CoinMeter", name := "isHour", desc := "(I)Z" } : Jvm.MethodName)) ∈ UW := uw3 (List.mem_of_getElem? (i := 62) rfl) rfl
theorem q3_63 : (Jvm.Cond.code ({ cls := "CoinMeter", name := "isHour", desc := "(I)Z" } : Jvm.MethodName) prog_1_method_44_code (1 : Nat) (Option.some Jvm.ClassFile.FieldType.boolean)) ∈ UW := uw3 (List.mem_of_getElem? (i := 63) rfl) rfl
theorem q3_64 : (Jvm.Cond.methodLink "CoinMeter" (215 : Nat) ({ cls := "CoinMeter$LawReader", name := "faultOf", desc := "([BI)I" } : Jvm.MethodName)) ∈ UW := uw3 (List.mem_of_getElem? (i := 64) rfl) rfl
theorem q3_65 : (Jvm.Cond.instanceMethod ({ cls := "CoinMeter$LawReader", name := "faultOf", desc := "([BI)I" } : Jvm.MethodName)) ∈ UW := uw3 (List.mem_of_getElem? (i := 65) rfl) rfl
theorem q3_66 : (Jvm.Cond.selects "CoinMeter$LawReader" ({ cls := "CoinMeter$LawReader", name := "faultOf", desc := "([BI)I" } : Jvm.MethodName) ({ cls := "CoinMeter$LawReader", name := "faultOf", desc := "([BI)I" } : Jvm.MethodName)) ∈ UW := uw3 (List.mem_of_getElem? (i := 66) rfl) rfl
theorem q3_67 : (Jvm.Cond.code ({ cls := "CoinMeter$LawReader", name := "faultOf", desc := "([BI)I" } : Jvm.MethodName) prog_2_method_2_code (3 : Nat) (Option.some Jvm.ClassFile.FieldType.int)) ∈ UW := uw3 (List.mem_of_getElem? (i := 67) rfl) rfl
theorem q3_68 : (Jvm.Cond.methodLink "CoinMeter$LawReader" (32 : Nat) ({ cls := "CoinMeter$LawReader", name := "readEither", desc := "(I)V" } : Jvm.MethodName)) ∈ UW := uw3 (List.mem_of_getElem? (i := 68) rfl) rfl
theorem q3_70 : (Jvm.Cond.instanceMethod ({ cls := "CoinMeter$LawReader", name := "readEither", desc := "(I)V" } : Jvm.MethodName)) ∈ UW := uw3 (List.mem_of_getElem? (i := 70) rfl) rfl
theorem q3_71 : (Jvm.Cond.code ({ cls := "CoinMeter$LawReader", name := "readEither", desc := "(I)V" } : Jvm.MethodName) prog_2_method_3_code (3 : Nat) (Option.none : Option Jvm.ClassFile.FieldType)) ∈ UW := uw3 (List.mem_of_getElem? (i := 71) rfl) rfl
theorem q3_72 : (Jvm.Cond.methodLink "CoinMeter$LawReader" (39 : Nat) ({ cls := "CoinMeter$LawReader", name := "readBoth", desc := "(I)V" } : Jvm.MethodName)) ∈ UW := uw3 (List.mem_of_getElem? (i := 72) rfl) rfl
theorem q3_74 : (Jvm.Cond.instanceMethod ({ cls := "CoinMeter$LawReader", name := "readBoth", desc := "(I)V" } : Jvm.MethodName)) ∈ UW := uw3 (List.mem_of_getElem? (i := 74) rfl) rfl
theorem q3_75 : (Jvm.Cond.code ({ cls := "CoinMeter$LawReader", name := "readBoth", desc := "(I)V" } : Jvm.MethodName) prog_2_method_4_code (3 : Nat) (Option.none : Option Jvm.ClassFile.FieldType)) ∈ UW := uw3 (List.mem_of_getElem? (i := 75) rfl) rfl
theorem q3_76 : (Jvm.Cond.methodLink "CoinMeter$LawReader" (49 : Nat) ({ cls := "CoinMeter$LawReader", name := "readCompared", desc := "(I)V" } : Jvm.MethodName)) ∈ UW := uw3 (List.mem_of_getElem? (i := 76) rfl) rfl
theorem q3_78 : (Jvm.Cond.instanceMethod ({ cls := "CoinMeter$LawReader", name := "readCompared", desc := "(I)V" } : Jvm.MethodName)) ∈ UW := uw3 (List.mem_of_getElem? (i := 78) rfl) rfl
theorem q3_79 : (Jvm.Cond.code ({ cls := "CoinMeter$LawReader", name := "readCompared", desc := "(I)V" } : Jvm.MethodName) prog_2_method_5_code (3 : Nat) (Option.none : Option Jvm.ClassFile.FieldType)) ∈ UW := uw3 (List.mem_of_getElem? (i := 79) rfl) rfl
theorem q3_80 : (Jvm.Cond.methodLink "CoinMeter$LawReader" (52 : Nat) ({ cls := "CoinMeter$LawReader", name := "readSum", desc := "(I)V" } : Jvm.MethodName)) ∈ UW := uw3 (List.mem_of_getElem? (i := 80) rfl) rfl
theorem q3_82 : (Jvm.Cond.instanceMethod ({ cls := "CoinMeter$LawReader", name := "readSum", desc := "(I)V" } : Jvm.MethodName)) ∈ UW := uw3 (List.mem_of_getElem? (i := 82) rfl) rfl
theorem q3_83 : (Jvm.Cond.code ({ cls := "CoinMeter$LawReader", name := "readSum", desc := "(I)V" } : Jvm.MethodName) prog_2_method_6_code (4 : Nat) (Option.none : Option Jvm.ClassFile.FieldType)) ∈ UW := uw3 (List.mem_of_getElem? (i := 83) rfl) rfl
theorem q3_84 : (Jvm.Cond.methodLink "CoinMeter$LawReader" (55 : Nat) ({ cls := "CoinMeter$LawReader", name := "readProduct", desc := "(I)V" } : Jvm.MethodName)) ∈ UW := uw3 (List.mem_of_getElem? (i := 84) rfl) rfl
theorem q3_86 : (Jvm.Cond.instanceMethod ({ cls := "CoinMeter$LawReader", name := "readProduct", desc := "(I)V" } : Jvm.MethodName)) ∈ UW := uw3 (List.mem_of_getElem? (i := 86) rfl) rfl
theorem q3_87 : (Jvm.Cond.code ({ cls := "CoinMeter$LawReader", name := "readProduct", desc := "(I)V" } : Jvm.MethodName) prog_2_method_7_code (4 : Nat) (Option.none : Option Jvm.ClassFile.FieldType)) ∈ UW := uw3 (List.mem_of_getElem? (i := 87) rfl) rfl
theorem q3_88 : (Jvm.Cond.methodLink "CoinMeter$LawReader" (58 : Nat) ({ cls := "CoinMeter$LawReader", name := "readSingle", desc := "(I)V" } : Jvm.MethodName)) ∈ UW := uw3 (List.mem_of_getElem? (i := 88) rfl) rfl
theorem q3_90 : (Jvm.Cond.instanceMethod ({ cls := "CoinMeter$LawReader", name := "readSingle", desc := "(I)V" } : Jvm.MethodName)) ∈ UW := uw3 (List.mem_of_getElem? (i := 90) rfl) rfl
theorem q3_91 : (Jvm.Cond.code ({ cls := "CoinMeter$LawReader", name := "readSingle", desc := "(I)V" } : Jvm.MethodName) prog_2_method_8_code (3 : Nat) (Option.none : Option Jvm.ClassFile.FieldType)) ∈ UW := uw3 (List.mem_of_getElem? (i := 91) rfl) rfl
theorem q3_92 : (Jvm.Cond.methodLink "CoinMeter$LawReader" (42 : Nat) ({ cls := "CoinMeter$LawReader", name := "next", desc := "()I" } : Jvm.MethodName)) ∈ UW := uw3 (List.mem_of_getElem? (i := 92) rfl) rfl
theorem q3_94 : (Jvm.Cond.instanceMethod ({ cls := "CoinMeter$LawReader", name := "next", desc := "()I" } : Jvm.MethodName)) ∈ UW := uw3 (List.mem_of_getElem? (i := 94) rfl) rfl
theorem q3_95 : (Jvm.Cond.code ({ cls := "CoinMeter$LawReader", name := "next", desc := "()I" } : Jvm.MethodName) prog_2_method_11_code (1 : Nat) (Option.some Jvm.ClassFile.FieldType.int)) ∈ UW := uw3 (List.mem_of_getElem? (i := 95) rfl) rfl
theorem q3_96 : (Jvm.Cond.methodLink "CoinMeter$LawReader" (61 : Nat) ({ cls := "CoinMeter$LawReader", name := "isDigit", desc := "(I)Z" } : Jvm.MethodName)) ∈ UW := uw3 (List.mem_of_getElem? (i := 96) rfl) rfl
theorem q3_97 : (Jvm.Cond.static ({ cls := "CoinMeter$LawReader", name := "isDigit", desc := "(I)Z" } : Jvm.MethodName)) ∈ UW := uw3 (List.mem_of_getElem? (i := 97) rfl) rfl
theorem q3_98 : (Jvm.Cond.code ({ cls := "CoinMeter$LawReader", name := "isDigit", desc := "(I)Z" } : Jvm.MethodName) prog_2_method_14_code (1 : Nat) (Option.some Jvm.ClassFile.FieldType.boolean)) ∈ UW := uw3 (List.mem_of_getElem? (i := 98) rfl) rfl
theorem q3_99 : (Jvm.Cond.methodLink "CoinMeter$LawReader" (65 : Nat) ({ cls := "CoinMeter$LawReader", name := "readNumber", desc := "()V" } : Jvm.MethodName)) ∈ UW := uw3 (List.mem_of_getElem? (i := 99) rfl) rfl
theorem q3_101 : (Jvm.Cond.instanceMethod ({ cls := "CoinMeter$LawReader", name := "readNumber", desc := "()V" } : Jvm.MethodName)) ∈ UW := uw3 (List.mem_of_getElem? (i := 101) rfl) rfl
theorem q3_102 : (Jvm.Cond.code ({ cls := "CoinMeter$LawReader", name := "readNumber", desc := "()V" } : Jvm.MethodName) prog_2_method_10_code (3 : Nat) (Option.none : Option Jvm.ClassFile.FieldType)) ∈ UW := uw3 (List.mem_of_getElem? (i := 102) rfl) rfl
theorem q3_103 : (Jvm.Cond.methodLink "CoinMeter$LawReader" (46 : Nat) ({ cls := "CoinMeter$LawReader", name := "emit", desc := "(I)V" } : Jvm.MethodName)) ∈ UW := uw3 (List.mem_of_getElem? (i := 103) rfl) rfl
theorem q3_105 : (Jvm.Cond.instanceMethod ({ cls := "CoinMeter$LawReader", name := "emit", desc := "(I)V" } : Jvm.MethodName)) ∈ UW := uw3 (List.mem_of_getElem? (i := 105) rfl) rfl
theorem q3_106 : (Jvm.Cond.code ({ cls := "CoinMeter$LawReader", name := "emit", desc := "(I)V" } : Jvm.MethodName) prog_2_method_13_code (2 : Nat) (Option.none : Option Jvm.ClassFile.FieldType)) ∈ UW := uw3 (List.mem_of_getElem? (i := 106) rfl) rfl
theorem q3_107 : (Jvm.Cond.methodLink "CoinMeter$LawReader" (68 : Nat) ({ cls := "CoinMeter$LawReader", name := "isName", desc := "(I)Z" } : Jvm.MethodName)) ∈ UW := uw3 (List.mem_of_getElem? (i := 107) rfl) rfl
theorem q3_108 : (Jvm.Cond.static ({ cls := "CoinMeter$LawReader", name := "isName", desc := "(I)Z" } : Jvm.MethodName)) ∈ UW := uw3 (List.mem_of_getElem? (i := 108) rfl) rfl
theorem q3_109 : (Jvm.Cond.code ({ cls := "CoinMeter$LawReader", name := "isName", desc := "(I)Z" } : Jvm.MethodName) prog_2_method_15_code (1 : Nat) (Option.some Jvm.ClassFile.FieldType.boolean)) ∈ UW := uw3 (List.mem_of_getElem? (i := 109) rfl) rfl
theorem q3_110 : (Jvm.Cond.methodLink "CoinMeter$LawReader" (71 : Nat) ({ cls := "CoinMeter$LawReader", name := "readClosing", desc := "()V" } : Jvm.MethodName)) ∈ UW := uw3 (List.mem_of_getElem? (i := 110) rfl) rfl
theorem q3_112 : (Jvm.Cond.instanceMethod ({ cls := "CoinMeter$LawReader", name := "readClosing", desc := "()V" } : Jvm.MethodName)) ∈ UW := uw3 (List.mem_of_getElem? (i := 112) rfl) rfl
theorem q3_113 : (Jvm.Cond.code ({ cls := "CoinMeter$LawReader", name := "readClosing", desc := "()V" } : Jvm.MethodName) prog_2_method_9_code (1 : Nat) (Option.none : Option Jvm.ClassFile.FieldType)) ∈ UW := uw3 (List.mem_of_getElem? (i := 113) rfl) rfl
theorem q3_114 : (Jvm.Cond.methodLink "CoinMeter$LawReader" (36 : Nat) ({ cls := "CoinMeter$LawReader", name := "fail", desc := "()V" } : Jvm.MethodName)) ∈ UW := uw3 (List.mem_of_getElem? (i := 114) rfl) rfl
theorem q3_116 : (Jvm.Cond.instanceMethod ({ cls := "CoinMeter$LawReader", name := "fail", desc := "()V" } : Jvm.MethodName)) ∈ UW := uw3 (List.mem_of_getElem? (i := 116) rfl) rfl
theorem q3_117 : (Jvm.Cond.code ({ cls := "CoinMeter$LawReader", name := "fail", desc := "()V" } : Jvm.MethodName) prog_2_method_12_code (1 : Nat) (Option.none : Option Jvm.ClassFile.FieldType)) ∈ UW := uw3 (List.mem_of_getElem? (i := 117) rfl) rfl
theorem q3_118 : (Jvm.Cond.methodLink "CoinMeter" (219 : Nat) ({ cls := "CoinMeter$Laws", name := "add", desc := "(IILCoinMeter$LawReader;)I" } : Jvm.MethodName)) ∈ UW := uw3 (List.mem_of_getElem? (i := 118) rfl) rfl
theorem q3_119 : (Jvm.Cond.instanceMethod ({ cls := "CoinMeter$Laws", name := "add", desc := "(IILCoinMeter$LawReader;)I" } : Jvm.MethodName)) ∈ UW := uw3 (List.mem_of_getElem? (i := 119) rfl) rfl
theorem q3_120 : (Jvm.Cond.selects "CoinMeter$Laws" ({ cls := "CoinMeter$Laws", name := "add", desc := "(IILCoinMeter$LawReader;)I" } : Jvm.MethodName) ({ cls := "CoinMeter$Laws", name := "add", desc := "(IILCoinMeter$LawReader;)I" } : Jvm.MethodName)) ∈ UW := uw3 (List.mem_of_getElem? (i := 120) rfl) rfl
theorem q3_121 : (Jvm.Cond.code ({ cls := "CoinMeter$Laws", name := "add", desc := "(IILCoinMeter$LawReader;)I" } : Jvm.MethodName) prog_3_method_3_code (4 : Nat) (Option.some Jvm.ClassFile.FieldType.int)) ∈ UW := uw3 (List.mem_of_getElem? (i := 121) rfl) rfl
theorem q3_122 : (Jvm.Cond.methodLink "CoinMeter$Laws" (35 : Nat) ({ cls := "java/lang/System", name := "arraycopy", desc := "(Ljava/lang/Object;ILjava/lang/Object;II)V" } : Jvm.MethodName)) ∈ UW := uw3 (List.mem_of_getElem? (i := 122) rfl) rfl
theorem q3_123 : (Jvm.Cond.static ({ cls := "java/lang/System", name := "arraycopy", desc := "(Ljava/lang/Object;ILjava/lang/Object;II)V" } : Jvm.MethodName)) ∈ UW := uw3 (List.mem_of_getElem? (i := 123) rfl) rfl
theorem q3_124 : (Jvm.Cond.native ({ cls := "java/lang/System", name := "arraycopy", desc := "(Ljava/lang/Object;ILjava/lang/Object;II)V" } : Jvm.MethodName)) ∈ UW := uw3 (List.mem_of_getElem? (i := 124) rfl) rfl
theorem q3_125 : (Jvm.Cond.methodLink "CoinMeterLaw" (75 : Nat) ({ cls := "CoinMeter", name := "inForce", desc := "(II)I" } : Jvm.MethodName)) ∈ UW := uw3 (List.mem_of_getElem? (i := 125) rfl) rfl
theorem q3_126 : (Jvm.Cond.instanceMethod ({ cls := "CoinMeter", name := "inForce", desc := "(II)I" } : Jvm.MethodName)) ∈ UW := uw3 (List.mem_of_getElem? (i := 126) rfl) rfl
theorem q3_127 : (Jvm.Cond.selects "CoinMeter" ({ cls := "CoinMeter", name := "inForce", desc := "(II)I" } : Jvm.MethodName) ({ cls := "CoinMeter", name := "inForce", desc := "(II)I" } : Jvm.MethodName)) ∈ UW := uw3 (List.mem_of_getElem? (i := 127) rfl) rfl
theorem q3_128 : (Jvm.Cond.code ({ cls := "CoinMeter", name := "inForce", desc := "(II)I" } : Jvm.MethodName) prog_1_method_16_code (4 : Nat) (Option.some Jvm.ClassFile.FieldType.int)) ∈ UW := uw3 (List.mem_of_getElem? (i := 128) rfl) rfl
theorem q3_129 : (Jvm.Cond.methodLink "CoinMeterLaw" (79 : Nat) ({ cls := "CoinMeter", name := "says", desc := "(III)I" } : Jvm.MethodName)) ∈ UW := uw3 (List.mem_of_getElem? (i := 129) rfl) rfl
theorem q3_130 : (Jvm.Cond.instanceMethod ({ cls := "CoinMeter", name := "says", desc := "(III)I" } : Jvm.MethodName)) ∈ UW := uw3 (List.mem_of_getElem? (i := 130) rfl) rfl
theorem q3_131 : (Jvm.Cond.selects "CoinMeter" ({ cls := "CoinMeter", name := "says", desc := "(III)I" } : Jvm.MethodName) ({ cls := "CoinMeter", name := "says", desc := "(III)I" } : Jvm.MethodName)) ∈ UW := uw3 (List.mem_of_getElem? (i := 131) rfl) rfl
theorem q3_132 : (Jvm.Cond.code ({ cls := "CoinMeter", name := "says", desc := "(III)I" } : Jvm.MethodName) prog_1_method_17_code (4 : Nat) (Option.some Jvm.ClassFile.FieldType.int)) ∈ UW := uw3 (List.mem_of_getElem? (i := 132) rfl) rfl
theorem q3_133 : (Jvm.Cond.methodLink "CoinMeter" (222 : Nat) ({ cls := "CoinMeter$Laws", name := "has", desc := "(I)Z" } : Jvm.MethodName)) ∈ UW := uw3 (List.mem_of_getElem? (i := 133) rfl) rfl
theorem q3_134 : (Jvm.Cond.methodLink "CoinMeter" (223 : Nat) ({ cls := "CoinMeter$Laws", name := "worth", desc := "(ILCoinMeter$Meter;II)I" } : Jvm.MethodName)) ∈ UW := uw3 (List.mem_of_getElem? (i := 134) rfl) rfl
theorem q3_135 : (Jvm.Cond.methodLink "CoinMeterLaw" (83 : Nat) ({ cls := "CoinMeter", name := "rate", desc := "(II)I" } : Jvm.MethodName)) ∈ UW := uw3 (List.mem_of_getElem? (i := 135) rfl) rfl
theorem q3_136 : (Jvm.Cond.instanceMethod ({ cls := "CoinMeter", name := "rate", desc := "(II)I" } : Jvm.MethodName)) ∈ UW := uw3 (List.mem_of_getElem? (i := 136) rfl) rfl
theorem q3_137 : (Jvm.Cond.selects "CoinMeter" ({ cls := "CoinMeter", name := "rate", desc := "(II)I" } : Jvm.MethodName) ({ cls := "CoinMeter", name := "rate", desc := "(II)I" } : Jvm.MethodName)) ∈ UW := uw3 (List.mem_of_getElem? (i := 137) rfl) rfl
theorem q3_138 : (Jvm.Cond.code ({ cls := "CoinMeter", name := "rate", desc := "(II)I" } : Jvm.MethodName) prog_1_method_18_code (5 : Nat) (Option.some Jvm.ClassFile.FieldType.int)) ∈ UW := uw3 (List.mem_of_getElem? (i := 138) rfl) rfl
theorem q3_139 : (Jvm.Cond.methodLink "CoinMeter" (227 : Nat) ({ cls := "CoinMeter$Laws", name := "unitPrice", desc := "(ILCoinMeter$Meter;I)I" } : Jvm.MethodName)) ∈ UW := uw3 (List.mem_of_getElem? (i := 139) rfl) rfl
theorem q3_140 : (Jvm.Cond.instanceMethod ({ cls := "CoinMeter$Laws", name := "unitPrice", desc := "(ILCoinMeter$Meter;I)I" } : Jvm.MethodName)) ∈ UW := uw3 (List.mem_of_getElem? (i := 140) rfl) rfl
theorem q3_141 : (Jvm.Cond.selects "CoinMeter$Laws" ({ cls := "CoinMeter$Laws", name := "unitPrice", desc := "(ILCoinMeter$Meter;I)I" } : Jvm.MethodName) ({ cls := "CoinMeter$Laws", name := "unitPrice", desc := "(ILCoinMeter$Meter;I)I" } : Jvm.MethodName)) ∈ UW := uw3 (List.mem_of_getElem? (i := 141) rfl) rfl
theorem q3_142 : (Jvm.Cond.code ({ cls := "CoinMeter$Laws", name := "unitPrice", desc := "(ILCoinMeter$Meter;I)I" } : Jvm.MethodName) prog_3_method_5_code (4 : Nat) (Option.some Jvm.ClassFile.FieldType.int)) ∈ UW := uw3 (List.mem_of_getElem? (i := 142) rfl) rfl
theorem q3_143 : (Jvm.Cond.methodLink "CoinMeter" (231 : Nat) ({ cls := "CoinMeter$Laws", name := "standingOf", desc := "(LCoinMeter$Meter;I)I" } : Jvm.MethodName)) ∈ UW := uw3 (List.mem_of_getElem? (i := 143) rfl) rfl
theorem q3_144 : (Jvm.Cond.instanceMethod ({ cls := "CoinMeter$Laws", name := "standingOf", desc := "(LCoinMeter$Meter;I)I" } : Jvm.MethodName)) ∈ UW := uw3 (List.mem_of_getElem? (i := 144) rfl) rfl
theorem q3_145 : (Jvm.Cond.selects "CoinMeter$Laws" ({ cls := "CoinMeter$Laws", name := "standingOf", desc := "(LCoinMeter$Meter;I)I" } : Jvm.MethodName) ({ cls := "CoinMeter$Laws", name := "standingOf", desc := "(LCoinMeter$Meter;I)I" } : Jvm.MethodName)) ∈ UW := uw3 (List.mem_of_getElem? (i := 145) rfl) rfl
theorem q3_146 : (Jvm.Cond.code ({ cls := "CoinMeter$Laws", name := "standingOf", desc := "(LCoinMeter$Meter;I)I" } : Jvm.MethodName) prog_3_method_6_code (4 : Nat) (Option.some Jvm.ClassFile.FieldType.int)) ∈ UW := uw3 (List.mem_of_getElem? (i := 146) rfl) rfl
theorem q3_147 : (Jvm.Cond.methodLink "CoinMeterLaw" (87 : Nat) ({ cls := "CoinMeter", name := "go", desc := "(I)I" } : Jvm.MethodName)) ∈ UW := uw3 (List.mem_of_getElem? (i := 147) rfl) rfl
theorem q3_148 : (Jvm.Cond.instanceMethod ({ cls := "CoinMeter", name := "go", desc := "(I)I" } : Jvm.MethodName)) ∈ UW := uw3 (List.mem_of_getElem? (i := 148) rfl) rfl
theorem q3_149 : (Jvm.Cond.selects "CoinMeter" ({ cls := "CoinMeter", name := "go", desc := "(I)I" } : Jvm.MethodName) ({ cls := "CoinMeter", name := "go", desc := "(I)I" } : Jvm.MethodName)) ∈ UW := uw3 (List.mem_of_getElem? (i := 149) rfl) rfl
theorem q3_150 : (Jvm.Cond.code ({ cls := "CoinMeter", name := "go", desc := "(I)I" } : Jvm.MethodName) prog_1_method_19_code (4 : Nat) (Option.some Jvm.ClassFile.FieldType.int)) ∈ UW := uw3 (List.mem_of_getElem? (i := 150) rfl) rfl
theorem q3_151 : (Jvm.Cond.methodLink "CoinMeter" (234 : Nat) ({ cls := "CoinMeter$Town", name := "endHourForAll", desc := "()I" } : Jvm.MethodName)) ∈ UW := uw3 (List.mem_of_getElem? (i := 151) rfl) rfl
theorem q3_152 : (Jvm.Cond.instanceMethod ({ cls := "CoinMeter$Town", name := "endHourForAll", desc := "()I" } : Jvm.MethodName)) ∈ UW := uw3 (List.mem_of_getElem? (i := 152) rfl) rfl
theorem q3_153 : (Jvm.Cond.selects "CoinMeter$Town" ({ cls := "CoinMeter$Town", name := "endHourForAll", desc := "()I" } : Jvm.MethodName) ({ cls := "CoinMeter$Town", name := "endHourForAll", desc := "()I" } : Jvm.MethodName)) ∈ UW := uw3 (List.mem_of_getElem? (i := 153) rfl) rfl
theorem q3_154 : (Jvm.Cond.code ({ cls := "CoinMeter$Town", name := "endHourForAll", desc := "()I" } : Jvm.MethodName) prog_9_method_5_code (3 : Nat) (Option.some Jvm.ClassFile.FieldType.int)) ∈ UW := uw3 (List.mem_of_getElem? (i := 154) rfl) rfl
theorem q3_155 : (Jvm.Cond.methodLink "CoinMeter$Town" (88 : Nat) ({ cls := "CoinMeter$Town", name := "endHour", desc := "(LCoinMeter$Meter;I)Z" } : Jvm.MethodName)) ∈ UW := uw3 (List.mem_of_getElem? (i := 155) rfl) rfl
theorem q3_156 : (Jvm.Cond.instanceMethod ({ cls := "CoinMeter$Town", name := "endHour", desc := "(LCoinMeter$Meter;I)Z" } : Jvm.MethodName)) ∈ UW := uw3 (List.mem_of_getElem? (i := 156) rfl) rfl
theorem q3_157 : (Jvm.Cond.selects "CoinMeter$Town" ({ cls := "CoinMeter$Town", name := "endHour", desc := "(LCoinMeter$Meter;I)Z" } : Jvm.MethodName) ({ cls := "CoinMeter$Town", name := "endHour", desc := "(LCoinMeter$Meter;I)Z" } : Jvm.MethodName)) ∈ UW := uw3 (List.mem_of_getElem? (i := 157) rfl) rfl
theorem q3_158 : (Jvm.Cond.code ({ cls := "CoinMeter$Town", name := "endHour", desc := "(LCoinMeter$Meter;I)Z" } : Jvm.MethodName) prog_9_method_6_code (4 : Nat) (Option.some Jvm.ClassFile.FieldType.boolean)) ∈ UW := uw3 (List.mem_of_getElem? (i := 158) rfl) rfl
theorem q3_159 : (Jvm.Cond.methodLink "CoinMeter$Town" (92 : Nat) ({ cls := "CoinMeter$Town", name := "beginDay", desc := "(LCoinMeter$Meter;I)V" } : Jvm.MethodName)) ∈ UW := uw3 (List.mem_of_getElem? (i := 159) rfl) rfl
theorem q3_161 : (Jvm.Cond.instanceMethod ({ cls := "CoinMeter$Town", name := "beginDay", desc := "(LCoinMeter$Meter;I)V" } : Jvm.MethodName)) ∈ UW := uw3 (List.mem_of_getElem? (i := 161) rfl) rfl
theorem q3_162 : (Jvm.Cond.code ({ cls := "CoinMeter$Town", name := "beginDay", desc := "(LCoinMeter$Meter;I)V" } : Jvm.MethodName) prog_9_method_7_code (4 : Nat) (Option.none : Option Jvm.ClassFile.FieldType)) ∈ UW := uw3 (List.mem_of_getElem? (i := 162) rfl) rfl
theorem q3_163 : (Jvm.Cond.methodLink "CoinMeter$Town" (116 : Nat) ({ cls := "CoinMeter$Laws", name := "standingOf", desc := "(LCoinMeter$Meter;I)I" } : Jvm.MethodName)) ∈ UW := uw3 (List.mem_of_getElem? (i := 163) rfl) rfl
theorem q3_164 : (Jvm.Cond.methodLink "CoinMeter$Town" (123 : Nat) ({ cls := "java/lang/Math", name := "min", desc := "(II)I" } : Jvm.MethodName)) ∈ UW := uw3 (List.mem_of_getElem? (i := 164) rfl) rfl
theorem q3_165 : (Jvm.Cond.methodLink "CoinMeter$Town" (99 : Nat) ({ cls := "CoinMeter$Town", name := "useLoad", desc := "(LCoinMeter$Meter;I)V" } : Jvm.MethodName)) ∈ UW := uw3 (List.mem_of_getElem? (i := 165) rfl) rfl
theorem q3_167 : (Jvm.Cond.instanceMethod ({ cls := "CoinMeter$Town", name := "useLoad", desc := "(LCoinMeter$Meter;I)V" } : Jvm.MethodName)) ∈ UW := uw3 (List.mem_of_getElem? (i := 167) rfl) rfl
theorem q3_168 : (Jvm.Cond.code ({ cls := "CoinMeter$Town", name := "useLoad", desc := "(LCoinMeter$Meter;I)V" } : Jvm.MethodName) prog_9_method_8_code (8 : Nat) (Option.none : Option Jvm.ClassFile.FieldType)) ∈ UW := uw3 (List.mem_of_getElem? (i := 168) rfl) rfl
theorem q3_169 : (Jvm.Cond.methodLink "CoinMeter$Town" (135 : Nat) ({ cls := "CoinMeter$Meter", name := "loadedUnder", desc := "(I)I" } : Jvm.MethodName)) ∈ UW := uw3 (List.mem_of_getElem? (i := 169) rfl) rfl
theorem q3_170 : (Jvm.Cond.methodLink "CoinMeter$Town" (139 : Nat) ({ cls := "CoinMeter$Laws", name := "unitPrice", desc := "(ILCoinMeter$Meter;I)I" } : Jvm.MethodName)) ∈ UW := uw3 (List.mem_of_getElem? (i := 170) rfl) rfl
theorem q3_171 : (Jvm.Cond.methodLink "CoinMeter$Town" (108 : Nat) ({ cls := "CoinMeter$Meter", name := "limit", desc := "()I" } : Jvm.MethodName)) ∈ UW := uw3 (List.mem_of_getElem? (i := 171) rfl) rfl
theorem q3_173 : (Jvm.Cond.static ({ cls := "CoinMeter", name := "isFriendly", desc := "(I)Z" } : Jvm.MethodName)) ∈ UW := uw3 (List.mem_of_getElem? (i := 173) rfl) rfl
theorem q3_174 : (Jvm.Cond.code ({ cls := "CoinMeter", name := "isFriendly", desc := "(I)Z" } : Jvm.MethodName) prog_1_method_50_code (2 : Nat) (Option.some Jvm.ClassFile.FieldType.boolean)) ∈ UW := uw3 (List.mem_of_getElem? (i := 174) rfl) rfl
theorem q3_175 : (Jvm.Cond.methodLink "CoinMeterLaw" (91 : Nat) ({ cls := "CoinMeter", name := "read", desc := "(III)I" } : Jvm.MethodName)) ∈ UW := uw3 (List.mem_of_getElem? (i := 175) rfl) rfl
theorem q3_176 : (Jvm.Cond.instanceMethod ({ cls := "CoinMeter", name := "read", desc := "(III)I" } : Jvm.MethodName)) ∈ UW := uw3 (List.mem_of_getElem? (i := 176) rfl) rfl
theorem q3_177 : (Jvm.Cond.selects "CoinMeter" ({ cls := "CoinMeter", name := "read", desc := "(III)I" } : Jvm.MethodName) ({ cls := "CoinMeter", name := "read", desc := "(III)I" } : Jvm.MethodName)) ∈ UW := uw3 (List.mem_of_getElem? (i := 177) rfl) rfl
theorem q3_178 : (Jvm.Cond.code ({ cls := "CoinMeter", name := "read", desc := "(III)I" } : Jvm.MethodName) prog_1_method_20_code (4 : Nat) (Option.some Jvm.ClassFile.FieldType.int)) ∈ UW := uw3 (List.mem_of_getElem? (i := 178) rfl) rfl
theorem q3_179 : (Jvm.Cond.methodLink "CoinMeter" (244 : Nat) ({ cls := "CoinMeter$Readings", name := "add", desc := "(IIII)I" } : Jvm.MethodName)) ∈ UW := uw3 (List.mem_of_getElem? (i := 179) rfl) rfl
theorem q3_180 : (Jvm.Cond.instanceMethod ({ cls := "CoinMeter$Readings", name := "add", desc := "(IIII)I" } : Jvm.MethodName)) ∈ UW := uw3 (List.mem_of_getElem? (i := 180) rfl) rfl
theorem q3_181 : (Jvm.Cond.selects "CoinMeter$Readings" ({ cls := "CoinMeter$Readings", name := "add", desc := "(IIII)I" } : Jvm.MethodName) ({ cls := "CoinMeter$Readings", name := "add", desc := "(IIII)I" } : Jvm.MethodName)) ∈ UW := uw3 (List.mem_of_getElem? (i := 181) rfl) rfl
theorem q3_182 : (Jvm.Cond.code ({ cls := "CoinMeter$Readings", name := "add", desc := "(IIII)I" } : Jvm.MethodName) prog_5_method_3_code (5 : Nat) (Option.some Jvm.ClassFile.FieldType.int)) ∈ UW := uw3 (List.mem_of_getElem? (i := 182) rfl) rfl
theorem q3_183 : (Jvm.Cond.methodLink "CoinMeterLaw" (95 : Nat) ({ cls := "CoinMeter", name := "dark", desc := "(IIII)I" } : Jvm.MethodName)) ∈ UW := uw3 (List.mem_of_getElem? (i := 183) rfl) rfl
theorem q3_184 : (Jvm.Cond.instanceMethod ({ cls := "CoinMeter", name := "dark", desc := "(IIII)I" } : Jvm.MethodName)) ∈ UW := uw3 (List.mem_of_getElem? (i := 184) rfl) rfl
theorem q3_185 : (Jvm.Cond.selects "CoinMeter" ({ cls := "CoinMeter", name := "dark", desc := "(IIII)I" } : Jvm.MethodName) ({ cls := "CoinMeter", name := "dark", desc := "(IIII)I" } : Jvm.MethodName)) ∈ UW := uw3 (List.mem_of_getElem? (i := 185) rfl) rfl
theorem q3_186 : (Jvm.Cond.code ({ cls := "CoinMeter", name := "dark", desc := "(IIII)I" } : Jvm.MethodName) prog_1_method_21_code (11 : Nat) (Option.some Jvm.ClassFile.FieldType.int)) ∈ UW := uw3 (List.mem_of_getElem? (i := 186) rfl) rfl
theorem q3_187 : (Jvm.Cond.constant "CoinMeter" (247 : Nat) (999999 : Int32)) ∈ UW := uw3 (List.mem_of_getElem? (i := 187) rfl) rfl
theorem q3_188 : (Jvm.Cond.methodLink "CoinMeter" (248 : Nat) ({ cls := "CoinMeter$Readings", name := "latest", desc := "(III)I" } : Jvm.MethodName)) ∈ UW := uw3 (List.mem_of_getElem? (i := 188) rfl) rfl
theorem q3_189 : (Jvm.Cond.instanceMethod ({ cls := "CoinMeter$Readings", name := "latest", desc := "(III)I" } : Jvm.MethodName)) ∈ UW := uw3 (List.mem_of_getElem? (i := 189) rfl) rfl
theorem q3_190 : (Jvm.Cond.selects "CoinMeter$Readings" ({ cls := "CoinMeter$Readings", name := "latest", desc := "(III)I" } : Jvm.MethodName) ({ cls := "CoinMeter$Readings", name := "latest", desc := "(III)I" } : Jvm.MethodName)) ∈ UW := uw3 (List.mem_of_getElem? (i := 190) rfl) rfl
theorem q3_191 : (Jvm.Cond.code ({ cls := "CoinMeter$Readings", name := "latest", desc := "(III)I" } : Jvm.MethodName) prog_5_method_4_code (7 : Nat) (Option.some Jvm.ClassFile.FieldType.int)) ∈ UW := uw3 (List.mem_of_getElem? (i := 191) rfl) rfl
theorem q3_192 : (Jvm.Cond.methodLink "CoinMeter" (252 : Nat) ({ cls := "CoinMeter$Readings", name := "has", desc := "(I)Z" } : Jvm.MethodName)) ∈ UW := uw3 (List.mem_of_getElem? (i := 192) rfl) rfl
theorem q3_193 : (Jvm.Cond.instanceMethod ({ cls := "CoinMeter$Readings", name := "has", desc := "(I)Z" } : Jvm.MethodName)) ∈ UW := uw3 (List.mem_of_getElem? (i := 193) rfl) rfl
theorem q3_194 : (Jvm.Cond.selects "CoinMeter$Readings" ({ cls := "CoinMeter$Readings", name := "has", desc := "(I)Z" } : Jvm.MethodName) ({ cls := "CoinMeter$Readings", name := "has", desc := "(I)Z" } : Jvm.MethodName)) ∈ UW := uw3 (List.mem_of_getElem? (i := 194) rfl) rfl
theorem q3_195 : (Jvm.Cond.code ({ cls := "CoinMeter$Readings", name := "has", desc := "(I)Z" } : Jvm.MethodName) prog_5_method_2_code (2 : Nat) (Option.some Jvm.ClassFile.FieldType.boolean)) ∈ UW := uw3 (List.mem_of_getElem? (i := 195) rfl) rfl
theorem q3_196 : (Jvm.Cond.methodLink "CoinMeter" (257 : Nat) ({ cls := "CoinMeter$Toppings", name := "restBetween", desc := "(III)I" } : Jvm.MethodName)) ∈ UW := uw3 (List.mem_of_getElem? (i := 196) rfl) rfl
theorem q3_197 : (Jvm.Cond.instanceMethod ({ cls := "CoinMeter$Toppings", name := "restBetween", desc := "(III)I" } : Jvm.MethodName)) ∈ UW := uw3 (List.mem_of_getElem? (i := 197) rfl) rfl
theorem q3_198 : (Jvm.Cond.selects "CoinMeter$Toppings" ({ cls := "CoinMeter$Toppings", name := "restBetween", desc := "(III)I" } : Jvm.MethodName) ({ cls := "CoinMeter$Toppings", name := "restBetween", desc := "(III)I" } : Jvm.MethodName)) ∈ UW := uw3 (List.mem_of_getElem? (i := 198) rfl) rfl
theorem q3_199 : (Jvm.Cond.code ({ cls := "CoinMeter$Toppings", name := "restBetween", desc := "(III)I" } : Jvm.MethodName) prog_8_method_3_code (6 : Nat) (Option.some Jvm.ClassFile.FieldType.int)) ∈ UW := uw3 (List.mem_of_getElem? (i := 199) rfl) rfl
theorem q3_200 : (Jvm.Cond.methodLink "CoinMeterLaw" (100 : Nat) ({ cls := "CoinMeter", name := "hold", desc := "(IIII)I" } : Jvm.MethodName)) ∈ UW := uw3 (List.mem_of_getElem? (i := 200) rfl) rfl
theorem q3_201 : (Jvm.Cond.instanceMethod ({ cls := "CoinMeter", name := "hold", desc := "(IIII)I" } : Jvm.MethodName)) ∈ UW := uw3 (List.mem_of_getElem? (i := 201) rfl) rfl
theorem q3_202 : (Jvm.Cond.selects "CoinMeter" ({ cls := "CoinMeter", name := "hold", desc := "(IIII)I" } : Jvm.MethodName) ({ cls := "CoinMeter", name := "hold", desc := "(IIII)I" } : Jvm.MethodName)) ∈ UW := uw3 (List.mem_of_getElem? (i := 202) rfl) rfl
theorem q3_203 : (Jvm.Cond.code ({ cls := "CoinMeter", name := "hold", desc := "(IIII)I" } : Jvm.MethodName) prog_1_method_22_code (5 : Nat) (Option.some Jvm.ClassFile.FieldType.int)) ∈ UW := uw3 (List.mem_of_getElem? (i := 203) rfl) rfl
theorem q3_204 : (Jvm.Cond.methodLink "CoinMeter" (260 : Nat) ({ cls := "CoinMeter", name := "isHolding", desc := "(III)Z" } : Jvm.MethodName)) ∈ UW := uw3 (List.mem_of_getElem? (i := 204) rfl) rfl
theorem q3_206 : (Jvm.Cond.instanceMethod ({ cls := "CoinMeter", name := "isHolding", desc := "(III)Z" } : Jvm.MethodName)) ∈ UW := uw3 (List.mem_of_getElem? (i := 206) rfl) rfl
theorem q3_207 : (Jvm.Cond.code ({ cls := "CoinMeter", name := "isHolding", desc := "(III)Z" } : Jvm.MethodName) prog_1_method_36_code (4 : Nat) (Option.some Jvm.ClassFile.FieldType.boolean)) ∈ UW := uw3 (List.mem_of_getElem? (i := 207) rfl) rfl
theorem q3_208 : (Jvm.Cond.methodLink "CoinMeter" (293 : Nat) ({ cls := "CoinMeter", name := "isSheet", desc := "(I)Z" } : Jvm.MethodName)) ∈ UW := uw3 (List.mem_of_getElem? (i := 208) rfl) rfl
theorem q3_209 : (Jvm.Cond.static ({ cls := "CoinMeter", name := "isSheet", desc := "(I)Z" } : Jvm.MethodName)) ∈ UW := uw3 (List.mem_of_getElem? (i := 209) rfl) rfl
theorem q3_210 : (Jvm.Cond.code ({ cls := "CoinMeter", name := "isSheet", desc := "(I)Z" } : Jvm.MethodName) prog_1_method_49_code (1 : Nat) (Option.some Jvm.ClassFile.FieldType.boolean)) ∈ UW := uw3 (List.mem_of_getElem? (i := 210) rfl) rfl
theorem q3_211 : (Jvm.Cond.methodLink "CoinMeter" (264 : Nat) ({ cls := "CoinMeter$Sheet", name := "isMissing", desc := "()Z" } : Jvm.MethodName)) ∈ UW := uw3 (List.mem_of_getElem? (i := 211) rfl) rfl
theorem q3_212 : (Jvm.Cond.instanceMethod ({ cls := "CoinMeter$Sheet", name := "isMissing", desc := "()Z" } : Jvm.MethodName)) ∈ UW := uw3 (List.mem_of_getElem? (i := 212) rfl) rfl
theorem q3_213 : (Jvm.Cond.selects "CoinMeter$Sheet" ({ cls := "CoinMeter$Sheet", name := "isMissing", desc := "()Z" } : Jvm.MethodName) ({ cls := "CoinMeter$Sheet", name := "isMissing", desc := "()Z" } : Jvm.MethodName)) ∈ UW := uw3 (List.mem_of_getElem? (i := 213) rfl) rfl
theorem q3_214 : (Jvm.Cond.code ({ cls := "CoinMeter$Sheet", name := "isMissing", desc := "()Z" } : Jvm.MethodName) prog_6_method_2_code (1 : Nat) (Option.some Jvm.ClassFile.FieldType.boolean)) ∈ UW := uw3 (List.mem_of_getElem? (i := 214) rfl) rfl
theorem q3_215 : (Jvm.Cond.methodLink "CoinMeter" (267 : Nat) ({ cls := "CoinMeter", name := "darkMore", desc := "(LCoinMeter$Meter;LCoinMeter$Sheet;III)I" } : Jvm.MethodName)) ∈ UW := uw3 (List.mem_of_getElem? (i := 215) rfl) rfl
theorem q3_217 : (Jvm.Cond.instanceMethod ({ cls := "CoinMeter", name := "darkMore", desc := "(LCoinMeter$Meter;LCoinMeter$Sheet;III)I" } : Jvm.MethodName)) ∈ UW := uw3 (List.mem_of_getElem? (i := 217) rfl) rfl
theorem q3_218 : (Jvm.Cond.code ({ cls := "CoinMeter", name := "darkMore", desc := "(LCoinMeter$Meter;LCoinMeter$Sheet;III)I" } : Jvm.MethodName) prog_1_method_37_code (8 : Nat) (Option.some Jvm.ClassFile.FieldType.int)) ∈ UW := uw3 (List.mem_of_getElem? (i := 218) rfl) rfl
theorem q3_219 : (Jvm.Cond.methodLink "CoinMeter" (339 : Nat) ({ cls := "CoinMeter$Meter", name := "copyFrom", desc := "(LCoinMeter$Meter;)V" } : Jvm.MethodName)) ∈ UW := uw3 (List.mem_of_getElem? (i := 219) rfl) rfl
theorem q3_220 : (Jvm.Cond.instanceMethod ({ cls := "CoinMeter$Meter", name := "copyFrom", desc := "(LCoinMeter$Meter;)V" } : Jvm.MethodName)) ∈ UW := uw3 (List.mem_of_getElem? (i := 220) rfl) rfl
theorem q3_221 : (Jvm.Cond.selects "CoinMeter$Meter" ({ cls := "CoinMeter$Meter", name := "copyFrom", desc := "(LCoinMeter$Meter;)V" } : Jvm.MethodName) ({ cls := "CoinMeter$Meter", name := "copyFrom", desc := "(LCoinMeter$Meter;)V" } : Jvm.MethodName)) ∈ UW := uw3 (List.mem_of_getElem? (i := 221) rfl) rfl
theorem q3_222 : (Jvm.Cond.code ({ cls := "CoinMeter$Meter", name := "copyFrom", desc := "(LCoinMeter$Meter;)V" } : Jvm.MethodName) prog_4_method_3_code (2 : Nat) (Option.none : Option Jvm.ClassFile.FieldType)) ∈ UW := uw3 (List.mem_of_getElem? (i := 222) rfl) rfl
theorem q3_223 : (Jvm.Cond.methodLink "CoinMeter$Meter" (59 : Nat) ({ cls := "java/lang/System", name := "arraycopy", desc := "(Ljava/lang/Object;ILjava/lang/Object;II)V" } : Jvm.MethodName)) ∈ UW := uw3 (List.mem_of_getElem? (i := 223) rfl) rfl
theorem q3_224 : (Jvm.Cond.methodLink "CoinMeter" (342 : Nat) ({ cls := "CoinMeter$Sheet", name := "numberAt", desc := "(I)I" } : Jvm.MethodName)) ∈ UW := uw3 (List.mem_of_getElem? (i := 224) rfl) rfl
theorem q3_225 : (Jvm.Cond.instanceMethod ({ cls := "CoinMeter$Sheet", name := "numberAt", desc := "(I)I" } : Jvm.MethodName)) ∈ UW := uw3 (List.mem_of_getElem? (i := 225) rfl) rfl
theorem q3_226 : (Jvm.Cond.selects "CoinMeter$Sheet" ({ cls := "CoinMeter$Sheet", name := "numberAt", desc := "(I)I" } : Jvm.MethodName) ({ cls := "CoinMeter$Sheet", name := "numberAt", desc := "(I)I" } : Jvm.MethodName)) ∈ UW := uw3 (List.mem_of_getElem? (i := 226) rfl) rfl
theorem q3_227 : (Jvm.Cond.code ({ cls := "CoinMeter$Sheet", name := "numberAt", desc := "(I)I" } : Jvm.MethodName) prog_6_method_6_code (2 : Nat) (Option.some Jvm.ClassFile.FieldType.int)) ∈ UW := uw3 (List.mem_of_getElem? (i := 227) rfl) rfl
theorem q3_228 : (Jvm.Cond.methodLink "CoinMeter" (348 : Nat) ({ cls := "CoinMeter$Town", name := "endHour", desc := "(LCoinMeter$Meter;I)Z" } : Jvm.MethodName)) ∈ UW := uw3 (List.mem_of_getElem? (i := 228) rfl) rfl
theorem q3_229 : (Jvm.Cond.methodLink "CoinMeterLaw" (104 : Nat) ({ cls := "CoinMeter", name := "greatest", desc := "(III)I" } : Jvm.MethodName)) ∈ UW := uw3 (List.mem_of_getElem? (i := 229) rfl) rfl
theorem q3_230 : (Jvm.Cond.instanceMethod ({ cls := "CoinMeter", name := "greatest", desc := "(III)I" } : Jvm.MethodName)) ∈ UW := uw3 (List.mem_of_getElem? (i := 230) rfl) rfl
theorem q3_231 : (Jvm.Cond.selects "CoinMeter" ({ cls := "CoinMeter", name := "greatest", desc := "(III)I" } : Jvm.MethodName) ({ cls := "CoinMeter", name := "greatest", desc := "(III)I" } : Jvm.MethodName)) ∈ UW := uw3 (List.mem_of_getElem? (i := 231) rfl) rfl
theorem q3_232 : (Jvm.Cond.code ({ cls := "CoinMeter", name := "greatest", desc := "(III)I" } : Jvm.MethodName) prog_1_method_23_code (7 : Nat) (Option.some Jvm.ClassFile.FieldType.int)) ∈ UW := uw3 (List.mem_of_getElem? (i := 232) rfl) rfl
theorem q3_233 : (Jvm.Cond.methodLink "CoinMeterLaw" (108 : Nat) ({ cls := "CoinMeter", name := "fewest", desc := "(II)I" } : Jvm.MethodName)) ∈ UW := uw3 (List.mem_of_getElem? (i := 233) rfl) rfl
theorem q3_234 : (Jvm.Cond.instanceMethod ({ cls := "CoinMeter", name := "fewest", desc := "(II)I" } : Jvm.MethodName)) ∈ UW := uw3 (List.mem_of_getElem? (i := 234) rfl) rfl
theorem q3_235 : (Jvm.Cond.selects "CoinMeter" ({ cls := "CoinMeter", name := "fewest", desc := "(II)I" } : Jvm.MethodName) ({ cls := "CoinMeter", name := "fewest", desc := "(II)I" } : Jvm.MethodName)) ∈ UW := uw3 (List.mem_of_getElem? (i := 235) rfl) rfl
theorem q3_236 : (Jvm.Cond.code ({ cls := "CoinMeter", name := "fewest", desc := "(II)I" } : Jvm.MethodName) prog_1_method_24_code (6 : Nat) (Option.some Jvm.ClassFile.FieldType.int)) ∈ UW := uw3 (List.mem_of_getElem? (i := 236) rfl) rfl
theorem q3_237 : (Jvm.Cond.methodLink "CoinMeter" (271 : Nat) ({ cls := "CoinMeter", name := "isReach", desc := "(I)Z" } : Jvm.MethodName)) ∈ UW := uw3 (List.mem_of_getElem? (i := 237) rfl) rfl
theorem q3_238 : (Jvm.Cond.static ({ cls := "CoinMeter", name := "isReach", desc := "(I)Z" } : Jvm.MethodName)) ∈ UW := uw3 (List.mem_of_getElem? (i := 238) rfl) rfl
theorem q3_239 : (Jvm.Cond.code ({ cls := "CoinMeter", name := "isReach", desc := "(I)Z" } : Jvm.MethodName) prog_1_method_48_code (1 : Nat) (Option.some Jvm.ClassFile.FieldType.boolean)) ∈ UW := uw3 (List.mem_of_getElem? (i := 239) rfl) rfl
theorem q4_0 : (Jvm.Cond.methodLink "CoinMeter" (274 : Nat) ({ cls := "CoinMeter", name := "findNear", desc := "(II)V" } : Jvm.MethodName)) ∈ UW := uw4 (List.mem_of_getElem? (i := 0) rfl) rfl
theorem q4_2 : (Jvm.Cond.instanceMethod ({ cls := "CoinMeter", name := "findNear", desc := "(II)V" } : Jvm.MethodName)) ∈ UW := uw4 (List.mem_of_getElem? (i := 2) rfl) rfl
theorem q4_3 : (Jvm.Cond.code ({ cls := "CoinMeter", name := "findNear", desc := "(II)V" } : Jvm.MethodName) prog_1_method_38_code (4 : Nat) (Option.none : Option Jvm.ClassFile.FieldType)) ∈ UW := uw4 (List.mem_of_getElem? (i := 3) rfl) rfl
theorem q4_4 : (Jvm.Cond.methodLink "CoinMeter" (351 : Nat) ({ cls := "CoinMeter$Shops", name := "openWithin", desc := "(LCoinMeter$Meter;II)I" } : Jvm.MethodName)) ∈ UW := uw4 (List.mem_of_getElem? (i := 4) rfl) rfl
theorem q4_5 : (Jvm.Cond.instanceMethod ({ cls := "CoinMeter$Shops", name := "openWithin", desc := "(LCoinMeter$Meter;II)I" } : Jvm.MethodName)) ∈ UW := uw4 (List.mem_of_getElem? (i := 5) rfl) rfl
theorem q4_6 : (Jvm.Cond.selects "CoinMeter$Shops" ({ cls := "CoinMeter$Shops", name := "openWithin", desc := "(LCoinMeter$Meter;II)I" } : Jvm.MethodName) ({ cls := "CoinMeter$Shops", name := "openWithin", desc := "(LCoinMeter$Meter;II)I" } : Jvm.MethodName)) ∈ UW := uw4 (List.mem_of_getElem? (i := 6) rfl) rfl
theorem q4_7 : (Jvm.Cond.code ({ cls := "CoinMeter$Shops", name := "openWithin", desc := "(LCoinMeter$Meter;II)I" } : Jvm.MethodName) prog_7_method_7_code (6 : Nat) (Option.some Jvm.ClassFile.FieldType.int)) ∈ UW := uw4 (List.mem_of_getElem? (i := 7) rfl) rfl
theorem q4_8 : (Jvm.Cond.methodLink "CoinMeter" (278 : Nat) ({ cls := "java/lang/Integer", name := "bitCount", desc := "(I)I" } : Jvm.MethodName)) ∈ UW := uw4 (List.mem_of_getElem? (i := 8) rfl) rfl
theorem q4_9 : (Jvm.Cond.static ({ cls := "java/lang/Integer", name := "bitCount", desc := "(I)I" } : Jvm.MethodName)) ∈ UW := uw4 (List.mem_of_getElem? (i := 9) rfl) rfl
theorem q4_10 : (Jvm.Cond.code ({ cls := "java/lang/Integer", name := "bitCount", desc := "(I)I" } : Jvm.MethodName) prog_13_method_49_code (1 : Nat) (Option.some Jvm.ClassFile.FieldType.int)) ∈ UW := uw4 (List.mem_of_getElem? (i := 10) rfl) rfl
theorem q4_11 : (Jvm.Cond.constant "java/lang/Integer" (265 : Nat) (1431655765 : Int32)) ∈ UW := uw4 (List.mem_of_getElem? (i := 11) rfl) rfl
theorem q4_12 : (Jvm.Cond.constant "java/lang/Integer" (266 : Nat) (858993459 : Int32)) ∈ UW := uw4 (List.mem_of_getElem? (i := 12) rfl) rfl
theorem q4_13 : (Jvm.Cond.constant "java/lang/Integer" (267 : Nat) (252645135 : Int32)) ∈ UW := uw4 (List.mem_of_getElem? (i := 13) rfl) rfl
theorem q4_14 : (Jvm.Cond.methodLink "CoinMeter" (283 : Nat) ({ cls := "CoinMeter", name := "servesAll", desc := "(I)Z" } : Jvm.MethodName)) ∈ UW := uw4 (List.mem_of_getElem? (i := 14) rfl) rfl
theorem q4_16 : (Jvm.Cond.instanceMethod ({ cls := "CoinMeter", name := "servesAll", desc := "(I)Z" } : Jvm.MethodName)) ∈ UW := uw4 (List.mem_of_getElem? (i := 16) rfl) rfl
theorem q4_17 : (Jvm.Cond.code ({ cls := "CoinMeter", name := "servesAll", desc := "(I)Z" } : Jvm.MethodName) prog_1_method_39_code (3 : Nat) (Option.some Jvm.ClassFile.FieldType.boolean)) ∈ UW := uw4 (List.mem_of_getElem? (i := 17) rfl) rfl
theorem q4_18 : (Jvm.Cond.methodLink "CoinMeterLaw" (112 : Nat) ({ cls := "CoinMeter", name := "far", desc := "(III)I" } : Jvm.MethodName)) ∈ UW := uw4 (List.mem_of_getElem? (i := 18) rfl) rfl
theorem q4_19 : (Jvm.Cond.instanceMethod ({ cls := "CoinMeter", name := "far", desc := "(III)I" } : Jvm.MethodName)) ∈ UW := uw4 (List.mem_of_getElem? (i := 19) rfl) rfl
theorem q4_20 : (Jvm.Cond.selects "CoinMeter" ({ cls := "CoinMeter", name := "far", desc := "(III)I" } : Jvm.MethodName) ({ cls := "CoinMeter", name := "far", desc := "(III)I" } : Jvm.MethodName)) ∈ UW := uw4 (List.mem_of_getElem? (i := 20) rfl) rfl
theorem q4_21 : (Jvm.Cond.code ({ cls := "CoinMeter", name := "far", desc := "(III)I" } : Jvm.MethodName) prog_1_method_25_code (6 : Nat) (Option.some Jvm.ClassFile.FieldType.int)) ∈ UW := uw4 (List.mem_of_getElem? (i := 21) rfl) rfl
theorem q4_22 : (Jvm.Cond.methodLink "CoinMeterLaw" (116 : Nat) ({ cls := "CoinMeter", name := "voice", desc := "(III)I" } : Jvm.MethodName)) ∈ UW := uw4 (List.mem_of_getElem? (i := 22) rfl) rfl
theorem q4_23 : (Jvm.Cond.instanceMethod ({ cls := "CoinMeter", name := "voice", desc := "(III)I" } : Jvm.MethodName)) ∈ UW := uw4 (List.mem_of_getElem? (i := 23) rfl) rfl
theorem q4_24 : (Jvm.Cond.selects "CoinMeter" ({ cls := "CoinMeter", name := "voice", desc := "(III)I" } : Jvm.MethodName) ({ cls := "CoinMeter", name := "voice", desc := "(III)I" } : Jvm.MethodName)) ∈ UW := uw4 (List.mem_of_getElem? (i := 24) rfl) rfl
theorem q4_25 : (Jvm.Cond.code ({ cls := "CoinMeter", name := "voice", desc := "(III)I" } : Jvm.MethodName) prog_1_method_26_code (4 : Nat) (Option.some Jvm.ClassFile.FieldType.int)) ∈ UW := uw4 (List.mem_of_getElem? (i := 25) rfl) rfl
theorem q4_26 : (Jvm.Cond.methodLink "CoinMeter" (286 : Nat) ({ cls := "CoinMeter$Voices", name := "speak", desc := "(LCoinMeter$Meter;II)I" } : Jvm.MethodName)) ∈ UW := uw4 (List.mem_of_getElem? (i := 26) rfl) rfl
theorem q4_27 : (Jvm.Cond.instanceMethod ({ cls := "CoinMeter$Voices", name := "speak", desc := "(LCoinMeter$Meter;II)I" } : Jvm.MethodName)) ∈ UW := uw4 (List.mem_of_getElem? (i := 27) rfl) rfl
theorem q4_28 : (Jvm.Cond.selects "CoinMeter$Voices" ({ cls := "CoinMeter$Voices", name := "speak", desc := "(LCoinMeter$Meter;II)I" } : Jvm.MethodName) ({ cls := "CoinMeter$Voices", name := "speak", desc := "(LCoinMeter$Meter;II)I" } : Jvm.MethodName)) ∈ UW := uw4 (List.mem_of_getElem? (i := 28) rfl) rfl
theorem q4_29 : (Jvm.Cond.code ({ cls := "CoinMeter$Voices", name := "speak", desc := "(LCoinMeter$Meter;II)I" } : Jvm.MethodName) prog_10_method_2_code (4 : Nat) (Option.some Jvm.ClassFile.FieldType.int)) ∈ UW := uw4 (List.mem_of_getElem? (i := 29) rfl) rfl
theorem q4_30 : (Jvm.Cond.methodLink "CoinMeter$Voices" (24 : Nat) ({ cls := "CoinMeter$Voices", name := "say", desc := "(LCoinMeter$Meter;IIII)I" } : Jvm.MethodName)) ∈ UW := uw4 (List.mem_of_getElem? (i := 30) rfl) rfl
theorem q4_32 : (Jvm.Cond.instanceMethod ({ cls := "CoinMeter$Voices", name := "say", desc := "(LCoinMeter$Meter;IIII)I" } : Jvm.MethodName)) ∈ UW := uw4 (List.mem_of_getElem? (i := 32) rfl) rfl
theorem q4_33 : (Jvm.Cond.code ({ cls := "CoinMeter$Voices", name := "say", desc := "(LCoinMeter$Meter;IIII)I" } : Jvm.MethodName) prog_10_method_3_code (11 : Nat) (Option.some Jvm.ClassFile.FieldType.int)) ∈ UW := uw4 (List.mem_of_getElem? (i := 33) rfl) rfl
theorem q4_34 : (Jvm.Cond.methodLink "CoinMeter$Voices" (28 : Nat) ({ cls := "CoinMeter$Voices", name := "ownerOf", desc := "(II)I" } : Jvm.MethodName)) ∈ UW := uw4 (List.mem_of_getElem? (i := 34) rfl) rfl
theorem q4_35 : (Jvm.Cond.static ({ cls := "CoinMeter$Voices", name := "ownerOf", desc := "(II)I" } : Jvm.MethodName)) ∈ UW := uw4 (List.mem_of_getElem? (i := 35) rfl) rfl
theorem q4_36 : (Jvm.Cond.code ({ cls := "CoinMeter$Voices", name := "ownerOf", desc := "(II)I" } : Jvm.MethodName) prog_10_method_4_code (4 : Nat) (Option.some Jvm.ClassFile.FieldType.int)) ∈ UW := uw4 (List.mem_of_getElem? (i := 36) rfl) rfl
theorem q4_38 : (Jvm.Cond.fieldLink "CoinMeter$Voices" (36 : Nat) "CoinMeter$Voices" "BODIES" "[I") ∈ UW := uw4 (List.mem_of_getElem? (i := 38) rfl) rfl
theorem q4_41 : (Jvm.Cond.methodLink "CoinMeter$Voices" (48 : Nat) ({ cls := "CoinMeter$Voices", name := "note", desc := "(I)V" } : Jvm.MethodName)) ∈ UW := uw4 (List.mem_of_getElem? (i := 41) rfl) rfl
theorem q4_43 : (Jvm.Cond.instanceMethod ({ cls := "CoinMeter$Voices", name := "note", desc := "(I)V" } : Jvm.MethodName)) ∈ UW := uw4 (List.mem_of_getElem? (i := 43) rfl) rfl
theorem q4_44 : (Jvm.Cond.code ({ cls := "CoinMeter$Voices", name := "note", desc := "(I)V" } : Jvm.MethodName) prog_10_method_5_code (2 : Nat) (Option.none : Option Jvm.ClassFile.FieldType)) ∈ UW := uw4 (List.mem_of_getElem? (i := 44) rfl) rfl
theorem q4_45 : (Jvm.Cond.methodLink "CoinMeterLaw" (120 : Nat) ({ cls := "CoinMeter", name := "trace", desc := "(I)I" } : Jvm.MethodName)) ∈ UW := uw4 (List.mem_of_getElem? (i := 45) rfl) rfl
theorem q4_46 : (Jvm.Cond.instanceMethod ({ cls := "CoinMeter", name := "trace", desc := "(I)I" } : Jvm.MethodName)) ∈ UW := uw4 (List.mem_of_getElem? (i := 46) rfl) rfl
theorem q4_47 : (Jvm.Cond.selects "CoinMeter" ({ cls := "CoinMeter", name := "trace", desc := "(I)I" } : Jvm.MethodName) ({ cls := "CoinMeter", name := "trace", desc := "(I)I" } : Jvm.MethodName)) ∈ UW := uw4 (List.mem_of_getElem? (i := 47) rfl) rfl
theorem q4_48 : (Jvm.Cond.code ({ cls := "CoinMeter", name := "trace", desc := "(I)I" } : Jvm.MethodName) prog_1_method_27_code (2 : Nat) (Option.some Jvm.ClassFile.FieldType.int)) ∈ UW := uw4 (List.mem_of_getElem? (i := 48) rfl) rfl
theorem q4_49 : (Jvm.Cond.methodLink "CoinMeterLaw" (124 : Nat) ({ cls := "CoinMeter", name := "sheet", desc := "(III)I" } : Jvm.MethodName)) ∈ UW := uw4 (List.mem_of_getElem? (i := 49) rfl) rfl
theorem q4_50 : (Jvm.Cond.instanceMethod ({ cls := "CoinMeter", name := "sheet", desc := "(III)I" } : Jvm.MethodName)) ∈ UW := uw4 (List.mem_of_getElem? (i := 50) rfl) rfl
theorem q4_51 : (Jvm.Cond.selects "CoinMeter" ({ cls := "CoinMeter", name := "sheet", desc := "(III)I" } : Jvm.MethodName) ({ cls := "CoinMeter", name := "sheet", desc := "(III)I" } : Jvm.MethodName)) ∈ UW := uw4 (List.mem_of_getElem? (i := 51) rfl) rfl
theorem q4_52 : (Jvm.Cond.code ({ cls := "CoinMeter", name := "sheet", desc := "(III)I" } : Jvm.MethodName) prog_1_method_28_code (4 : Nat) (Option.some Jvm.ClassFile.FieldType.int)) ∈ UW := uw4 (List.mem_of_getElem? (i := 52) rfl) rfl
theorem q4_53 : (Jvm.Cond.methodLink "CoinMeter" (296 : Nat) ({ cls := "CoinMeter$Sheet", name := "begin", desc := "(II)V" } : Jvm.MethodName)) ∈ UW := uw4 (List.mem_of_getElem? (i := 53) rfl) rfl
theorem q4_54 : (Jvm.Cond.instanceMethod ({ cls := "CoinMeter$Sheet", name := "begin", desc := "(II)V" } : Jvm.MethodName)) ∈ UW := uw4 (List.mem_of_getElem? (i := 54) rfl) rfl
theorem q4_55 : (Jvm.Cond.selects "CoinMeter$Sheet" ({ cls := "CoinMeter$Sheet", name := "begin", desc := "(II)V" } : Jvm.MethodName) ({ cls := "CoinMeter$Sheet", name := "begin", desc := "(II)V" } : Jvm.MethodName)) ∈ UW := uw4 (List.mem_of_getElem? (i := 55) rfl) rfl
theorem q4_56 : (Jvm.Cond.code ({ cls := "CoinMeter$Sheet", name := "begin", desc := "(II)V" } : Jvm.MethodName) prog_6_method_3_code (4 : Nat) (Option.none : Option Jvm.ClassFile.FieldType)) ∈ UW := uw4 (List.mem_of_getElem? (i := 56) rfl) rfl
theorem q4_58 : (Jvm.Cond.methodLink "CoinMeterLaw" (128 : Nat) ({ cls := "CoinMeter", name := "put", desc := "(III)I" } : Jvm.MethodName)) ∈ UW := uw4 (List.mem_of_getElem? (i := 58) rfl) rfl
theorem q4_59 : (Jvm.Cond.instanceMethod ({ cls := "CoinMeter", name := "put", desc := "(III)I" } : Jvm.MethodName)) ∈ UW := uw4 (List.mem_of_getElem? (i := 59) rfl) rfl
theorem q4_60 : (Jvm.Cond.selects "CoinMeter" ({ cls := "CoinMeter", name := "put", desc := "(III)I" } : Jvm.MethodName) ({ cls := "CoinMeter", name := "put", desc := "(III)I" } : Jvm.MethodName)) ∈ UW := uw4 (List.mem_of_getElem? (i := 60) rfl) rfl
theorem q4_61 : (Jvm.Cond.code ({ cls := "CoinMeter", name := "put", desc := "(III)I" } : Jvm.MethodName) prog_1_method_29_code (5 : Nat) (Option.some Jvm.ClassFile.FieldType.int)) ∈ UW := uw4 (List.mem_of_getElem? (i := 61) rfl) rfl
theorem q4_62 : (Jvm.Cond.methodLink "CoinMeter" (300 : Nat) ({ cls := "CoinMeter$Sheet", name := "write", desc := "(II)V" } : Jvm.MethodName)) ∈ UW := uw4 (List.mem_of_getElem? (i := 62) rfl) rfl
theorem q4_63 : (Jvm.Cond.instanceMethod ({ cls := "CoinMeter$Sheet", name := "write", desc := "(II)V" } : Jvm.MethodName)) ∈ UW := uw4 (List.mem_of_getElem? (i := 63) rfl) rfl
theorem q4_64 : (Jvm.Cond.selects "CoinMeter$Sheet" ({ cls := "CoinMeter$Sheet", name := "write", desc := "(II)V" } : Jvm.MethodName) ({ cls := "CoinMeter$Sheet", name := "write", desc := "(II)V" } : Jvm.MethodName)) ∈ UW := uw4 (List.mem_of_getElem? (i := 64) rfl) rfl
theorem q4_65 : (Jvm.Cond.code ({ cls := "CoinMeter$Sheet", name := "write", desc := "(II)V" } : Jvm.MethodName) prog_6_method_4_code (3 : Nat) (Option.none : Option Jvm.ClassFile.FieldType)) ∈ UW := uw4 (List.mem_of_getElem? (i := 65) rfl) rfl
theorem q4_66 : (Jvm.Cond.methodLink "CoinMeter$Sheet" (26 : Nat) ({ cls := "CoinMeter$Sheet", name := "lowest", desc := "(I)I" } : Jvm.MethodName)) ∈ UW := uw4 (List.mem_of_getElem? (i := 66) rfl) rfl
theorem q4_68 : (Jvm.Cond.instanceMethod ({ cls := "CoinMeter$Sheet", name := "lowest", desc := "(I)I" } : Jvm.MethodName)) ∈ UW := uw4 (List.mem_of_getElem? (i := 68) rfl) rfl
theorem q4_69 : (Jvm.Cond.code ({ cls := "CoinMeter$Sheet", name := "lowest", desc := "(I)I" } : Jvm.MethodName) prog_6_method_5_code (2 : Nat) (Option.some Jvm.ClassFile.FieldType.int)) ∈ UW := uw4 (List.mem_of_getElem? (i := 69) rfl) rfl
theorem q4_70 : (Jvm.Cond.methodLink "CoinMeterLaw" (132 : Nat) ({ cls := "CoinMeter", name := "move", desc := "(IIIII)I" } : Jvm.MethodName)) ∈ UW := uw4 (List.mem_of_getElem? (i := 70) rfl) rfl
theorem q4_71 : (Jvm.Cond.instanceMethod ({ cls := "CoinMeter", name := "move", desc := "(IIIII)I" } : Jvm.MethodName)) ∈ UW := uw4 (List.mem_of_getElem? (i := 71) rfl) rfl
theorem q4_72 : (Jvm.Cond.selects "CoinMeter" ({ cls := "CoinMeter", name := "move", desc := "(IIIII)I" } : Jvm.MethodName) ({ cls := "CoinMeter", name := "move", desc := "(IIIII)I" } : Jvm.MethodName)) ∈ UW := uw4 (List.mem_of_getElem? (i := 72) rfl) rfl
theorem q4_73 : (Jvm.Cond.code ({ cls := "CoinMeter", name := "move", desc := "(IIIII)I" } : Jvm.MethodName) prog_1_method_30_code (8 : Nat) (Option.some Jvm.ClassFile.FieldType.int)) ∈ UW := uw4 (List.mem_of_getElem? (i := 73) rfl) rfl
theorem q4_74 : (Jvm.Cond.methodLink "CoinMeter" (306 : Nat) ({ cls := "CoinMeter$Sheet", name := "holds", desc := "(II)Z" } : Jvm.MethodName)) ∈ UW := uw4 (List.mem_of_getElem? (i := 74) rfl) rfl
theorem q4_75 : (Jvm.Cond.instanceMethod ({ cls := "CoinMeter$Sheet", name := "holds", desc := "(II)Z" } : Jvm.MethodName)) ∈ UW := uw4 (List.mem_of_getElem? (i := 75) rfl) rfl
theorem q4_76 : (Jvm.Cond.selects "CoinMeter$Sheet" ({ cls := "CoinMeter$Sheet", name := "holds", desc := "(II)Z" } : Jvm.MethodName) ({ cls := "CoinMeter$Sheet", name := "holds", desc := "(II)Z" } : Jvm.MethodName)) ∈ UW := uw4 (List.mem_of_getElem? (i := 76) rfl) rfl
theorem q4_77 : (Jvm.Cond.code ({ cls := "CoinMeter$Sheet", name := "holds", desc := "(II)Z" } : Jvm.MethodName) prog_6_method_7_code (3 : Nat) (Option.some Jvm.ClassFile.FieldType.boolean)) ∈ UW := uw4 (List.mem_of_getElem? (i := 77) rfl) rfl
theorem q4_78 : (Jvm.Cond.methodLink "CoinMeter" (312 : Nat) ({ cls := "java/lang/System", name := "arraycopy", desc := "(Ljava/lang/Object;ILjava/lang/Object;II)V" } : Jvm.MethodName)) ∈ UW := uw4 (List.mem_of_getElem? (i := 78) rfl) rfl
theorem q4_79 : (Jvm.Cond.methodLink "CoinMeterLaw" (137 : Nat) ({ cls := "CoinMeter", name := "image", desc := "()I" } : Jvm.MethodName)) ∈ UW := uw4 (List.mem_of_getElem? (i := 79) rfl) rfl
theorem q4_80 : (Jvm.Cond.instanceMethod ({ cls := "CoinMeter", name := "image", desc := "()I" } : Jvm.MethodName)) ∈ UW := uw4 (List.mem_of_getElem? (i := 80) rfl) rfl
theorem q4_81 : (Jvm.Cond.selects "CoinMeter" ({ cls := "CoinMeter", name := "image", desc := "()I" } : Jvm.MethodName) ({ cls := "CoinMeter", name := "image", desc := "()I" } : Jvm.MethodName)) ∈ UW := uw4 (List.mem_of_getElem? (i := 81) rfl) rfl
theorem q4_82 : (Jvm.Cond.code ({ cls := "CoinMeter", name := "image", desc := "()I" } : Jvm.MethodName) prog_1_method_31_code (1 : Nat) (Option.some Jvm.ClassFile.FieldType.int)) ∈ UW := uw4 (List.mem_of_getElem? (i := 82) rfl) rfl
theorem q4_83 : (Jvm.Cond.methodLink "CoinMeter" (318 : Nat) ({ cls := "CoinMeter$Town", name := "copyFrom", desc := "(LCoinMeter$Town;)V" } : Jvm.MethodName)) ∈ UW := uw4 (List.mem_of_getElem? (i := 83) rfl) rfl
theorem q4_84 : (Jvm.Cond.instanceMethod ({ cls := "CoinMeter$Town", name := "copyFrom", desc := "(LCoinMeter$Town;)V" } : Jvm.MethodName)) ∈ UW := uw4 (List.mem_of_getElem? (i := 84) rfl) rfl
theorem q4_85 : (Jvm.Cond.selects "CoinMeter$Town" ({ cls := "CoinMeter$Town", name := "copyFrom", desc := "(LCoinMeter$Town;)V" } : Jvm.MethodName) ({ cls := "CoinMeter$Town", name := "copyFrom", desc := "(LCoinMeter$Town;)V" } : Jvm.MethodName)) ∈ UW := uw4 (List.mem_of_getElem? (i := 85) rfl) rfl
theorem q4_86 : (Jvm.Cond.code ({ cls := "CoinMeter$Town", name := "copyFrom", desc := "(LCoinMeter$Town;)V" } : Jvm.MethodName) prog_9_method_11_code (3 : Nat) (Option.none : Option Jvm.ClassFile.FieldType)) ∈ UW := uw4 (List.mem_of_getElem? (i := 86) rfl) rfl
theorem q4_87 : (Jvm.Cond.methodLink "CoinMeter$Town" (149 : Nat) ({ cls := "CoinMeter$Meter", name := "copyFrom", desc := "(LCoinMeter$Meter;)V" } : Jvm.MethodName)) ∈ UW := uw4 (List.mem_of_getElem? (i := 87) rfl) rfl
theorem q4_88 : (Jvm.Cond.methodLink "CoinMeter$Town" (153 : Nat) ({ cls := "CoinMeter$Shops", name := "copyFrom", desc := "(LCoinMeter$Shops;)V" } : Jvm.MethodName)) ∈ UW := uw4 (List.mem_of_getElem? (i := 88) rfl) rfl
theorem q4_89 : (Jvm.Cond.instanceMethod ({ cls := "CoinMeter$Shops", name := "copyFrom", desc := "(LCoinMeter$Shops;)V" } : Jvm.MethodName)) ∈ UW := uw4 (List.mem_of_getElem? (i := 89) rfl) rfl
theorem q4_90 : (Jvm.Cond.selects "CoinMeter$Shops" ({ cls := "CoinMeter$Shops", name := "copyFrom", desc := "(LCoinMeter$Shops;)V" } : Jvm.MethodName) ({ cls := "CoinMeter$Shops", name := "copyFrom", desc := "(LCoinMeter$Shops;)V" } : Jvm.MethodName)) ∈ UW := uw4 (List.mem_of_getElem? (i := 90) rfl) rfl
theorem q4_91 : (Jvm.Cond.code ({ cls := "CoinMeter$Shops", name := "copyFrom", desc := "(LCoinMeter$Shops;)V" } : Jvm.MethodName) prog_7_method_8_code (2 : Nat) (Option.none : Option Jvm.ClassFile.FieldType)) ∈ UW := uw4 (List.mem_of_getElem? (i := 91) rfl) rfl
theorem q4_92 : (Jvm.Cond.methodLink "CoinMeter$Shops" (52 : Nat) ({ cls := "java/lang/System", name := "arraycopy", desc := "(Ljava/lang/Object;ILjava/lang/Object;II)V" } : Jvm.MethodName)) ∈ UW := uw4 (List.mem_of_getElem? (i := 92) rfl) rfl
theorem q4_93 : (Jvm.Cond.methodLink "CoinMeter$Town" (156 : Nat) ({ cls := "CoinMeter$Laws", name := "copyFrom", desc := "(LCoinMeter$Laws;)V" } : Jvm.MethodName)) ∈ UW := uw4 (List.mem_of_getElem? (i := 93) rfl) rfl
theorem q4_94 : (Jvm.Cond.instanceMethod ({ cls := "CoinMeter$Laws", name := "copyFrom", desc := "(LCoinMeter$Laws;)V" } : Jvm.MethodName)) ∈ UW := uw4 (List.mem_of_getElem? (i := 94) rfl) rfl
theorem q4_95 : (Jvm.Cond.selects "CoinMeter$Laws" ({ cls := "CoinMeter$Laws", name := "copyFrom", desc := "(LCoinMeter$Laws;)V" } : Jvm.MethodName) ({ cls := "CoinMeter$Laws", name := "copyFrom", desc := "(LCoinMeter$Laws;)V" } : Jvm.MethodName)) ∈ UW := uw4 (List.mem_of_getElem? (i := 95) rfl) rfl
theorem q4_96 : (Jvm.Cond.code ({ cls := "CoinMeter$Laws", name := "copyFrom", desc := "(LCoinMeter$Laws;)V" } : Jvm.MethodName) prog_3_method_12_code (2 : Nat) (Option.none : Option Jvm.ClassFile.FieldType)) ∈ UW := uw4 (List.mem_of_getElem? (i := 96) rfl) rfl
theorem q4_97 : (Jvm.Cond.methodLink "CoinMeter$Town" (159 : Nat) ({ cls := "CoinMeter$Readings", name := "copyFrom", desc := "(LCoinMeter$Readings;)V" } : Jvm.MethodName)) ∈ UW := uw4 (List.mem_of_getElem? (i := 97) rfl) rfl
theorem q4_98 : (Jvm.Cond.instanceMethod ({ cls := "CoinMeter$Readings", name := "copyFrom", desc := "(LCoinMeter$Readings;)V" } : Jvm.MethodName)) ∈ UW := uw4 (List.mem_of_getElem? (i := 98) rfl) rfl
theorem q4_99 : (Jvm.Cond.selects "CoinMeter$Readings" ({ cls := "CoinMeter$Readings", name := "copyFrom", desc := "(LCoinMeter$Readings;)V" } : Jvm.MethodName) ({ cls := "CoinMeter$Readings", name := "copyFrom", desc := "(LCoinMeter$Readings;)V" } : Jvm.MethodName)) ∈ UW := uw4 (List.mem_of_getElem? (i := 99) rfl) rfl
theorem q4_100 : (Jvm.Cond.code ({ cls := "CoinMeter$Readings", name := "copyFrom", desc := "(LCoinMeter$Readings;)V" } : Jvm.MethodName) prog_5_method_5_code (2 : Nat) (Option.none : Option Jvm.ClassFile.FieldType)) ∈ UW := uw4 (List.mem_of_getElem? (i := 100) rfl) rfl
theorem q4_101 : (Jvm.Cond.methodLink "CoinMeter$Readings" (28 : Nat) ({ cls := "java/lang/System", name := "arraycopy", desc := "(Ljava/lang/Object;ILjava/lang/Object;II)V" } : Jvm.MethodName)) ∈ UW := uw4 (List.mem_of_getElem? (i := 101) rfl) rfl
theorem q4_102 : (Jvm.Cond.methodLink "CoinMeter$Town" (162 : Nat) ({ cls := "CoinMeter$Toppings", name := "copyFrom", desc := "(LCoinMeter$Toppings;)V" } : Jvm.MethodName)) ∈ UW := uw4 (List.mem_of_getElem? (i := 102) rfl) rfl
theorem q4_103 : (Jvm.Cond.instanceMethod ({ cls := "CoinMeter$Toppings", name := "copyFrom", desc := "(LCoinMeter$Toppings;)V" } : Jvm.MethodName)) ∈ UW := uw4 (List.mem_of_getElem? (i := 103) rfl) rfl
theorem q4_104 : (Jvm.Cond.selects "CoinMeter$Toppings" ({ cls := "CoinMeter$Toppings", name := "copyFrom", desc := "(LCoinMeter$Toppings;)V" } : Jvm.MethodName) ({ cls := "CoinMeter$Toppings", name := "copyFrom", desc := "(LCoinMeter$Toppings;)V" } : Jvm.MethodName)) ∈ UW := uw4 (List.mem_of_getElem? (i := 104) rfl) rfl
theorem q4_105 : (Jvm.Cond.code ({ cls := "CoinMeter$Toppings", name := "copyFrom", desc := "(LCoinMeter$Toppings;)V" } : Jvm.MethodName) prog_8_method_4_code (2 : Nat) (Option.none : Option Jvm.ClassFile.FieldType)) ∈ UW := uw4 (List.mem_of_getElem? (i := 105) rfl) rfl
theorem q4_106 : (Jvm.Cond.methodLink "CoinMeter$Toppings" (31 : Nat) ({ cls := "java/lang/System", name := "arraycopy", desc := "(Ljava/lang/Object;ILjava/lang/Object;II)V" } : Jvm.MethodName)) ∈ UW := uw4 (List.mem_of_getElem? (i := 106) rfl) rfl
theorem q4_107 : (Jvm.Cond.methodLink "CoinMeter$Town" (165 : Nat) ({ cls := "java/lang/System", name := "arraycopy", desc := "(Ljava/lang/Object;ILjava/lang/Object;II)V" } : Jvm.MethodName)) ∈ UW := uw4 (List.mem_of_getElem? (i := 107) rfl) rfl
theorem q4_108 : (Jvm.Cond.methodLink "CoinMeterLaw" (142 : Nat) ({ cls := "CoinMeter", name := "restore", desc := "()I" } : Jvm.MethodName)) ∈ UW := uw4 (List.mem_of_getElem? (i := 108) rfl) rfl
theorem q4_109 : (Jvm.Cond.instanceMethod ({ cls := "CoinMeter", name := "restore", desc := "()I" } : Jvm.MethodName)) ∈ UW := uw4 (List.mem_of_getElem? (i := 109) rfl) rfl
theorem q4_110 : (Jvm.Cond.selects "CoinMeter" ({ cls := "CoinMeter", name := "restore", desc := "()I" } : Jvm.MethodName) ({ cls := "CoinMeter", name := "restore", desc := "()I" } : Jvm.MethodName)) ∈ UW := uw4 (List.mem_of_getElem? (i := 110) rfl) rfl
theorem q4_111 : (Jvm.Cond.code ({ cls := "CoinMeter", name := "restore", desc := "()I" } : Jvm.MethodName) prog_1_method_32_code (1 : Nat) (Option.some Jvm.ClassFile.FieldType.int)) ∈ UW := uw4 (List.mem_of_getElem? (i := 111) rfl) rfl
theorem q4_112 : (Jvm.Cond.methodLink "CoinMeterLaw" (146 : Nat) ({ cls := "CoinMeter", name := "told", desc := "(I)I" } : Jvm.MethodName)) ∈ UW := uw4 (List.mem_of_getElem? (i := 112) rfl) rfl
theorem q4_113 : (Jvm.Cond.instanceMethod ({ cls := "CoinMeter", name := "told", desc := "(I)I" } : Jvm.MethodName)) ∈ UW := uw4 (List.mem_of_getElem? (i := 113) rfl) rfl
theorem q4_114 : (Jvm.Cond.selects "CoinMeter" ({ cls := "CoinMeter", name := "told", desc := "(I)I" } : Jvm.MethodName) ({ cls := "CoinMeter", name := "told", desc := "(I)I" } : Jvm.MethodName)) ∈ UW := uw4 (List.mem_of_getElem? (i := 114) rfl) rfl
theorem q4_115 : (Jvm.Cond.code ({ cls := "CoinMeter", name := "told", desc := "(I)I" } : Jvm.MethodName) prog_1_method_33_code (2 : Nat) (Option.some Jvm.ClassFile.FieldType.int)) ∈ UW := uw4 (List.mem_of_getElem? (i := 115) rfl) rfl
theorem q4_116 : (Jvm.Cond.methodLink "CoinMeter" (332 : Nat) ({ cls := "CoinMeter$Town", name := "countCut", desc := "()I" } : Jvm.MethodName)) ∈ UW := uw4 (List.mem_of_getElem? (i := 116) rfl) rfl
theorem q4_117 : (Jvm.Cond.instanceMethod ({ cls := "CoinMeter$Town", name := "countCut", desc := "()I" } : Jvm.MethodName)) ∈ UW := uw4 (List.mem_of_getElem? (i := 117) rfl) rfl
theorem q4_118 : (Jvm.Cond.selects "CoinMeter$Town" ({ cls := "CoinMeter$Town", name := "countCut", desc := "()I" } : Jvm.MethodName) ({ cls := "CoinMeter$Town", name := "countCut", desc := "()I" } : Jvm.MethodName)) ∈ UW := uw4 (List.mem_of_getElem? (i := 118) rfl) rfl
theorem q4_119 : (Jvm.Cond.code ({ cls := "CoinMeter$Town", name := "countCut", desc := "()I" } : Jvm.MethodName) prog_9_method_9_code (3 : Nat) (Option.some Jvm.ClassFile.FieldType.int)) ∈ UW := uw4 (List.mem_of_getElem? (i := 119) rfl) rfl
theorem q4_120 : (Jvm.Cond.methodLink "CoinMeter" (335 : Nat) ({ cls := "CoinMeter$Town", name := "allDebt", desc := "()I" } : Jvm.MethodName)) ∈ UW := uw4 (List.mem_of_getElem? (i := 120) rfl) rfl
theorem q4_121 : (Jvm.Cond.instanceMethod ({ cls := "CoinMeter$Town", name := "allDebt", desc := "()I" } : Jvm.MethodName)) ∈ UW := uw4 (List.mem_of_getElem? (i := 121) rfl) rfl
theorem q4_122 : (Jvm.Cond.selects "CoinMeter$Town" ({ cls := "CoinMeter$Town", name := "allDebt", desc := "()I" } : Jvm.MethodName) ({ cls := "CoinMeter$Town", name := "allDebt", desc := "()I" } : Jvm.MethodName)) ∈ UW := uw4 (List.mem_of_getElem? (i := 122) rfl) rfl
theorem q4_123 : (Jvm.Cond.code ({ cls := "CoinMeter$Town", name := "allDebt", desc := "()I" } : Jvm.MethodName) prog_9_method_10_code (3 : Nat) (Option.some Jvm.ClassFile.FieldType.int)) ∈ UW := uw4 (List.mem_of_getElem? (i := 123) rfl) rfl
theorem q4_124 : (Jvm.Cond.methodLink "CoinMeterLaw" (150 : Nat) ({ cls := "CoinMeter", name := "found", desc := "(I)I" } : Jvm.MethodName)) ∈ UW := uw4 (List.mem_of_getElem? (i := 124) rfl) rfl
theorem q4_125 : (Jvm.Cond.instanceMethod ({ cls := "CoinMeter", name := "found", desc := "(I)I" } : Jvm.MethodName)) ∈ UW := uw4 (List.mem_of_getElem? (i := 125) rfl) rfl
theorem q4_126 : (Jvm.Cond.selects "CoinMeter" ({ cls := "CoinMeter", name := "found", desc := "(I)I" } : Jvm.MethodName) ({ cls := "CoinMeter", name := "found", desc := "(I)I" } : Jvm.MethodName)) ∈ UW := uw4 (List.mem_of_getElem? (i := 126) rfl) rfl
theorem q4_127 : (Jvm.Cond.code ({ cls := "CoinMeter", name := "found", desc := "(I)I" } : Jvm.MethodName) prog_1_method_34_code (2 : Nat) (Option.some Jvm.ClassFile.FieldType.int)) ∈ UW := uw4 (List.mem_of_getElem? (i := 127) rfl) rfl
theorem q4_128 : (Jvm.Cond.classLink "CoinMeterLaw" (10 : Nat) "CoinMeterModel") ∈ UW := uw4 (List.mem_of_getElem? (i := 128) rfl) rfl
theorem q4_129 : (Jvm.Cond.instantiable "CoinMeterModel" (22 : Nat)) ∈ UW := uw4 (List.mem_of_getElem? (i := 129) rfl) rfl
theorem q4_130 : (Jvm.Cond.methodLink "CoinMeterLaw" (12 : Nat) ({ cls := "CoinMeterModel", name := "<init>", desc := "()V" } : Jvm.MethodName)) ∈ UW := uw4 (List.mem_of_getElem? (i := 130) rfl) rfl
theorem q4_131 : (Jvm.Cond.instanceMethod ({ cls := "CoinMeterModel", name := "<init>", desc := "()V" } : Jvm.MethodName)) ∈ UW := uw4 (List.mem_of_getElem? (i := 131) rfl) rfl
theorem q4_132 : (Jvm.Cond.code ({ cls := "CoinMeterModel", name := "<init>", desc := "()V" } : Jvm.MethodName) prog_12_method_1_code (1 : Nat) (Option.none : Option Jvm.ClassFile.FieldType)) ∈ UW := uw4 (List.mem_of_getElem? (i := 132) rfl) rfl
theorem q4_133 : (Jvm.Cond.methodLink "CoinMeterModel" (1 : Nat) ({ cls := "java/lang/Object", name := "<init>", desc := "()V" } : Jvm.MethodName)) ∈ UW := uw4 (List.mem_of_getElem? (i := 133) rfl) rfl
theorem q4_134 : (Jvm.Cond.fieldLink "CoinMeterModel" (7 : Nat) "CoinMeterModel" "d" "[I") ∈ UW := uw4 (List.mem_of_getElem? (i := 134) rfl) rfl
theorem q4_135 : (Jvm.Cond.fieldLink "CoinMeterModel" (13 : Nat) "CoinMeterModel" "keptRow" "[I") ∈ UW := uw4 (List.mem_of_getElem? (i := 135) rfl) rfl
theorem q4_136 : (Jvm.Cond.fieldLink "CoinMeterModel" (239 : Nat) "CoinMeterModel" "hasKept" "Z") ∈ UW := uw4 (List.mem_of_getElem? (i := 136) rfl) rfl
theorem q4_137 : (Jvm.Cond.fieldLink "CoinMeterModel" (242 : Nat) "CoinMeterModel" "kept" "I") ∈ UW := uw4 (List.mem_of_getElem? (i := 137) rfl) rfl
theorem q4_138 : (Jvm.Cond.fieldLink "CoinMeterModel" (16 : Nat) "CoinMeterModel" "trialRow" "[I") ∈ UW := uw4 (List.mem_of_getElem? (i := 138) rfl) rfl
theorem q4_139 : (Jvm.Cond.fieldLink "CoinMeterModel" (19 : Nat) "CoinMeterModel" "found" "[I") ∈ UW := uw4 (List.mem_of_getElem? (i := 139) rfl) rfl
theorem q4_140 : (Jvm.Cond.fieldLink "CoinMeterModel" (63 : Nat) "CoinMeterModel" "from" "I") ∈ UW := uw4 (List.mem_of_getElem? (i := 140) rfl) rfl
theorem q4_141 : (Jvm.Cond.fieldLink "CoinMeterModel" (60 : Nat) "CoinMeterModel" "size" "I") ∈ UW := uw4 (List.mem_of_getElem? (i := 141) rfl) rfl
theorem q4_142 : (Jvm.Cond.fieldLink "CoinMeterModel" (56 : Nat) "CoinMeterModel" "at" "I") ∈ UW := uw4 (List.mem_of_getElem? (i := 142) rfl) rfl
theorem q4_143 : (Jvm.Cond.fieldLink "CoinMeterModel" (89 : Nat) "CoinMeterModel" "open" "I") ∈ UW := uw4 (List.mem_of_getElem? (i := 143) rfl) rfl
theorem q4_144 : (Jvm.Cond.fieldLink "CoinMeterModel" (52 : Nat) "CoinMeterModel" "bad" "Z") ∈ UW := uw4 (List.mem_of_getElem? (i := 144) rfl) rfl
theorem q4_145 : (Jvm.Cond.fieldLink "CoinMeterModel" (22 : Nat) "CoinMeterModel" "named" "[I") ∈ UW := uw4 (List.mem_of_getElem? (i := 145) rfl) rfl
theorem q4_146 : (Jvm.Cond.fieldLink "CoinMeterModel" (25 : Nat) "CoinMeterModel" "letters" "[I") ∈ UW := uw4 (List.mem_of_getElem? (i := 146) rfl) rfl
theorem q4_147 : (Jvm.Cond.fieldLink "CoinMeterModel" (28 : Nat) "CoinMeterModel" "trace" "[I") ∈ UW := uw4 (List.mem_of_getElem? (i := 147) rfl) rfl
theorem q4_148 : (Jvm.Cond.fieldLink "CoinMeterModel" (191 : Nat) "CoinMeterModel" "traces" "I") ∈ UW := uw4 (List.mem_of_getElem? (i := 148) rfl) rfl
theorem q4_149 : (Jvm.Cond.fieldLink "CoinMeterModel" (203 : Nat) "CoinMeterModel" "nNow" "I") ∈ UW := uw4 (List.mem_of_getElem? (i := 149) rfl) rfl
theorem q4_150 : (Jvm.Cond.fieldLink "CoinMeterModel" (197 : Nat) "CoinMeterModel" "qNow" "I") ∈ UW := uw4 (List.mem_of_getElem? (i := 150) rfl) rfl
theorem q4_151 : (Jvm.Cond.fieldLink "CoinMeterModel" (206 : Nat) "CoinMeterModel" "kindNow" "I") ∈ UW := uw4 (List.mem_of_getElem? (i := 151) rfl) rfl
theorem q4_152 : (Jvm.Cond.fieldLink "CoinMeterModel" (31 : Nat) "CoinMeterModel" "bits" "[I") ∈ UW := uw4 (List.mem_of_getElem? (i := 152) rfl) rfl
theorem q4_153 : (Jvm.Cond.fieldLink "CoinMeterModel" (34 : Nat) "CoinMeterModel" "sheetSize" "[I") ∈ UW := uw4 (List.mem_of_getElem? (i := 153) rfl) rfl
theorem q4_154 : (Jvm.Cond.fieldLink "CoinMeterModel" (37 : Nat) "CoinMeterModel" "items" "[I") ∈ UW := uw4 (List.mem_of_getElem? (i := 154) rfl) rfl
theorem q4_155 : (Jvm.Cond.fieldLink "CoinMeterModel" (40 : Nat) "CoinMeterModel" "moved" "[I") ∈ UW := uw4 (List.mem_of_getElem? (i := 155) rfl) rfl
theorem q4_156 : (Jvm.Cond.laysFinal "CoinMeterModel" "CoinMeterModel" "d" "[I") ∈ UW := uw4 (List.mem_of_getElem? (i := 156) rfl) rfl
theorem q4_158 : (Jvm.Cond.laysFinal "CoinMeterModel" "CoinMeterModel" "keptRow" "[I") ∈ UW := uw4 (List.mem_of_getElem? (i := 158) rfl) rfl
theorem q4_160 : (Jvm.Cond.lays "CoinMeterModel" "CoinMeterModel" "hasKept" "Z") ∈ UW := uw4 (List.mem_of_getElem? (i := 160) rfl) rfl
theorem q4_162 : (Jvm.Cond.lays "CoinMeterModel" "CoinMeterModel" "kept" "I") ∈ UW := uw4 (List.mem_of_getElem? (i := 162) rfl) rfl
theorem q4_164 : (Jvm.Cond.laysFinal "CoinMeterModel" "CoinMeterModel" "trialRow" "[I") ∈ UW := uw4 (List.mem_of_getElem? (i := 164) rfl) rfl
theorem q4_166 : (Jvm.Cond.laysFinal "CoinMeterModel" "CoinMeterModel" "found" "[I") ∈ UW := uw4 (List.mem_of_getElem? (i := 166) rfl) rfl
theorem q4_168 : (Jvm.Cond.lays "CoinMeterModel" "CoinMeterModel" "from" "I") ∈ UW := uw4 (List.mem_of_getElem? (i := 168) rfl) rfl
theorem q4_170 : (Jvm.Cond.lays "CoinMeterModel" "CoinMeterModel" "size" "I") ∈ UW := uw4 (List.mem_of_getElem? (i := 170) rfl) rfl
theorem q4_172 : (Jvm.Cond.lays "CoinMeterModel" "CoinMeterModel" "at" "I") ∈ UW := uw4 (List.mem_of_getElem? (i := 172) rfl) rfl
theorem q4_174 : (Jvm.Cond.lays "CoinMeterModel" "CoinMeterModel" "open" "I") ∈ UW := uw4 (List.mem_of_getElem? (i := 174) rfl) rfl
theorem q4_176 : (Jvm.Cond.lays "CoinMeterModel" "CoinMeterModel" "bad" "Z") ∈ UW := uw4 (List.mem_of_getElem? (i := 176) rfl) rfl
theorem q4_178 : (Jvm.Cond.laysFinal "CoinMeterModel" "CoinMeterModel" "named" "[I") ∈ UW := uw4 (List.mem_of_getElem? (i := 178) rfl) rfl
theorem q4_180 : (Jvm.Cond.laysFinal "CoinMeterModel" "CoinMeterModel" "letters" "[I") ∈ UW := uw4 (List.mem_of_getElem? (i := 180) rfl) rfl
theorem q4_182 : (Jvm.Cond.laysFinal "CoinMeterModel" "CoinMeterModel" "trace" "[I") ∈ UW := uw4 (List.mem_of_getElem? (i := 182) rfl) rfl
theorem q4_184 : (Jvm.Cond.lays "CoinMeterModel" "CoinMeterModel" "traces" "I") ∈ UW := uw4 (List.mem_of_getElem? (i := 184) rfl) rfl
theorem q4_186 : (Jvm.Cond.lays "CoinMeterModel" "CoinMeterModel" "nNow" "I") ∈ UW := uw4 (List.mem_of_getElem? (i := 186) rfl) rfl
theorem q4_188 : (Jvm.Cond.lays "CoinMeterModel" "CoinMeterModel" "qNow" "I") ∈ UW := uw4 (List.mem_of_getElem? (i := 188) rfl) rfl
theorem q4_190 : (Jvm.Cond.lays "CoinMeterModel" "CoinMeterModel" "kindNow" "I") ∈ UW := uw4 (List.mem_of_getElem? (i := 190) rfl) rfl
theorem q4_192 : (Jvm.Cond.laysFinal "CoinMeterModel" "CoinMeterModel" "bits" "[I") ∈ UW := uw4 (List.mem_of_getElem? (i := 192) rfl) rfl
theorem q4_194 : (Jvm.Cond.laysFinal "CoinMeterModel" "CoinMeterModel" "sheetSize" "[I") ∈ UW := uw4 (List.mem_of_getElem? (i := 194) rfl) rfl
theorem q4_196 : (Jvm.Cond.laysFinal "CoinMeterModel" "CoinMeterModel" "items" "[I") ∈ UW := uw4 (List.mem_of_getElem? (i := 196) rfl) rfl
theorem q4_198 : (Jvm.Cond.laysFinal "CoinMeterModel" "CoinMeterModel" "moved" "[I") ∈ UW := uw4 (List.mem_of_getElem? (i := 198) rfl) rfl
theorem q4_200 : (Jvm.Cond.superclass "CoinMeterModel" "java/lang/Object") ∈ UW := uw4 (List.mem_of_getElem? (i := 200) rfl) rfl
theorem q4_201 : (Jvm.Cond.methodLink "CoinMeterLaw" (17 : Nat) ({ cls := "CoinMeterModel", name := "meter", desc := "(II)I" } : Jvm.MethodName)) ∈ UW := uw4 (List.mem_of_getElem? (i := 201) rfl) rfl
theorem q4_202 : (Jvm.Cond.instanceMethod ({ cls := "CoinMeterModel", name := "meter", desc := "(II)I" } : Jvm.MethodName)) ∈ UW := uw4 (List.mem_of_getElem? (i := 202) rfl) rfl
theorem q4_203 : (Jvm.Cond.selects "CoinMeterModel" ({ cls := "CoinMeterModel", name := "meter", desc := "(II)I" } : Jvm.MethodName) ({ cls := "CoinMeterModel", name := "meter", desc := "(II)I" } : Jvm.MethodName)) ∈ UW := uw4 (List.mem_of_getElem? (i := 203) rfl) rfl
theorem q4_204 : (Jvm.Cond.code ({ cls := "CoinMeterModel", name := "meter", desc := "(II)I" } : Jvm.MethodName) prog_12_method_27_code (5 : Nat) (Option.some Jvm.ClassFile.FieldType.int)) ∈ UW := uw4 (List.mem_of_getElem? (i := 204) rfl) rfl
theorem q4_205 : (Jvm.Cond.methodLink "CoinMeterModel" (44 : Nat) ({ cls := "CoinMeterModel", name := "in", desc := "(III)Z" } : Jvm.MethodName)) ∈ UW := uw4 (List.mem_of_getElem? (i := 205) rfl) rfl
theorem q4_206 : (Jvm.Cond.static ({ cls := "CoinMeterModel", name := "in", desc := "(III)Z" } : Jvm.MethodName)) ∈ UW := uw4 (List.mem_of_getElem? (i := 206) rfl) rfl
theorem q4_207 : (Jvm.Cond.code ({ cls := "CoinMeterModel", name := "in", desc := "(III)Z" } : Jvm.MethodName) prog_12_method_3_code (3 : Nat) (Option.some Jvm.ClassFile.FieldType.boolean)) ∈ UW := uw4 (List.mem_of_getElem? (i := 207) rfl) rfl
theorem q4_208 : (Jvm.Cond.methodLink "CoinMeterModel" (112 : Nat) ({ cls := "CoinMeterModel", name := "isPlace", desc := "(I)Z" } : Jvm.MethodName)) ∈ UW := uw4 (List.mem_of_getElem? (i := 208) rfl) rfl
theorem q4_209 : (Jvm.Cond.static ({ cls := "CoinMeterModel", name := "isPlace", desc := "(I)Z" } : Jvm.MethodName)) ∈ UW := uw4 (List.mem_of_getElem? (i := 209) rfl) rfl
theorem q4_210 : (Jvm.Cond.code ({ cls := "CoinMeterModel", name := "isPlace", desc := "(I)Z" } : Jvm.MethodName) prog_12_method_26_code (1 : Nat) (Option.some Jvm.ClassFile.FieldType.boolean)) ∈ UW := uw4 (List.mem_of_getElem? (i := 210) rfl) rfl
theorem q4_211 : (Jvm.Cond.methodLink "CoinMeterModel" (115 : Nat) ({ cls := "CoinMeterModel", name := "finding", desc := "(I)I" } : Jvm.MethodName)) ∈ UW := uw4 (List.mem_of_getElem? (i := 211) rfl) rfl
theorem q4_213 : (Jvm.Cond.instanceMethod ({ cls := "CoinMeterModel", name := "finding", desc := "(I)I" } : Jvm.MethodName)) ∈ UW := uw4 (List.mem_of_getElem? (i := 213) rfl) rfl
theorem q4_214 : (Jvm.Cond.code ({ cls := "CoinMeterModel", name := "finding", desc := "(I)I" } : Jvm.MethodName) prog_12_method_2_code (2 : Nat) (Option.some Jvm.ClassFile.FieldType.int)) ∈ UW := uw4 (List.mem_of_getElem? (i := 214) rfl) rfl
theorem q4_215 : (Jvm.Cond.constant "CoinMeterModel" (43 : Nat) (-1000000 : Int32)) ∈ UW := uw4 (List.mem_of_getElem? (i := 215) rfl) rfl
theorem q4_216 : (Jvm.Cond.methodLink "CoinMeterModel" (119 : Nat) ({ cls := "CoinMeterModel", name := "set", desc := "(III)V" } : Jvm.MethodName)) ∈ UW := uw4 (List.mem_of_getElem? (i := 216) rfl) rfl
theorem q4_218 : (Jvm.Cond.instanceMethod ({ cls := "CoinMeterModel", name := "set", desc := "(III)V" } : Jvm.MethodName)) ∈ UW := uw4 (List.mem_of_getElem? (i := 218) rfl) rfl
theorem q4_219 : (Jvm.Cond.code ({ cls := "CoinMeterModel", name := "set", desc := "(III)V" } : Jvm.MethodName) prog_12_method_7_code (4 : Nat) (Option.none : Option Jvm.ClassFile.FieldType)) ∈ UW := uw4 (List.mem_of_getElem? (i := 219) rfl) rfl
theorem q4_220 : (Jvm.Cond.methodLink "CoinMeterModel" (109 : Nat) ({ cls := "CoinMeterModel", name := "forceIn", desc := "(II)I" } : Jvm.MethodName)) ∈ UW := uw4 (List.mem_of_getElem? (i := 220) rfl) rfl
theorem q4_222 : (Jvm.Cond.instanceMethod ({ cls := "CoinMeterModel", name := "forceIn", desc := "(II)I" } : Jvm.MethodName)) ∈ UW := uw4 (List.mem_of_getElem? (i := 222) rfl) rfl
theorem q4_223 : (Jvm.Cond.code ({ cls := "CoinMeterModel", name := "forceIn", desc := "(II)I" } : Jvm.MethodName) prog_12_method_22_code (5 : Nat) (Option.some Jvm.ClassFile.FieldType.int)) ∈ UW := uw4 (List.mem_of_getElem? (i := 223) rfl) rfl
theorem q4_224 : (Jvm.Cond.methodLink "CoinMeterLaw" (21 : Nat) ({ cls := "CoinMeterModel", name := "as", desc := "(II)I" } : Jvm.MethodName)) ∈ UW := uw4 (List.mem_of_getElem? (i := 224) rfl) rfl
theorem q4_225 : (Jvm.Cond.instanceMethod ({ cls := "CoinMeterModel", name := "as", desc := "(II)I" } : Jvm.MethodName)) ∈ UW := uw4 (List.mem_of_getElem? (i := 225) rfl) rfl
theorem q4_226 : (Jvm.Cond.selects "CoinMeterModel" ({ cls := "CoinMeterModel", name := "as", desc := "(II)I" } : Jvm.MethodName) ({ cls := "CoinMeterModel", name := "as", desc := "(II)I" } : Jvm.MethodName)) ∈ UW := uw4 (List.mem_of_getElem? (i := 226) rfl) rfl
theorem q4_227 : (Jvm.Cond.code ({ cls := "CoinMeterModel", name := "as", desc := "(II)I" } : Jvm.MethodName) prog_12_method_28_code (5 : Nat) (Option.some Jvm.ClassFile.FieldType.int)) ∈ UW := uw4 (List.mem_of_getElem? (i := 227) rfl) rfl
theorem q4_228 : (Jvm.Cond.methodLink "CoinMeterModel" (123 : Nat) ({ cls := "CoinMeterModel", name := "isMeter", desc := "(I)Z" } : Jvm.MethodName)) ∈ UW := uw4 (List.mem_of_getElem? (i := 228) rfl) rfl
theorem q4_230 : (Jvm.Cond.instanceMethod ({ cls := "CoinMeterModel", name := "isMeter", desc := "(I)Z" } : Jvm.MethodName)) ∈ UW := uw4 (List.mem_of_getElem? (i := 230) rfl) rfl
theorem q4_231 : (Jvm.Cond.code ({ cls := "CoinMeterModel", name := "isMeter", desc := "(I)Z" } : Jvm.MethodName) prog_12_method_5_code (2 : Nat) (Option.some Jvm.ClassFile.FieldType.boolean)) ∈ UW := uw4 (List.mem_of_getElem? (i := 231) rfl) rfl
theorem q4_232 : (Jvm.Cond.methodLink "CoinMeterModel" (48 : Nat) ({ cls := "CoinMeterModel", name := "of", desc := "(II)I" } : Jvm.MethodName)) ∈ UW := uw4 (List.mem_of_getElem? (i := 232) rfl) rfl
theorem q4_234 : (Jvm.Cond.instanceMethod ({ cls := "CoinMeterModel", name := "of", desc := "(II)I" } : Jvm.MethodName)) ∈ UW := uw4 (List.mem_of_getElem? (i := 234) rfl) rfl
theorem q4_235 : (Jvm.Cond.code ({ cls := "CoinMeterModel", name := "of", desc := "(II)I" } : Jvm.MethodName) prog_12_method_6_code (3 : Nat) (Option.some Jvm.ClassFile.FieldType.int)) ∈ UW := uw4 (List.mem_of_getElem? (i := 235) rfl) rfl
theorem q4_236 : (Jvm.Cond.methodLink "CoinMeterLaw" (25 : Nat) ({ cls := "CoinMeterModel", name := "meterIs", desc := "(II)I" } : Jvm.MethodName)) ∈ UW := uw4 (List.mem_of_getElem? (i := 236) rfl) rfl
theorem q4_237 : (Jvm.Cond.instanceMethod ({ cls := "CoinMeterModel", name := "meterIs", desc := "(II)I" } : Jvm.MethodName)) ∈ UW := uw4 (List.mem_of_getElem? (i := 237) rfl) rfl
theorem q4_238 : (Jvm.Cond.selects "CoinMeterModel" ({ cls := "CoinMeterModel", name := "meterIs", desc := "(II)I" } : Jvm.MethodName) ({ cls := "CoinMeterModel", name := "meterIs", desc := "(II)I" } : Jvm.MethodName)) ∈ UW := uw4 (List.mem_of_getElem? (i := 238) rfl) rfl
theorem q4_239 : (Jvm.Cond.code ({ cls := "CoinMeterModel", name := "meterIs", desc := "(II)I" } : Jvm.MethodName) prog_12_method_29_code (3 : Nat) (Option.some Jvm.ClassFile.FieldType.int)) ∈ UW := uw4 (List.mem_of_getElem? (i := 239) rfl) rfl
theorem q5_0 : (Jvm.Cond.methodLink "CoinMeterModel" (126 : Nat) ({ cls := "CoinMeterModel", name := "loadedOf", desc := "(I)I" } : Jvm.MethodName)) ∈ UW := uw5 (List.mem_of_getElem? (i := 0) rfl) rfl
theorem q5_2 : (Jvm.Cond.instanceMethod ({ cls := "CoinMeterModel", name := "loadedOf", desc := "(I)I" } : Jvm.MethodName)) ∈ UW := uw5 (List.mem_of_getElem? (i := 2) rfl) rfl
theorem q5_3 : (Jvm.Cond.code ({ cls := "CoinMeterModel", name := "loadedOf", desc := "(I)I" } : Jvm.MethodName) prog_12_method_24_code (2 : Nat) (Option.some Jvm.ClassFile.FieldType.int)) ∈ UW := uw5 (List.mem_of_getElem? (i := 3) rfl) rfl
theorem q5_4 : (Jvm.Cond.methodLink "CoinMeterModel" (106 : Nat) ({ cls := "CoinMeterModel", name := "isSmart", desc := "(I)Z" } : Jvm.MethodName)) ∈ UW := uw5 (List.mem_of_getElem? (i := 4) rfl) rfl
theorem q5_6 : (Jvm.Cond.instanceMethod ({ cls := "CoinMeterModel", name := "isSmart", desc := "(I)Z" } : Jvm.MethodName)) ∈ UW := uw5 (List.mem_of_getElem? (i := 6) rfl) rfl
theorem q5_7 : (Jvm.Cond.code ({ cls := "CoinMeterModel", name := "isSmart", desc := "(I)Z" } : Jvm.MethodName) prog_12_method_9_code (2 : Nat) (Option.some Jvm.ClassFile.FieldType.boolean)) ∈ UW := uw5 (List.mem_of_getElem? (i := 7) rfl) rfl
theorem q5_8 : (Jvm.Cond.methodLink "CoinMeterModel" (129 : Nat) ({ cls := "CoinMeterModel", name := "limit", desc := "(I)I" } : Jvm.MethodName)) ∈ UW := uw5 (List.mem_of_getElem? (i := 8) rfl) rfl
theorem q5_10 : (Jvm.Cond.instanceMethod ({ cls := "CoinMeterModel", name := "limit", desc := "(I)I" } : Jvm.MethodName)) ∈ UW := uw5 (List.mem_of_getElem? (i := 10) rfl) rfl
theorem q5_11 : (Jvm.Cond.code ({ cls := "CoinMeterModel", name := "limit", desc := "(I)I" } : Jvm.MethodName) prog_12_method_10_code (2 : Nat) (Option.some Jvm.ClassFile.FieldType.int)) ∈ UW := uw5 (List.mem_of_getElem? (i := 11) rfl) rfl
theorem q5_12 : (Jvm.Cond.methodLink "CoinMeterLaw" (30 : Nat) ({ cls := "CoinMeterModel", name := "load", desc := "(III)I" } : Jvm.MethodName)) ∈ UW := uw5 (List.mem_of_getElem? (i := 12) rfl) rfl
theorem q5_13 : (Jvm.Cond.instanceMethod ({ cls := "CoinMeterModel", name := "load", desc := "(III)I" } : Jvm.MethodName)) ∈ UW := uw5 (List.mem_of_getElem? (i := 13) rfl) rfl
theorem q5_14 : (Jvm.Cond.selects "CoinMeterModel" ({ cls := "CoinMeterModel", name := "load", desc := "(III)I" } : Jvm.MethodName) ({ cls := "CoinMeterModel", name := "load", desc := "(III)I" } : Jvm.MethodName)) ∈ UW := uw5 (List.mem_of_getElem? (i := 14) rfl) rfl
theorem q5_15 : (Jvm.Cond.code ({ cls := "CoinMeterModel", name := "load", desc := "(III)I" } : Jvm.MethodName) prog_12_method_30_code (5 : Nat) (Option.some Jvm.ClassFile.FieldType.int)) ∈ UW := uw5 (List.mem_of_getElem? (i := 15) rfl) rfl
theorem q5_16 : (Jvm.Cond.methodLink "CoinMeterLaw" (34 : Nat) ({ cls := "CoinMeterModel", name := "owe", desc := "(II)I" } : Jvm.MethodName)) ∈ UW := uw5 (List.mem_of_getElem? (i := 16) rfl) rfl
theorem q5_17 : (Jvm.Cond.instanceMethod ({ cls := "CoinMeterModel", name := "owe", desc := "(II)I" } : Jvm.MethodName)) ∈ UW := uw5 (List.mem_of_getElem? (i := 17) rfl) rfl
theorem q5_18 : (Jvm.Cond.selects "CoinMeterModel" ({ cls := "CoinMeterModel", name := "owe", desc := "(II)I" } : Jvm.MethodName) ({ cls := "CoinMeterModel", name := "owe", desc := "(II)I" } : Jvm.MethodName)) ∈ UW := uw5 (List.mem_of_getElem? (i := 18) rfl) rfl
theorem q5_19 : (Jvm.Cond.code ({ cls := "CoinMeterModel", name := "owe", desc := "(II)I" } : Jvm.MethodName) prog_12_method_31_code (3 : Nat) (Option.some Jvm.ClassFile.FieldType.int)) ∈ UW := uw5 (List.mem_of_getElem? (i := 19) rfl) rfl
theorem q5_20 : (Jvm.Cond.constant "CoinMeterModel" (132 : Nat) (99999 : Int32)) ∈ UW := uw5 (List.mem_of_getElem? (i := 20) rfl) rfl
theorem q5_21 : (Jvm.Cond.methodLink "CoinMeterModel" (133 : Nat) ({ cls := "CoinMeterModel", name := "more", desc := "(III)V" } : Jvm.MethodName)) ∈ UW := uw5 (List.mem_of_getElem? (i := 21) rfl) rfl
theorem q5_23 : (Jvm.Cond.instanceMethod ({ cls := "CoinMeterModel", name := "more", desc := "(III)V" } : Jvm.MethodName)) ∈ UW := uw5 (List.mem_of_getElem? (i := 23) rfl) rfl
theorem q5_24 : (Jvm.Cond.code ({ cls := "CoinMeterModel", name := "more", desc := "(III)V" } : Jvm.MethodName) prog_12_method_8_code (4 : Nat) (Option.none : Option Jvm.ClassFile.FieldType)) ∈ UW := uw5 (List.mem_of_getElem? (i := 24) rfl) rfl
theorem q5_25 : (Jvm.Cond.methodLink "CoinMeterLaw" (38 : Nat) ({ cls := "CoinMeterModel", name := "part", desc := "(II)I" } : Jvm.MethodName)) ∈ UW := uw5 (List.mem_of_getElem? (i := 25) rfl) rfl
theorem q5_26 : (Jvm.Cond.instanceMethod ({ cls := "CoinMeterModel", name := "part", desc := "(II)I" } : Jvm.MethodName)) ∈ UW := uw5 (List.mem_of_getElem? (i := 26) rfl) rfl
theorem q5_27 : (Jvm.Cond.selects "CoinMeterModel" ({ cls := "CoinMeterModel", name := "part", desc := "(II)I" } : Jvm.MethodName) ({ cls := "CoinMeterModel", name := "part", desc := "(II)I" } : Jvm.MethodName)) ∈ UW := uw5 (List.mem_of_getElem? (i := 27) rfl) rfl
theorem q5_28 : (Jvm.Cond.code ({ cls := "CoinMeterModel", name := "part", desc := "(II)I" } : Jvm.MethodName) prog_12_method_32_code (4 : Nat) (Option.some Jvm.ClassFile.FieldType.int)) ∈ UW := uw5 (List.mem_of_getElem? (i := 28) rfl) rfl
theorem q5_29 : (Jvm.Cond.methodLink "CoinMeterLaw" (43 : Nat) ({ cls := "CoinMeterModel", name := "moveIn", desc := "(I)I" } : Jvm.MethodName)) ∈ UW := uw5 (List.mem_of_getElem? (i := 29) rfl) rfl
theorem q5_30 : (Jvm.Cond.instanceMethod ({ cls := "CoinMeterModel", name := "moveIn", desc := "(I)I" } : Jvm.MethodName)) ∈ UW := uw5 (List.mem_of_getElem? (i := 30) rfl) rfl
theorem q5_31 : (Jvm.Cond.selects "CoinMeterModel" ({ cls := "CoinMeterModel", name := "moveIn", desc := "(I)I" } : Jvm.MethodName) ({ cls := "CoinMeterModel", name := "moveIn", desc := "(I)I" } : Jvm.MethodName)) ∈ UW := uw5 (List.mem_of_getElem? (i := 31) rfl) rfl
theorem q5_32 : (Jvm.Cond.code ({ cls := "CoinMeterModel", name := "moveIn", desc := "(I)I" } : Jvm.MethodName) prog_12_method_33_code (3 : Nat) (Option.some Jvm.ClassFile.FieldType.int)) ∈ UW := uw5 (List.mem_of_getElem? (i := 32) rfl) rfl
theorem q5_33 : (Jvm.Cond.methodLink "CoinMeterLaw" (47 : Nat) ({ cls := "CoinMeterModel", name := "force", desc := "(I)I" } : Jvm.MethodName)) ∈ UW := uw5 (List.mem_of_getElem? (i := 33) rfl) rfl
theorem q5_34 : (Jvm.Cond.instanceMethod ({ cls := "CoinMeterModel", name := "force", desc := "(I)I" } : Jvm.MethodName)) ∈ UW := uw5 (List.mem_of_getElem? (i := 34) rfl) rfl
theorem q5_35 : (Jvm.Cond.selects "CoinMeterModel" ({ cls := "CoinMeterModel", name := "force", desc := "(I)I" } : Jvm.MethodName) ({ cls := "CoinMeterModel", name := "force", desc := "(I)I" } : Jvm.MethodName)) ∈ UW := uw5 (List.mem_of_getElem? (i := 35) rfl) rfl
theorem q5_36 : (Jvm.Cond.code ({ cls := "CoinMeterModel", name := "force", desc := "(I)I" } : Jvm.MethodName) prog_12_method_34_code (4 : Nat) (Option.some Jvm.ClassFile.FieldType.int)) ∈ UW := uw5 (List.mem_of_getElem? (i := 36) rfl) rfl
theorem q5_37 : (Jvm.Cond.methodLink "CoinMeterModel" (98 : Nat) ({ cls := "CoinMeterModel", name := "saysOf", desc := "(IIII)I" } : Jvm.MethodName)) ∈ UW := uw5 (List.mem_of_getElem? (i := 37) rfl) rfl
theorem q5_39 : (Jvm.Cond.instanceMethod ({ cls := "CoinMeterModel", name := "saysOf", desc := "(IIII)I" } : Jvm.MethodName)) ∈ UW := uw5 (List.mem_of_getElem? (i := 39) rfl) rfl
theorem q5_40 : (Jvm.Cond.code ({ cls := "CoinMeterModel", name := "saysOf", desc := "(IIII)I" } : Jvm.MethodName) prog_12_method_21_code (5 : Nat) (Option.some Jvm.ClassFile.FieldType.int)) ∈ UW := uw5 (List.mem_of_getElem? (i := 40) rfl) rfl
theorem q5_41 : (Jvm.Cond.methodLink "CoinMeterModel" (95 : Nat) ({ cls := "CoinMeterModel", name := "reads", desc := "(II)I" } : Jvm.MethodName)) ∈ UW := uw5 (List.mem_of_getElem? (i := 41) rfl) rfl
theorem q5_43 : (Jvm.Cond.instanceMethod ({ cls := "CoinMeterModel", name := "reads", desc := "(II)I" } : Jvm.MethodName)) ∈ UW := uw5 (List.mem_of_getElem? (i := 43) rfl) rfl
theorem q5_44 : (Jvm.Cond.code ({ cls := "CoinMeterModel", name := "reads", desc := "(II)I" } : Jvm.MethodName) prog_12_method_20_code (4 : Nat) (Option.some Jvm.ClassFile.FieldType.int)) ∈ UW := uw5 (List.mem_of_getElem? (i := 44) rfl) rfl
theorem q5_45 : (Jvm.Cond.methodLink "CoinMeterModel" (92 : Nat) ({ cls := "CoinMeterModel", name := "either", desc := "()I" } : Jvm.MethodName)) ∈ UW := uw5 (List.mem_of_getElem? (i := 45) rfl) rfl
theorem q5_47 : (Jvm.Cond.instanceMethod ({ cls := "CoinMeterModel", name := "either", desc := "()I" } : Jvm.MethodName)) ∈ UW := uw5 (List.mem_of_getElem? (i := 47) rfl) rfl
theorem q5_48 : (Jvm.Cond.code ({ cls := "CoinMeterModel", name := "either", desc := "()I" } : Jvm.MethodName) prog_12_method_14_code (3 : Nat) (Option.some Jvm.ClassFile.FieldType.int)) ∈ UW := uw5 (List.mem_of_getElem? (i := 48) rfl) rfl
theorem q5_49 : (Jvm.Cond.methodLink "CoinMeterModel" (70 : Nat) ({ cls := "CoinMeterModel", name := "both", desc := "()I" } : Jvm.MethodName)) ∈ UW := uw5 (List.mem_of_getElem? (i := 49) rfl) rfl
theorem q5_51 : (Jvm.Cond.instanceMethod ({ cls := "CoinMeterModel", name := "both", desc := "()I" } : Jvm.MethodName)) ∈ UW := uw5 (List.mem_of_getElem? (i := 51) rfl) rfl
theorem q5_52 : (Jvm.Cond.code ({ cls := "CoinMeterModel", name := "both", desc := "()I" } : Jvm.MethodName) prog_12_method_15_code (3 : Nat) (Option.some Jvm.ClassFile.FieldType.int)) ∈ UW := uw5 (List.mem_of_getElem? (i := 52) rfl) rfl
theorem q5_53 : (Jvm.Cond.methodLink "CoinMeterModel" (77 : Nat) ({ cls := "CoinMeterModel", name := "relation", desc := "()I" } : Jvm.MethodName)) ∈ UW := uw5 (List.mem_of_getElem? (i := 53) rfl) rfl
theorem q5_55 : (Jvm.Cond.instanceMethod ({ cls := "CoinMeterModel", name := "relation", desc := "()I" } : Jvm.MethodName)) ∈ UW := uw5 (List.mem_of_getElem? (i := 55) rfl) rfl
theorem q5_56 : (Jvm.Cond.code ({ cls := "CoinMeterModel", name := "relation", desc := "()I" } : Jvm.MethodName) prog_12_method_16_code (4 : Nat) (Option.some Jvm.ClassFile.FieldType.int)) ∈ UW := uw5 (List.mem_of_getElem? (i := 56) rfl) rfl
theorem q5_57 : (Jvm.Cond.methodLink "CoinMeterModel" (80 : Nat) ({ cls := "CoinMeterModel", name := "added", desc := "()I" } : Jvm.MethodName)) ∈ UW := uw5 (List.mem_of_getElem? (i := 57) rfl) rfl
theorem q5_59 : (Jvm.Cond.instanceMethod ({ cls := "CoinMeterModel", name := "added", desc := "()I" } : Jvm.MethodName)) ∈ UW := uw5 (List.mem_of_getElem? (i := 59) rfl) rfl
theorem q5_60 : (Jvm.Cond.code ({ cls := "CoinMeterModel", name := "added", desc := "()I" } : Jvm.MethodName) prog_12_method_17_code (4 : Nat) (Option.some Jvm.ClassFile.FieldType.int)) ∈ UW := uw5 (List.mem_of_getElem? (i := 60) rfl) rfl
theorem q5_61 : (Jvm.Cond.methodLink "CoinMeterModel" (83 : Nat) ({ cls := "CoinMeterModel", name := "term", desc := "()I" } : Jvm.MethodName)) ∈ UW := uw5 (List.mem_of_getElem? (i := 61) rfl) rfl
theorem q5_63 : (Jvm.Cond.instanceMethod ({ cls := "CoinMeterModel", name := "term", desc := "()I" } : Jvm.MethodName)) ∈ UW := uw5 (List.mem_of_getElem? (i := 63) rfl) rfl
theorem q5_64 : (Jvm.Cond.code ({ cls := "CoinMeterModel", name := "term", desc := "()I" } : Jvm.MethodName) prog_12_method_18_code (4 : Nat) (Option.some Jvm.ClassFile.FieldType.int)) ∈ UW := uw5 (List.mem_of_getElem? (i := 64) rfl) rfl
theorem q5_65 : (Jvm.Cond.methodLink "CoinMeterModel" (86 : Nat) ({ cls := "CoinMeterModel", name := "single", desc := "()I" } : Jvm.MethodName)) ∈ UW := uw5 (List.mem_of_getElem? (i := 65) rfl) rfl
theorem q5_67 : (Jvm.Cond.instanceMethod ({ cls := "CoinMeterModel", name := "single", desc := "()I" } : Jvm.MethodName)) ∈ UW := uw5 (List.mem_of_getElem? (i := 67) rfl) rfl
theorem q5_68 : (Jvm.Cond.code ({ cls := "CoinMeterModel", name := "single", desc := "()I" } : Jvm.MethodName) prog_12_method_19_code (4 : Nat) (Option.some Jvm.ClassFile.FieldType.int)) ∈ UW := uw5 (List.mem_of_getElem? (i := 68) rfl) rfl
theorem q5_69 : (Jvm.Cond.methodLink "CoinMeterModel" (66 : Nat) ({ cls := "CoinMeterModel", name := "byteAt", desc := "()I" } : Jvm.MethodName)) ∈ UW := uw5 (List.mem_of_getElem? (i := 69) rfl) rfl
theorem q5_71 : (Jvm.Cond.instanceMethod ({ cls := "CoinMeterModel", name := "byteAt", desc := "()I" } : Jvm.MethodName)) ∈ UW := uw5 (List.mem_of_getElem? (i := 71) rfl) rfl
theorem q5_72 : (Jvm.Cond.code ({ cls := "CoinMeterModel", name := "byteAt", desc := "()I" } : Jvm.MethodName) prog_12_method_12_code (1 : Nat) (Option.some Jvm.ClassFile.FieldType.int)) ∈ UW := uw5 (List.mem_of_getElem? (i := 72) rfl) rfl
theorem q5_73 : (Jvm.Cond.methodLink "CoinMeterModel" (73 : Nat) ({ cls := "CoinMeterModel", name := "eats", desc := "(I)Z" } : Jvm.MethodName)) ∈ UW := uw5 (List.mem_of_getElem? (i := 73) rfl) rfl
theorem q5_75 : (Jvm.Cond.instanceMethod ({ cls := "CoinMeterModel", name := "eats", desc := "(I)Z" } : Jvm.MethodName)) ∈ UW := uw5 (List.mem_of_getElem? (i := 75) rfl) rfl
theorem q5_76 : (Jvm.Cond.code ({ cls := "CoinMeterModel", name := "eats", desc := "(I)Z" } : Jvm.MethodName) prog_12_method_13_code (3 : Nat) (Option.some Jvm.ClassFile.FieldType.boolean)) ∈ UW := uw5 (List.mem_of_getElem? (i := 76) rfl) rfl
theorem q5_77 : (Jvm.Cond.methodLink "CoinMeterLaw" (51 : Nat) ({ cls := "CoinMeterModel", name := "press", desc := "(I)I" } : Jvm.MethodName)) ∈ UW := uw5 (List.mem_of_getElem? (i := 77) rfl) rfl
theorem q5_78 : (Jvm.Cond.instanceMethod ({ cls := "CoinMeterModel", name := "press", desc := "(I)I" } : Jvm.MethodName)) ∈ UW := uw5 (List.mem_of_getElem? (i := 78) rfl) rfl
theorem q5_79 : (Jvm.Cond.selects "CoinMeterModel" ({ cls := "CoinMeterModel", name := "press", desc := "(I)I" } : Jvm.MethodName) ({ cls := "CoinMeterModel", name := "press", desc := "(I)I" } : Jvm.MethodName)) ∈ UW := uw5 (List.mem_of_getElem? (i := 79) rfl) rfl
theorem q5_80 : (Jvm.Cond.code ({ cls := "CoinMeterModel", name := "press", desc := "(I)I" } : Jvm.MethodName) prog_12_method_36_code (2 : Nat) (Option.some Jvm.ClassFile.FieldType.int)) ∈ UW := uw5 (List.mem_of_getElem? (i := 80) rfl) rfl
theorem q5_81 : (Jvm.Cond.methodLink "CoinMeterModel" (136 : Nat) ({ cls := "CoinMeterModel", name := "connects", desc := "(I)V" } : Jvm.MethodName)) ∈ UW := uw5 (List.mem_of_getElem? (i := 81) rfl) rfl
theorem q5_83 : (Jvm.Cond.instanceMethod ({ cls := "CoinMeterModel", name := "connects", desc := "(I)V" } : Jvm.MethodName)) ∈ UW := uw5 (List.mem_of_getElem? (i := 83) rfl) rfl
theorem q5_84 : (Jvm.Cond.code ({ cls := "CoinMeterModel", name := "connects", desc := "(I)V" } : Jvm.MethodName) prog_12_method_35_code (2 : Nat) (Option.none : Option Jvm.ClassFile.FieldType)) ∈ UW := uw5 (List.mem_of_getElem? (i := 84) rfl) rfl
theorem q5_85 : (Jvm.Cond.methodLink "CoinMeterLaw" (55 : Nat) ({ cls := "CoinMeterModel", name := "shop", desc := "(II)I" } : Jvm.MethodName)) ∈ UW := uw5 (List.mem_of_getElem? (i := 85) rfl) rfl
theorem q5_86 : (Jvm.Cond.instanceMethod ({ cls := "CoinMeterModel", name := "shop", desc := "(II)I" } : Jvm.MethodName)) ∈ UW := uw5 (List.mem_of_getElem? (i := 86) rfl) rfl
theorem q5_87 : (Jvm.Cond.selects "CoinMeterModel" ({ cls := "CoinMeterModel", name := "shop", desc := "(II)I" } : Jvm.MethodName) ({ cls := "CoinMeterModel", name := "shop", desc := "(II)I" } : Jvm.MethodName)) ∈ UW := uw5 (List.mem_of_getElem? (i := 87) rfl) rfl
theorem q5_88 : (Jvm.Cond.code ({ cls := "CoinMeterModel", name := "shop", desc := "(II)I" } : Jvm.MethodName) prog_12_method_37_code (4 : Nat) (Option.some Jvm.ClassFile.FieldType.int)) ∈ UW := uw5 (List.mem_of_getElem? (i := 88) rfl) rfl
theorem q5_89 : (Jvm.Cond.methodLink "CoinMeterLaw" (59 : Nat) ({ cls := "CoinMeterModel", name := "nearest", desc := "(II)I" } : Jvm.MethodName)) ∈ UW := uw5 (List.mem_of_getElem? (i := 89) rfl) rfl
theorem q5_90 : (Jvm.Cond.instanceMethod ({ cls := "CoinMeterModel", name := "nearest", desc := "(II)I" } : Jvm.MethodName)) ∈ UW := uw5 (List.mem_of_getElem? (i := 90) rfl) rfl
theorem q5_91 : (Jvm.Cond.selects "CoinMeterModel" ({ cls := "CoinMeterModel", name := "nearest", desc := "(II)I" } : Jvm.MethodName) ({ cls := "CoinMeterModel", name := "nearest", desc := "(II)I" } : Jvm.MethodName)) ∈ UW := uw5 (List.mem_of_getElem? (i := 91) rfl) rfl
theorem q5_92 : (Jvm.Cond.code ({ cls := "CoinMeterModel", name := "nearest", desc := "(II)I" } : Jvm.MethodName) prog_12_method_40_code (5 : Nat) (Option.some Jvm.ClassFile.FieldType.int)) ∈ UW := uw5 (List.mem_of_getElem? (i := 92) rfl) rfl
theorem q5_93 : (Jvm.Cond.methodLink "CoinMeterModel" (140 : Nat) ({ cls := "CoinMeterModel", name := "isOpen", desc := "(II)Z" } : Jvm.MethodName)) ∈ UW := uw5 (List.mem_of_getElem? (i := 93) rfl) rfl
theorem q5_95 : (Jvm.Cond.instanceMethod ({ cls := "CoinMeterModel", name := "isOpen", desc := "(II)Z" } : Jvm.MethodName)) ∈ UW := uw5 (List.mem_of_getElem? (i := 95) rfl) rfl
theorem q5_96 : (Jvm.Cond.code ({ cls := "CoinMeterModel", name := "isOpen", desc := "(II)Z" } : Jvm.MethodName) prog_12_method_38_code (3 : Nat) (Option.some Jvm.ClassFile.FieldType.boolean)) ∈ UW := uw5 (List.mem_of_getElem? (i := 96) rfl) rfl
theorem q5_97 : (Jvm.Cond.methodLink "CoinMeterModel" (144 : Nat) ({ cls := "CoinMeterModel", name := "farOf", desc := "(II)I" } : Jvm.MethodName)) ∈ UW := uw5 (List.mem_of_getElem? (i := 97) rfl) rfl
theorem q5_99 : (Jvm.Cond.instanceMethod ({ cls := "CoinMeterModel", name := "farOf", desc := "(II)I" } : Jvm.MethodName)) ∈ UW := uw5 (List.mem_of_getElem? (i := 99) rfl) rfl
theorem q5_100 : (Jvm.Cond.code ({ cls := "CoinMeterModel", name := "farOf", desc := "(II)I" } : Jvm.MethodName) prog_12_method_39_code (5 : Nat) (Option.some Jvm.ClassFile.FieldType.int)) ∈ UW := uw5 (List.mem_of_getElem? (i := 100) rfl) rfl
theorem q5_101 : (Jvm.Cond.methodLink "CoinMeterLaw" (63 : Nat) ({ cls := "CoinMeterModel", name := "top", desc := "(III)I" } : Jvm.MethodName)) ∈ UW := uw5 (List.mem_of_getElem? (i := 101) rfl) rfl
theorem q5_102 : (Jvm.Cond.instanceMethod ({ cls := "CoinMeterModel", name := "top", desc := "(III)I" } : Jvm.MethodName)) ∈ UW := uw5 (List.mem_of_getElem? (i := 102) rfl) rfl
theorem q5_103 : (Jvm.Cond.selects "CoinMeterModel" ({ cls := "CoinMeterModel", name := "top", desc := "(III)I" } : Jvm.MethodName) ({ cls := "CoinMeterModel", name := "top", desc := "(III)I" } : Jvm.MethodName)) ∈ UW := uw5 (List.mem_of_getElem? (i := 103) rfl) rfl
theorem q5_104 : (Jvm.Cond.code ({ cls := "CoinMeterModel", name := "top", desc := "(III)I" } : Jvm.MethodName) prog_12_method_42_code (6 : Nat) (Option.some Jvm.ClassFile.FieldType.int)) ∈ UW := uw5 (List.mem_of_getElem? (i := 104) rfl) rfl
theorem q5_105 : (Jvm.Cond.methodLink "CoinMeterModel" (147 : Nat) ({ cls := "CoinMeterModel", name := "tops", desc := "(II)I" } : Jvm.MethodName)) ∈ UW := uw5 (List.mem_of_getElem? (i := 105) rfl) rfl
theorem q5_107 : (Jvm.Cond.instanceMethod ({ cls := "CoinMeterModel", name := "tops", desc := "(II)I" } : Jvm.MethodName)) ∈ UW := uw5 (List.mem_of_getElem? (i := 107) rfl) rfl
theorem q5_108 : (Jvm.Cond.code ({ cls := "CoinMeterModel", name := "tops", desc := "(II)I" } : Jvm.MethodName) prog_12_method_41_code (5 : Nat) (Option.some Jvm.ClassFile.FieldType.int)) ∈ UW := uw5 (List.mem_of_getElem? (i := 108) rfl) rfl
theorem q5_109 : (Jvm.Cond.methodLink "CoinMeterModel" (102 : Nat) ({ cls := "CoinMeterModel", name := "within", desc := "(III)I" } : Jvm.MethodName)) ∈ UW := uw5 (List.mem_of_getElem? (i := 109) rfl) rfl
theorem q5_110 : (Jvm.Cond.static ({ cls := "CoinMeterModel", name := "within", desc := "(III)I" } : Jvm.MethodName)) ∈ UW := uw5 (List.mem_of_getElem? (i := 110) rfl) rfl
theorem q5_111 : (Jvm.Cond.code ({ cls := "CoinMeterModel", name := "within", desc := "(III)I" } : Jvm.MethodName) prog_12_method_4_code (3 : Nat) (Option.some Jvm.ClassFile.FieldType.int)) ∈ UW := uw5 (List.mem_of_getElem? (i := 111) rfl) rfl
theorem q5_112 : (Jvm.Cond.methodLink "CoinMeterLaw" (70 : Nat) ({ cls := "CoinMeterModel", name := "feed", desc := "(JI)I" } : Jvm.MethodName)) ∈ UW := uw5 (List.mem_of_getElem? (i := 112) rfl) rfl
theorem q5_113 : (Jvm.Cond.instanceMethod ({ cls := "CoinMeterModel", name := "feed", desc := "(JI)I" } : Jvm.MethodName)) ∈ UW := uw5 (List.mem_of_getElem? (i := 113) rfl) rfl
theorem q5_114 : (Jvm.Cond.selects "CoinMeterModel" ({ cls := "CoinMeterModel", name := "feed", desc := "(JI)I" } : Jvm.MethodName) ({ cls := "CoinMeterModel", name := "feed", desc := "(JI)I" } : Jvm.MethodName)) ∈ UW := uw5 (List.mem_of_getElem? (i := 114) rfl) rfl
theorem q5_115 : (Jvm.Cond.code ({ cls := "CoinMeterModel", name := "feed", desc := "(JI)I" } : Jvm.MethodName) prog_12_method_43_code (5 : Nat) (Option.some Jvm.ClassFile.FieldType.int)) ∈ UW := uw5 (List.mem_of_getElem? (i := 115) rfl) rfl
theorem q5_116 : (Jvm.Cond.constantLong "CoinMeterModel" (150 : Nat) (255 : Int64)) ∈ UW := uw5 (List.mem_of_getElem? (i := 116) rfl) rfl
theorem q5_117 : (Jvm.Cond.methodLink "CoinMeterLaw" (74 : Nat) ({ cls := "CoinMeterModel", name := "law", desc := "(II)I" } : Jvm.MethodName)) ∈ UW := uw5 (List.mem_of_getElem? (i := 117) rfl) rfl
theorem q5_118 : (Jvm.Cond.instanceMethod ({ cls := "CoinMeterModel", name := "law", desc := "(II)I" } : Jvm.MethodName)) ∈ UW := uw5 (List.mem_of_getElem? (i := 118) rfl) rfl
theorem q5_119 : (Jvm.Cond.selects "CoinMeterModel" ({ cls := "CoinMeterModel", name := "law", desc := "(II)I" } : Jvm.MethodName) ({ cls := "CoinMeterModel", name := "law", desc := "(II)I" } : Jvm.MethodName)) ∈ UW := uw5 (List.mem_of_getElem? (i := 119) rfl) rfl
theorem q5_120 : (Jvm.Cond.code ({ cls := "CoinMeterModel", name := "law", desc := "(II)I" } : Jvm.MethodName) prog_12_method_45_code (7 : Nat) (Option.some Jvm.ClassFile.FieldType.int)) ∈ UW := uw5 (List.mem_of_getElem? (i := 120) rfl) rfl
theorem q5_121 : (Jvm.Cond.methodLink "CoinMeterModel" (152 : Nat) ({ cls := "CoinMeterModel", name := "isUse", desc := "(I)Z" } : Jvm.MethodName)) ∈ UW := uw5 (List.mem_of_getElem? (i := 121) rfl) rfl
theorem q5_122 : (Jvm.Cond.static ({ cls := "CoinMeterModel", name := "isUse", desc := "(I)Z" } : Jvm.MethodName)) ∈ UW := uw5 (List.mem_of_getElem? (i := 122) rfl) rfl
theorem q5_123 : (Jvm.Cond.code ({ cls := "CoinMeterModel", name := "isUse", desc := "(I)Z" } : Jvm.MethodName) prog_12_method_44_code (1 : Nat) (Option.some Jvm.ClassFile.FieldType.boolean)) ∈ UW := uw5 (List.mem_of_getElem? (i := 123) rfl) rfl
theorem q5_124 : (Jvm.Cond.methodLink "CoinMeterLaw" (78 : Nat) ({ cls := "CoinMeterModel", name := "inForce", desc := "(II)I" } : Jvm.MethodName)) ∈ UW := uw5 (List.mem_of_getElem? (i := 124) rfl) rfl
theorem q5_125 : (Jvm.Cond.instanceMethod ({ cls := "CoinMeterModel", name := "inForce", desc := "(II)I" } : Jvm.MethodName)) ∈ UW := uw5 (List.mem_of_getElem? (i := 125) rfl) rfl
theorem q5_126 : (Jvm.Cond.selects "CoinMeterModel" ({ cls := "CoinMeterModel", name := "inForce", desc := "(II)I" } : Jvm.MethodName) ({ cls := "CoinMeterModel", name := "inForce", desc := "(II)I" } : Jvm.MethodName)) ∈ UW := uw5 (List.mem_of_getElem? (i := 126) rfl) rfl
theorem q5_127 : (Jvm.Cond.code ({ cls := "CoinMeterModel", name := "inForce", desc := "(II)I" } : Jvm.MethodName) prog_12_method_46_code (4 : Nat) (Option.some Jvm.ClassFile.FieldType.int)) ∈ UW := uw5 (List.mem_of_getElem? (i := 127) rfl) rfl
theorem q5_128 : (Jvm.Cond.methodLink "CoinMeterLaw" (82 : Nat) ({ cls := "CoinMeterModel", name := "says", desc := "(III)I" } : Jvm.MethodName)) ∈ UW := uw5 (List.mem_of_getElem? (i := 128) rfl) rfl
theorem q5_129 : (Jvm.Cond.instanceMethod ({ cls := "CoinMeterModel", name := "says", desc := "(III)I" } : Jvm.MethodName)) ∈ UW := uw5 (List.mem_of_getElem? (i := 129) rfl) rfl
theorem q5_130 : (Jvm.Cond.selects "CoinMeterModel" ({ cls := "CoinMeterModel", name := "says", desc := "(III)I" } : Jvm.MethodName) ({ cls := "CoinMeterModel", name := "says", desc := "(III)I" } : Jvm.MethodName)) ∈ UW := uw5 (List.mem_of_getElem? (i := 130) rfl) rfl
theorem q5_131 : (Jvm.Cond.code ({ cls := "CoinMeterModel", name := "says", desc := "(III)I" } : Jvm.MethodName) prog_12_method_47_code (4 : Nat) (Option.some Jvm.ClassFile.FieldType.int)) ∈ UW := uw5 (List.mem_of_getElem? (i := 131) rfl) rfl
theorem q5_132 : (Jvm.Cond.methodLink "CoinMeterLaw" (86 : Nat) ({ cls := "CoinMeterModel", name := "rate", desc := "(II)I" } : Jvm.MethodName)) ∈ UW := uw5 (List.mem_of_getElem? (i := 132) rfl) rfl
theorem q5_133 : (Jvm.Cond.instanceMethod ({ cls := "CoinMeterModel", name := "rate", desc := "(II)I" } : Jvm.MethodName)) ∈ UW := uw5 (List.mem_of_getElem? (i := 133) rfl) rfl
theorem q5_134 : (Jvm.Cond.selects "CoinMeterModel" ({ cls := "CoinMeterModel", name := "rate", desc := "(II)I" } : Jvm.MethodName) ({ cls := "CoinMeterModel", name := "rate", desc := "(II)I" } : Jvm.MethodName)) ∈ UW := uw5 (List.mem_of_getElem? (i := 134) rfl) rfl
theorem q5_135 : (Jvm.Cond.code ({ cls := "CoinMeterModel", name := "rate", desc := "(II)I" } : Jvm.MethodName) prog_12_method_48_code (3 : Nat) (Option.some Jvm.ClassFile.FieldType.int)) ∈ UW := uw5 (List.mem_of_getElem? (i := 135) rfl) rfl
theorem q5_136 : (Jvm.Cond.methodLink "CoinMeterModel" (155 : Nat) ({ cls := "CoinMeterModel", name := "rateBy", desc := "(II)I" } : Jvm.MethodName)) ∈ UW := uw5 (List.mem_of_getElem? (i := 136) rfl) rfl
theorem q5_138 : (Jvm.Cond.instanceMethod ({ cls := "CoinMeterModel", name := "rateBy", desc := "(II)I" } : Jvm.MethodName)) ∈ UW := uw5 (List.mem_of_getElem? (i := 138) rfl) rfl
theorem q5_139 : (Jvm.Cond.code ({ cls := "CoinMeterModel", name := "rateBy", desc := "(II)I" } : Jvm.MethodName) prog_12_method_23_code (3 : Nat) (Option.some Jvm.ClassFile.FieldType.int)) ∈ UW := uw5 (List.mem_of_getElem? (i := 139) rfl) rfl
theorem q5_140 : (Jvm.Cond.methodLink "CoinMeterModel" (158 : Nat) ({ cls := "CoinMeterModel", name := "standingOf", desc := "(I)I" } : Jvm.MethodName)) ∈ UW := uw5 (List.mem_of_getElem? (i := 140) rfl) rfl
theorem q5_142 : (Jvm.Cond.instanceMethod ({ cls := "CoinMeterModel", name := "standingOf", desc := "(I)I" } : Jvm.MethodName)) ∈ UW := uw5 (List.mem_of_getElem? (i := 142) rfl) rfl
theorem q5_143 : (Jvm.Cond.code ({ cls := "CoinMeterModel", name := "standingOf", desc := "(I)I" } : Jvm.MethodName) prog_12_method_25_code (3 : Nat) (Option.some Jvm.ClassFile.FieldType.int)) ∈ UW := uw5 (List.mem_of_getElem? (i := 143) rfl) rfl
theorem q5_144 : (Jvm.Cond.methodLink "CoinMeterLaw" (90 : Nat) ({ cls := "CoinMeterModel", name := "go", desc := "(I)I" } : Jvm.MethodName)) ∈ UW := uw5 (List.mem_of_getElem? (i := 144) rfl) rfl
theorem q5_145 : (Jvm.Cond.instanceMethod ({ cls := "CoinMeterModel", name := "go", desc := "(I)I" } : Jvm.MethodName)) ∈ UW := uw5 (List.mem_of_getElem? (i := 145) rfl) rfl
theorem q5_146 : (Jvm.Cond.selects "CoinMeterModel" ({ cls := "CoinMeterModel", name := "go", desc := "(I)I" } : Jvm.MethodName) ({ cls := "CoinMeterModel", name := "go", desc := "(I)I" } : Jvm.MethodName)) ∈ UW := uw5 (List.mem_of_getElem? (i := 146) rfl) rfl
theorem q5_147 : (Jvm.Cond.code ({ cls := "CoinMeterModel", name := "go", desc := "(I)I" } : Jvm.MethodName) prog_12_method_50_code (5 : Nat) (Option.some Jvm.ClassFile.FieldType.int)) ∈ UW := uw5 (List.mem_of_getElem? (i := 147) rfl) rfl
theorem q5_148 : (Jvm.Cond.methodLink "CoinMeterModel" (164 : Nat) ({ cls := "CoinMeterModel", name := "passes", desc := "(I)Z" } : Jvm.MethodName)) ∈ UW := uw5 (List.mem_of_getElem? (i := 148) rfl) rfl
theorem q5_150 : (Jvm.Cond.instanceMethod ({ cls := "CoinMeterModel", name := "passes", desc := "(I)Z" } : Jvm.MethodName)) ∈ UW := uw5 (List.mem_of_getElem? (i := 150) rfl) rfl
theorem q5_151 : (Jvm.Cond.code ({ cls := "CoinMeterModel", name := "passes", desc := "(I)Z" } : Jvm.MethodName) prog_12_method_49_code (7 : Nat) (Option.some Jvm.ClassFile.FieldType.boolean)) ∈ UW := uw5 (List.mem_of_getElem? (i := 151) rfl) rfl
theorem q5_152 : (Jvm.Cond.methodLink "CoinMeterModel" (161 : Nat) ({ cls := "CoinMeterModel", name := "isFriendly", desc := "(I)Z" } : Jvm.MethodName)) ∈ UW := uw5 (List.mem_of_getElem? (i := 152) rfl) rfl
theorem q5_153 : (Jvm.Cond.static ({ cls := "CoinMeterModel", name := "isFriendly", desc := "(I)Z" } : Jvm.MethodName)) ∈ UW := uw5 (List.mem_of_getElem? (i := 153) rfl) rfl
theorem q5_154 : (Jvm.Cond.code ({ cls := "CoinMeterModel", name := "isFriendly", desc := "(I)Z" } : Jvm.MethodName) prog_12_method_11_code (2 : Nat) (Option.some Jvm.ClassFile.FieldType.boolean)) ∈ UW := uw5 (List.mem_of_getElem? (i := 154) rfl) rfl
theorem q5_155 : (Jvm.Cond.methodLink "CoinMeterLaw" (94 : Nat) ({ cls := "CoinMeterModel", name := "read", desc := "(III)I" } : Jvm.MethodName)) ∈ UW := uw5 (List.mem_of_getElem? (i := 155) rfl) rfl
theorem q5_156 : (Jvm.Cond.instanceMethod ({ cls := "CoinMeterModel", name := "read", desc := "(III)I" } : Jvm.MethodName)) ∈ UW := uw5 (List.mem_of_getElem? (i := 156) rfl) rfl
theorem q5_157 : (Jvm.Cond.selects "CoinMeterModel" ({ cls := "CoinMeterModel", name := "read", desc := "(III)I" } : Jvm.MethodName) ({ cls := "CoinMeterModel", name := "read", desc := "(III)I" } : Jvm.MethodName)) ∈ UW := uw5 (List.mem_of_getElem? (i := 157) rfl) rfl
theorem q5_158 : (Jvm.Cond.code ({ cls := "CoinMeterModel", name := "read", desc := "(III)I" } : Jvm.MethodName) prog_12_method_51_code (5 : Nat) (Option.some Jvm.ClassFile.FieldType.int)) ∈ UW := uw5 (List.mem_of_getElem? (i := 158) rfl) rfl
theorem q5_159 : (Jvm.Cond.methodLink "CoinMeterLaw" (99 : Nat) ({ cls := "CoinMeterModel", name := "dark", desc := "(IIII)I" } : Jvm.MethodName)) ∈ UW := uw5 (List.mem_of_getElem? (i := 159) rfl) rfl
theorem q5_160 : (Jvm.Cond.instanceMethod ({ cls := "CoinMeterModel", name := "dark", desc := "(IIII)I" } : Jvm.MethodName)) ∈ UW := uw5 (List.mem_of_getElem? (i := 160) rfl) rfl
theorem q5_161 : (Jvm.Cond.selects "CoinMeterModel" ({ cls := "CoinMeterModel", name := "dark", desc := "(IIII)I" } : Jvm.MethodName) ({ cls := "CoinMeterModel", name := "dark", desc := "(IIII)I" } : Jvm.MethodName)) ∈ UW := uw5 (List.mem_of_getElem? (i := 161) rfl) rfl
theorem q5_162 : (Jvm.Cond.code ({ cls := "CoinMeterModel", name := "dark", desc := "(IIII)I" } : Jvm.MethodName) prog_12_method_52_code (9 : Nat) (Option.some Jvm.ClassFile.FieldType.int)) ∈ UW := uw5 (List.mem_of_getElem? (i := 162) rfl) rfl
theorem q5_163 : (Jvm.Cond.constant "CoinMeterModel" (167 : Nat) (999999 : Int32)) ∈ UW := uw5 (List.mem_of_getElem? (i := 163) rfl) rfl
theorem q5_164 : (Jvm.Cond.methodLink "CoinMeterLaw" (103 : Nat) ({ cls := "CoinMeterModel", name := "hold", desc := "(IIII)I" } : Jvm.MethodName)) ∈ UW := uw5 (List.mem_of_getElem? (i := 164) rfl) rfl
theorem q5_165 : (Jvm.Cond.instanceMethod ({ cls := "CoinMeterModel", name := "hold", desc := "(IIII)I" } : Jvm.MethodName)) ∈ UW := uw5 (List.mem_of_getElem? (i := 165) rfl) rfl
theorem q5_166 : (Jvm.Cond.selects "CoinMeterModel" ({ cls := "CoinMeterModel", name := "hold", desc := "(IIII)I" } : Jvm.MethodName) ({ cls := "CoinMeterModel", name := "hold", desc := "(IIII)I" } : Jvm.MethodName)) ∈ UW := uw5 (List.mem_of_getElem? (i := 166) rfl) rfl
theorem q5_167 : (Jvm.Cond.code ({ cls := "CoinMeterModel", name := "hold", desc := "(IIII)I" } : Jvm.MethodName) prog_12_method_57_code (5 : Nat) (Option.some Jvm.ClassFile.FieldType.int)) ∈ UW := uw5 (List.mem_of_getElem? (i := 167) rfl) rfl
theorem q5_168 : (Jvm.Cond.methodLink "CoinMeterModel" (175 : Nat) ({ cls := "CoinMeterModel", name := "isHolding", desc := "(IIII)Z" } : Jvm.MethodName)) ∈ UW := uw5 (List.mem_of_getElem? (i := 168) rfl) rfl
theorem q5_170 : (Jvm.Cond.instanceMethod ({ cls := "CoinMeterModel", name := "isHolding", desc := "(IIII)Z" } : Jvm.MethodName)) ∈ UW := uw5 (List.mem_of_getElem? (i := 170) rfl) rfl
theorem q5_171 : (Jvm.Cond.code ({ cls := "CoinMeterModel", name := "isHolding", desc := "(IIII)Z" } : Jvm.MethodName) prog_12_method_56_code (5 : Nat) (Option.some Jvm.ClassFile.FieldType.boolean)) ∈ UW := uw5 (List.mem_of_getElem? (i := 171) rfl) rfl
theorem q5_172 : (Jvm.Cond.methodLink "CoinMeterModel" (179 : Nat) ({ cls := "CoinMeterModel", name := "holds", desc := "(IIII)I" } : Jvm.MethodName)) ∈ UW := uw5 (List.mem_of_getElem? (i := 172) rfl) rfl
theorem q5_174 : (Jvm.Cond.instanceMethod ({ cls := "CoinMeterModel", name := "holds", desc := "(IIII)I" } : Jvm.MethodName)) ∈ UW := uw5 (List.mem_of_getElem? (i := 174) rfl) rfl
theorem q5_175 : (Jvm.Cond.code ({ cls := "CoinMeterModel", name := "holds", desc := "(IIII)I" } : Jvm.MethodName) prog_12_method_55_code (9 : Nat) (Option.some Jvm.ClassFile.FieldType.int)) ∈ UW := uw5 (List.mem_of_getElem? (i := 175) rfl) rfl
theorem q5_176 : (Jvm.Cond.methodLink "CoinMeterModel" (168 : Nat) ({ cls := "CoinMeterModel", name := "keeps", desc := "([I)V" } : Jvm.MethodName)) ∈ UW := uw5 (List.mem_of_getElem? (i := 176) rfl) rfl
theorem q5_178 : (Jvm.Cond.instanceMethod ({ cls := "CoinMeterModel", name := "keeps", desc := "([I)V" } : Jvm.MethodName)) ∈ UW := uw5 (List.mem_of_getElem? (i := 178) rfl) rfl
theorem q5_179 : (Jvm.Cond.code ({ cls := "CoinMeterModel", name := "keeps", desc := "([I)V" } : Jvm.MethodName) prog_12_method_53_code (3 : Nat) (Option.none : Option Jvm.ClassFile.FieldType)) ∈ UW := uw5 (List.mem_of_getElem? (i := 179) rfl) rfl
theorem q5_180 : (Jvm.Cond.methodLink "CoinMeterModel" (172 : Nat) ({ cls := "CoinMeterModel", name := "takes", desc := "([I)V" } : Jvm.MethodName)) ∈ UW := uw5 (List.mem_of_getElem? (i := 180) rfl) rfl
theorem q5_182 : (Jvm.Cond.instanceMethod ({ cls := "CoinMeterModel", name := "takes", desc := "([I)V" } : Jvm.MethodName)) ∈ UW := uw5 (List.mem_of_getElem? (i := 182) rfl) rfl
theorem q5_183 : (Jvm.Cond.code ({ cls := "CoinMeterModel", name := "takes", desc := "([I)V" } : Jvm.MethodName) prog_12_method_54_code (3 : Nat) (Option.none : Option Jvm.ClassFile.FieldType)) ∈ UW := uw5 (List.mem_of_getElem? (i := 183) rfl) rfl
theorem q5_184 : (Jvm.Cond.methodLink "CoinMeterLaw" (107 : Nat) ({ cls := "CoinMeterModel", name := "greatest", desc := "(III)I" } : Jvm.MethodName)) ∈ UW := uw5 (List.mem_of_getElem? (i := 184) rfl) rfl
theorem q5_185 : (Jvm.Cond.instanceMethod ({ cls := "CoinMeterModel", name := "greatest", desc := "(III)I" } : Jvm.MethodName)) ∈ UW := uw5 (List.mem_of_getElem? (i := 185) rfl) rfl
theorem q5_186 : (Jvm.Cond.selects "CoinMeterModel" ({ cls := "CoinMeterModel", name := "greatest", desc := "(III)I" } : Jvm.MethodName) ({ cls := "CoinMeterModel", name := "greatest", desc := "(III)I" } : Jvm.MethodName)) ∈ UW := uw5 (List.mem_of_getElem? (i := 186) rfl) rfl
theorem q5_187 : (Jvm.Cond.code ({ cls := "CoinMeterModel", name := "greatest", desc := "(III)I" } : Jvm.MethodName) prog_12_method_58_code (5 : Nat) (Option.some Jvm.ClassFile.FieldType.int)) ∈ UW := uw5 (List.mem_of_getElem? (i := 187) rfl) rfl
theorem q5_188 : (Jvm.Cond.methodLink "CoinMeterLaw" (111 : Nat) ({ cls := "CoinMeterModel", name := "fewest", desc := "(II)I" } : Jvm.MethodName)) ∈ UW := uw5 (List.mem_of_getElem? (i := 188) rfl) rfl
theorem q5_189 : (Jvm.Cond.instanceMethod ({ cls := "CoinMeterModel", name := "fewest", desc := "(II)I" } : Jvm.MethodName)) ∈ UW := uw5 (List.mem_of_getElem? (i := 189) rfl) rfl
theorem q5_190 : (Jvm.Cond.selects "CoinMeterModel" ({ cls := "CoinMeterModel", name := "fewest", desc := "(II)I" } : Jvm.MethodName) ({ cls := "CoinMeterModel", name := "fewest", desc := "(II)I" } : Jvm.MethodName)) ∈ UW := uw5 (List.mem_of_getElem? (i := 190) rfl) rfl
theorem q5_191 : (Jvm.Cond.code ({ cls := "CoinMeterModel", name := "fewest", desc := "(II)I" } : Jvm.MethodName) prog_12_method_62_code (6 : Nat) (Option.some Jvm.ClassFile.FieldType.int)) ∈ UW := uw5 (List.mem_of_getElem? (i := 191) rfl) rfl
theorem q5_192 : (Jvm.Cond.methodLink "CoinMeterModel" (185 : Nat) ({ cls := "CoinMeterModel", name := "lacks", desc := "(III)I" } : Jvm.MethodName)) ∈ UW := uw5 (List.mem_of_getElem? (i := 192) rfl) rfl
theorem q5_194 : (Jvm.Cond.instanceMethod ({ cls := "CoinMeterModel", name := "lacks", desc := "(III)I" } : Jvm.MethodName)) ∈ UW := uw5 (List.mem_of_getElem? (i := 194) rfl) rfl
theorem q5_195 : (Jvm.Cond.code ({ cls := "CoinMeterModel", name := "lacks", desc := "(III)I" } : Jvm.MethodName) prog_12_method_60_code (6 : Nat) (Option.some Jvm.ClassFile.FieldType.int)) ∈ UW := uw5 (List.mem_of_getElem? (i := 195) rfl) rfl
theorem q5_196 : (Jvm.Cond.methodLink "CoinMeterModel" (182 : Nat) ({ cls := "CoinMeterModel", name := "reaches", desc := "(IIII)Z" } : Jvm.MethodName)) ∈ UW := uw5 (List.mem_of_getElem? (i := 196) rfl) rfl
theorem q5_198 : (Jvm.Cond.instanceMethod ({ cls := "CoinMeterModel", name := "reaches", desc := "(IIII)Z" } : Jvm.MethodName)) ∈ UW := uw5 (List.mem_of_getElem? (i := 198) rfl) rfl
theorem q5_199 : (Jvm.Cond.code ({ cls := "CoinMeterModel", name := "reaches", desc := "(IIII)Z" } : Jvm.MethodName) prog_12_method_59_code (7 : Nat) (Option.some Jvm.ClassFile.FieldType.boolean)) ∈ UW := uw5 (List.mem_of_getElem? (i := 199) rfl) rfl
theorem q5_200 : (Jvm.Cond.methodLink "CoinMeterModel" (188 : Nat) ({ cls := "CoinMeterModel", name := "ones", desc := "(I)I" } : Jvm.MethodName)) ∈ UW := uw5 (List.mem_of_getElem? (i := 200) rfl) rfl
theorem q5_201 : (Jvm.Cond.static ({ cls := "CoinMeterModel", name := "ones", desc := "(I)I" } : Jvm.MethodName)) ∈ UW := uw5 (List.mem_of_getElem? (i := 201) rfl) rfl
theorem q5_202 : (Jvm.Cond.code ({ cls := "CoinMeterModel", name := "ones", desc := "(I)I" } : Jvm.MethodName) prog_12_method_61_code (3 : Nat) (Option.some Jvm.ClassFile.FieldType.int)) ∈ UW := uw5 (List.mem_of_getElem? (i := 202) rfl) rfl
theorem q5_203 : (Jvm.Cond.methodLink "CoinMeterLaw" (115 : Nat) ({ cls := "CoinMeterModel", name := "far", desc := "(III)I" } : Jvm.MethodName)) ∈ UW := uw5 (List.mem_of_getElem? (i := 203) rfl) rfl
theorem q5_204 : (Jvm.Cond.instanceMethod ({ cls := "CoinMeterModel", name := "far", desc := "(III)I" } : Jvm.MethodName)) ∈ UW := uw5 (List.mem_of_getElem? (i := 204) rfl) rfl
theorem q5_205 : (Jvm.Cond.selects "CoinMeterModel" ({ cls := "CoinMeterModel", name := "far", desc := "(III)I" } : Jvm.MethodName) ({ cls := "CoinMeterModel", name := "far", desc := "(III)I" } : Jvm.MethodName)) ∈ UW := uw5 (List.mem_of_getElem? (i := 205) rfl) rfl
theorem q5_206 : (Jvm.Cond.code ({ cls := "CoinMeterModel", name := "far", desc := "(III)I" } : Jvm.MethodName) prog_12_method_63_code (4 : Nat) (Option.some Jvm.ClassFile.FieldType.int)) ∈ UW := uw5 (List.mem_of_getElem? (i := 206) rfl) rfl
theorem q5_207 : (Jvm.Cond.methodLink "CoinMeterLaw" (119 : Nat) ({ cls := "CoinMeterModel", name := "voice", desc := "(III)I" } : Jvm.MethodName)) ∈ UW := uw5 (List.mem_of_getElem? (i := 207) rfl) rfl
theorem q5_208 : (Jvm.Cond.instanceMethod ({ cls := "CoinMeterModel", name := "voice", desc := "(III)I" } : Jvm.MethodName)) ∈ UW := uw5 (List.mem_of_getElem? (i := 208) rfl) rfl
theorem q5_209 : (Jvm.Cond.selects "CoinMeterModel" ({ cls := "CoinMeterModel", name := "voice", desc := "(III)I" } : Jvm.MethodName) ({ cls := "CoinMeterModel", name := "voice", desc := "(III)I" } : Jvm.MethodName)) ∈ UW := uw5 (List.mem_of_getElem? (i := 209) rfl) rfl
theorem q5_210 : (Jvm.Cond.code ({ cls := "CoinMeterModel", name := "voice", desc := "(III)I" } : Jvm.MethodName) prog_12_method_75_code (4 : Nat) (Option.some Jvm.ClassFile.FieldType.int)) ∈ UW := uw5 (List.mem_of_getElem? (i := 210) rfl) rfl
theorem q5_211 : (Jvm.Cond.methodLink "CoinMeterModel" (212 : Nat) ({ cls := "CoinMeterModel", name := "tick", desc := "(I)I" } : Jvm.MethodName)) ∈ UW := uw5 (List.mem_of_getElem? (i := 211) rfl) rfl
theorem q5_213 : (Jvm.Cond.instanceMethod ({ cls := "CoinMeterModel", name := "tick", desc := "(I)I" } : Jvm.MethodName)) ∈ UW := uw5 (List.mem_of_getElem? (i := 213) rfl) rfl
theorem q5_214 : (Jvm.Cond.code ({ cls := "CoinMeterModel", name := "tick", desc := "(I)I" } : Jvm.MethodName) prog_12_method_67_code (2 : Nat) (Option.some Jvm.ClassFile.FieldType.int)) ∈ UW := uw5 (List.mem_of_getElem? (i := 214) rfl) rfl
theorem q5_215 : (Jvm.Cond.methodLink "CoinMeterModel" (194 : Nat) ({ cls := "CoinMeterModel", name := "begins", desc := "(I)V" } : Jvm.MethodName)) ∈ UW := uw5 (List.mem_of_getElem? (i := 215) rfl) rfl
theorem q5_217 : (Jvm.Cond.instanceMethod ({ cls := "CoinMeterModel", name := "begins", desc := "(I)V" } : Jvm.MethodName)) ∈ UW := uw5 (List.mem_of_getElem? (i := 217) rfl) rfl
theorem q5_218 : (Jvm.Cond.code ({ cls := "CoinMeterModel", name := "begins", desc := "(I)V" } : Jvm.MethodName) prog_12_method_64_code (2 : Nat) (Option.none : Option Jvm.ClassFile.FieldType)) ∈ UW := uw5 (List.mem_of_getElem? (i := 218) rfl) rfl
theorem q5_219 : (Jvm.Cond.methodLink "CoinMeterModel" (209 : Nat) ({ cls := "CoinMeterModel", name := "keyedTick", desc := "(I)I" } : Jvm.MethodName)) ∈ UW := uw5 (List.mem_of_getElem? (i := 219) rfl) rfl
theorem q5_221 : (Jvm.Cond.instanceMethod ({ cls := "CoinMeterModel", name := "keyedTick", desc := "(I)I" } : Jvm.MethodName)) ∈ UW := uw5 (List.mem_of_getElem? (i := 221) rfl) rfl
theorem q5_222 : (Jvm.Cond.code ({ cls := "CoinMeterModel", name := "keyedTick", desc := "(I)I" } : Jvm.MethodName) prog_12_method_66_code (2 : Nat) (Option.some Jvm.ClassFile.FieldType.int)) ∈ UW := uw5 (List.mem_of_getElem? (i := 222) rfl) rfl
theorem q5_223 : (Jvm.Cond.methodLink "CoinMeterModel" (200 : Nat) ({ cls := "CoinMeterModel", name := "meterTick", desc := "(I)I" } : Jvm.MethodName)) ∈ UW := uw5 (List.mem_of_getElem? (i := 223) rfl) rfl
theorem q5_225 : (Jvm.Cond.instanceMethod ({ cls := "CoinMeterModel", name := "meterTick", desc := "(I)I" } : Jvm.MethodName)) ∈ UW := uw5 (List.mem_of_getElem? (i := 225) rfl) rfl
theorem q5_226 : (Jvm.Cond.code ({ cls := "CoinMeterModel", name := "meterTick", desc := "(I)I" } : Jvm.MethodName) prog_12_method_65_code (2 : Nat) (Option.some Jvm.ClassFile.FieldType.int)) ∈ UW := uw5 (List.mem_of_getElem? (i := 226) rfl) rfl
theorem q5_227 : (Jvm.Cond.methodLink "CoinMeterModel" (227 : Nat) ({ cls := "CoinMeterModel", name := "hum", desc := "(I)I" } : Jvm.MethodName)) ∈ UW := uw5 (List.mem_of_getElem? (i := 227) rfl) rfl
theorem q5_229 : (Jvm.Cond.instanceMethod ({ cls := "CoinMeterModel", name := "hum", desc := "(I)I" } : Jvm.MethodName)) ∈ UW := uw5 (List.mem_of_getElem? (i := 229) rfl) rfl
theorem q5_230 : (Jvm.Cond.code ({ cls := "CoinMeterModel", name := "hum", desc := "(I)I" } : Jvm.MethodName) prog_12_method_70_code (3 : Nat) (Option.some Jvm.ClassFile.FieldType.int)) ∈ UW := uw5 (List.mem_of_getElem? (i := 230) rfl) rfl
theorem q5_231 : (Jvm.Cond.methodLink "CoinMeterModel" (221 : Nat) ({ cls := "CoinMeterModel", name := "smartHum", desc := "(I)I" } : Jvm.MethodName)) ∈ UW := uw5 (List.mem_of_getElem? (i := 231) rfl) rfl
theorem q5_233 : (Jvm.Cond.instanceMethod ({ cls := "CoinMeterModel", name := "smartHum", desc := "(I)I" } : Jvm.MethodName)) ∈ UW := uw5 (List.mem_of_getElem? (i := 233) rfl) rfl
theorem q5_234 : (Jvm.Cond.code ({ cls := "CoinMeterModel", name := "smartHum", desc := "(I)I" } : Jvm.MethodName) prog_12_method_69_code (3 : Nat) (Option.some Jvm.ClassFile.FieldType.int)) ∈ UW := uw5 (List.mem_of_getElem? (i := 234) rfl) rfl
theorem q5_235 : (Jvm.Cond.methodLink "CoinMeterModel" (215 : Nat) ({ cls := "CoinMeterModel", name := "meterHum", desc := "(I)I" } : Jvm.MethodName)) ∈ UW := uw5 (List.mem_of_getElem? (i := 235) rfl) rfl
theorem q5_237 : (Jvm.Cond.instanceMethod ({ cls := "CoinMeterModel", name := "meterHum", desc := "(I)I" } : Jvm.MethodName)) ∈ UW := uw5 (List.mem_of_getElem? (i := 237) rfl) rfl
theorem q5_238 : (Jvm.Cond.code ({ cls := "CoinMeterModel", name := "meterHum", desc := "(I)I" } : Jvm.MethodName) prog_12_method_68_code (2 : Nat) (Option.some Jvm.ClassFile.FieldType.int)) ∈ UW := uw5 (List.mem_of_getElem? (i := 238) rfl) rfl
theorem q5_239 : (Jvm.Cond.methodLink "CoinMeterModel" (218 : Nat) ({ cls := "CoinMeterModel", name := "click", desc := "(I)I" } : Jvm.MethodName)) ∈ UW := uw5 (List.mem_of_getElem? (i := 239) rfl) rfl
theorem q6_1 : (Jvm.Cond.instanceMethod ({ cls := "CoinMeterModel", name := "click", desc := "(I)I" } : Jvm.MethodName)) ∈ UW := uw6 (List.mem_of_getElem? (i := 1) rfl) rfl
theorem q6_2 : (Jvm.Cond.code ({ cls := "CoinMeterModel", name := "click", desc := "(I)I" } : Jvm.MethodName) prog_12_method_72_code (2 : Nat) (Option.some Jvm.ClassFile.FieldType.int)) ∈ UW := uw6 (List.mem_of_getElem? (i := 2) rfl) rfl
theorem q6_3 : (Jvm.Cond.methodLink "CoinMeterModel" (224 : Nat) ({ cls := "CoinMeterModel", name := "meterClick", desc := "(I)I" } : Jvm.MethodName)) ∈ UW := uw6 (List.mem_of_getElem? (i := 3) rfl) rfl
theorem q6_5 : (Jvm.Cond.instanceMethod ({ cls := "CoinMeterModel", name := "meterClick", desc := "(I)I" } : Jvm.MethodName)) ∈ UW := uw6 (List.mem_of_getElem? (i := 5) rfl) rfl
theorem q6_6 : (Jvm.Cond.code ({ cls := "CoinMeterModel", name := "meterClick", desc := "(I)I" } : Jvm.MethodName) prog_12_method_71_code (2 : Nat) (Option.some Jvm.ClassFile.FieldType.int)) ∈ UW := uw6 (List.mem_of_getElem? (i := 6) rfl) rfl
theorem q6_7 : (Jvm.Cond.methodLink "CoinMeterModel" (233 : Nat) ({ cls := "CoinMeterModel", name := "tell", desc := "(I)I" } : Jvm.MethodName)) ∈ UW := uw6 (List.mem_of_getElem? (i := 7) rfl) rfl
theorem q6_9 : (Jvm.Cond.instanceMethod ({ cls := "CoinMeterModel", name := "tell", desc := "(I)I" } : Jvm.MethodName)) ∈ UW := uw6 (List.mem_of_getElem? (i := 9) rfl) rfl
theorem q6_10 : (Jvm.Cond.code ({ cls := "CoinMeterModel", name := "tell", desc := "(I)I" } : Jvm.MethodName) prog_12_method_74_code (3 : Nat) (Option.some Jvm.ClassFile.FieldType.int)) ∈ UW := uw6 (List.mem_of_getElem? (i := 10) rfl) rfl
theorem q6_11 : (Jvm.Cond.methodLink "CoinMeterModel" (230 : Nat) ({ cls := "CoinMeterModel", name := "meterTell", desc := "(I)I" } : Jvm.MethodName)) ∈ UW := uw6 (List.mem_of_getElem? (i := 11) rfl) rfl
theorem q6_13 : (Jvm.Cond.instanceMethod ({ cls := "CoinMeterModel", name := "meterTell", desc := "(I)I" } : Jvm.MethodName)) ∈ UW := uw6 (List.mem_of_getElem? (i := 13) rfl) rfl
theorem q6_14 : (Jvm.Cond.code ({ cls := "CoinMeterModel", name := "meterTell", desc := "(I)I" } : Jvm.MethodName) prog_12_method_73_code (3 : Nat) (Option.some Jvm.ClassFile.FieldType.int)) ∈ UW := uw6 (List.mem_of_getElem? (i := 14) rfl) rfl
theorem q6_15 : (Jvm.Cond.methodLink "CoinMeterLaw" (123 : Nat) ({ cls := "CoinMeterModel", name := "trace", desc := "(I)I" } : Jvm.MethodName)) ∈ UW := uw6 (List.mem_of_getElem? (i := 15) rfl) rfl
theorem q6_16 : (Jvm.Cond.instanceMethod ({ cls := "CoinMeterModel", name := "trace", desc := "(I)I" } : Jvm.MethodName)) ∈ UW := uw6 (List.mem_of_getElem? (i := 16) rfl) rfl
theorem q6_17 : (Jvm.Cond.selects "CoinMeterModel" ({ cls := "CoinMeterModel", name := "trace", desc := "(I)I" } : Jvm.MethodName) ({ cls := "CoinMeterModel", name := "trace", desc := "(I)I" } : Jvm.MethodName)) ∈ UW := uw6 (List.mem_of_getElem? (i := 17) rfl) rfl
theorem q6_18 : (Jvm.Cond.code ({ cls := "CoinMeterModel", name := "trace", desc := "(I)I" } : Jvm.MethodName) prog_12_method_76_code (2 : Nat) (Option.some Jvm.ClassFile.FieldType.int)) ∈ UW := uw6 (List.mem_of_getElem? (i := 18) rfl) rfl
theorem q6_19 : (Jvm.Cond.methodLink "CoinMeterLaw" (127 : Nat) ({ cls := "CoinMeterModel", name := "sheet", desc := "(III)I" } : Jvm.MethodName)) ∈ UW := uw6 (List.mem_of_getElem? (i := 19) rfl) rfl
theorem q6_20 : (Jvm.Cond.instanceMethod ({ cls := "CoinMeterModel", name := "sheet", desc := "(III)I" } : Jvm.MethodName)) ∈ UW := uw6 (List.mem_of_getElem? (i := 20) rfl) rfl
theorem q6_21 : (Jvm.Cond.selects "CoinMeterModel" ({ cls := "CoinMeterModel", name := "sheet", desc := "(III)I" } : Jvm.MethodName) ({ cls := "CoinMeterModel", name := "sheet", desc := "(III)I" } : Jvm.MethodName)) ∈ UW := uw6 (List.mem_of_getElem? (i := 21) rfl) rfl
theorem q6_22 : (Jvm.Cond.code ({ cls := "CoinMeterModel", name := "sheet", desc := "(III)I" } : Jvm.MethodName) prog_12_method_77_code (5 : Nat) (Option.some Jvm.ClassFile.FieldType.int)) ∈ UW := uw6 (List.mem_of_getElem? (i := 22) rfl) rfl
theorem q6_23 : (Jvm.Cond.methodLink "CoinMeterLaw" (131 : Nat) ({ cls := "CoinMeterModel", name := "put", desc := "(III)I" } : Jvm.MethodName)) ∈ UW := uw6 (List.mem_of_getElem? (i := 23) rfl) rfl
theorem q6_24 : (Jvm.Cond.instanceMethod ({ cls := "CoinMeterModel", name := "put", desc := "(III)I" } : Jvm.MethodName)) ∈ UW := uw6 (List.mem_of_getElem? (i := 24) rfl) rfl
theorem q6_25 : (Jvm.Cond.selects "CoinMeterModel" ({ cls := "CoinMeterModel", name := "put", desc := "(III)I" } : Jvm.MethodName) ({ cls := "CoinMeterModel", name := "put", desc := "(III)I" } : Jvm.MethodName)) ∈ UW := uw6 (List.mem_of_getElem? (i := 25) rfl) rfl
theorem q6_26 : (Jvm.Cond.code ({ cls := "CoinMeterModel", name := "put", desc := "(III)I" } : Jvm.MethodName) prog_12_method_78_code (4 : Nat) (Option.some Jvm.ClassFile.FieldType.int)) ∈ UW := uw6 (List.mem_of_getElem? (i := 26) rfl) rfl
theorem q6_27 : (Jvm.Cond.methodLink "CoinMeterLaw" (136 : Nat) ({ cls := "CoinMeterModel", name := "move", desc := "(IIIII)I" } : Jvm.MethodName)) ∈ UW := uw6 (List.mem_of_getElem? (i := 27) rfl) rfl
theorem q6_28 : (Jvm.Cond.instanceMethod ({ cls := "CoinMeterModel", name := "move", desc := "(IIIII)I" } : Jvm.MethodName)) ∈ UW := uw6 (List.mem_of_getElem? (i := 28) rfl) rfl
theorem q6_29 : (Jvm.Cond.selects "CoinMeterModel" ({ cls := "CoinMeterModel", name := "move", desc := "(IIIII)I" } : Jvm.MethodName) ({ cls := "CoinMeterModel", name := "move", desc := "(IIIII)I" } : Jvm.MethodName)) ∈ UW := uw6 (List.mem_of_getElem? (i := 29) rfl) rfl
theorem q6_30 : (Jvm.Cond.code ({ cls := "CoinMeterModel", name := "move", desc := "(IIIII)I" } : Jvm.MethodName) prog_12_method_80_code (7 : Nat) (Option.some Jvm.ClassFile.FieldType.int)) ∈ UW := uw6 (List.mem_of_getElem? (i := 30) rfl) rfl
theorem q6_31 : (Jvm.Cond.methodLink "CoinMeterModel" (236 : Nat) ({ cls := "CoinMeterModel", name := "has", desc := "(III)Z" } : Jvm.MethodName)) ∈ UW := uw6 (List.mem_of_getElem? (i := 31) rfl) rfl
theorem q6_33 : (Jvm.Cond.instanceMethod ({ cls := "CoinMeterModel", name := "has", desc := "(III)Z" } : Jvm.MethodName)) ∈ UW := uw6 (List.mem_of_getElem? (i := 33) rfl) rfl
theorem q6_34 : (Jvm.Cond.code ({ cls := "CoinMeterModel", name := "has", desc := "(III)Z" } : Jvm.MethodName) prog_12_method_79_code (4 : Nat) (Option.some Jvm.ClassFile.FieldType.boolean)) ∈ UW := uw6 (List.mem_of_getElem? (i := 34) rfl) rfl
theorem q6_35 : (Jvm.Cond.methodLink "CoinMeterLaw" (141 : Nat) ({ cls := "CoinMeterModel", name := "image", desc := "()I" } : Jvm.MethodName)) ∈ UW := uw6 (List.mem_of_getElem? (i := 35) rfl) rfl
theorem q6_36 : (Jvm.Cond.instanceMethod ({ cls := "CoinMeterModel", name := "image", desc := "()I" } : Jvm.MethodName)) ∈ UW := uw6 (List.mem_of_getElem? (i := 36) rfl) rfl
theorem q6_37 : (Jvm.Cond.selects "CoinMeterModel" ({ cls := "CoinMeterModel", name := "image", desc := "()I" } : Jvm.MethodName) ({ cls := "CoinMeterModel", name := "image", desc := "()I" } : Jvm.MethodName)) ∈ UW := uw6 (List.mem_of_getElem? (i := 37) rfl) rfl
theorem q6_38 : (Jvm.Cond.code ({ cls := "CoinMeterModel", name := "image", desc := "()I" } : Jvm.MethodName) prog_12_method_81_code (1 : Nat) (Option.some Jvm.ClassFile.FieldType.int)) ∈ UW := uw6 (List.mem_of_getElem? (i := 38) rfl) rfl
theorem q6_39 : (Jvm.Cond.methodLink "CoinMeterLaw" (145 : Nat) ({ cls := "CoinMeterModel", name := "restore", desc := "()I" } : Jvm.MethodName)) ∈ UW := uw6 (List.mem_of_getElem? (i := 39) rfl) rfl
theorem q6_40 : (Jvm.Cond.instanceMethod ({ cls := "CoinMeterModel", name := "restore", desc := "()I" } : Jvm.MethodName)) ∈ UW := uw6 (List.mem_of_getElem? (i := 40) rfl) rfl
theorem q6_41 : (Jvm.Cond.selects "CoinMeterModel" ({ cls := "CoinMeterModel", name := "restore", desc := "()I" } : Jvm.MethodName) ({ cls := "CoinMeterModel", name := "restore", desc := "()I" } : Jvm.MethodName)) ∈ UW := uw6 (List.mem_of_getElem? (i := 41) rfl) rfl
theorem q6_42 : (Jvm.Cond.code ({ cls := "CoinMeterModel", name := "restore", desc := "()I" } : Jvm.MethodName) prog_12_method_82_code (1 : Nat) (Option.some Jvm.ClassFile.FieldType.int)) ∈ UW := uw6 (List.mem_of_getElem? (i := 42) rfl) rfl
theorem q6_43 : (Jvm.Cond.methodLink "CoinMeterLaw" (149 : Nat) ({ cls := "CoinMeterModel", name := "told", desc := "(I)I" } : Jvm.MethodName)) ∈ UW := uw6 (List.mem_of_getElem? (i := 43) rfl) rfl
theorem q6_44 : (Jvm.Cond.instanceMethod ({ cls := "CoinMeterModel", name := "told", desc := "(I)I" } : Jvm.MethodName)) ∈ UW := uw6 (List.mem_of_getElem? (i := 44) rfl) rfl
theorem q6_45 : (Jvm.Cond.selects "CoinMeterModel" ({ cls := "CoinMeterModel", name := "told", desc := "(I)I" } : Jvm.MethodName) ({ cls := "CoinMeterModel", name := "told", desc := "(I)I" } : Jvm.MethodName)) ∈ UW := uw6 (List.mem_of_getElem? (i := 45) rfl) rfl
theorem q6_46 : (Jvm.Cond.code ({ cls := "CoinMeterModel", name := "told", desc := "(I)I" } : Jvm.MethodName) prog_12_method_83_code (5 : Nat) (Option.some Jvm.ClassFile.FieldType.int)) ∈ UW := uw6 (List.mem_of_getElem? (i := 46) rfl) rfl
theorem q6_47 : (Jvm.Cond.methodLink "CoinMeterLaw" (153 : Nat) ({ cls := "CoinMeterModel", name := "found", desc := "(I)I" } : Jvm.MethodName)) ∈ UW := uw6 (List.mem_of_getElem? (i := 47) rfl) rfl
theorem q6_48 : (Jvm.Cond.instanceMethod ({ cls := "CoinMeterModel", name := "found", desc := "(I)I" } : Jvm.MethodName)) ∈ UW := uw6 (List.mem_of_getElem? (i := 48) rfl) rfl
theorem q6_49 : (Jvm.Cond.selects "CoinMeterModel" ({ cls := "CoinMeterModel", name := "found", desc := "(I)I" } : Jvm.MethodName) ({ cls := "CoinMeterModel", name := "found", desc := "(I)I" } : Jvm.MethodName)) ∈ UW := uw6 (List.mem_of_getElem? (i := 49) rfl) rfl
theorem q6_50 : (Jvm.Cond.code ({ cls := "CoinMeterModel", name := "found", desc := "(I)I" } : Jvm.MethodName) prog_12_method_84_code (2 : Nat) (Option.some Jvm.ClassFile.FieldType.int)) ∈ UW := uw6 (List.mem_of_getElem? (i := 50) rfl) rfl
theorem q6_51 : (Jvm.Cond.constantLong "CoinMeterLaw" (64 : Nat) (4294967295 : Int64)) ∈ UW := uw6 (List.mem_of_getElem? (i := 51) rfl) rfl
theorem r1_0 : Cond.selects "CoinMeter" ⟨"CoinMeter", "finding", "(I)I"⟩ ⟨"CoinMeter", "finding", "(I)I"⟩ ∈ UW := up1 (List.mem_of_getElem? (i := 0) rfl) rfl
theorem r1_1 : Cond.selects "CoinMeter$LawReader" ⟨"CoinMeter$LawReader", "readEither", "(I)V"⟩ ⟨"CoinMeter$LawReader", "readEither", "(I)V"⟩ ∈ UW := up1 (List.mem_of_getElem? (i := 1) rfl) rfl
theorem r1_2 : Cond.selects "CoinMeter$LawReader" ⟨"CoinMeter$LawReader", "readBoth", "(I)V"⟩ ⟨"CoinMeter$LawReader", "readBoth", "(I)V"⟩ ∈ UW := up1 (List.mem_of_getElem? (i := 2) rfl) rfl
theorem r1_3 : Cond.selects "CoinMeter$LawReader" ⟨"CoinMeter$LawReader", "readCompared", "(I)V"⟩ ⟨"CoinMeter$LawReader", "readCompared", "(I)V"⟩ ∈ UW := up1 (List.mem_of_getElem? (i := 3) rfl) rfl
theorem r1_4 : Cond.selects "CoinMeter$LawReader" ⟨"CoinMeter$LawReader", "readSum", "(I)V"⟩ ⟨"CoinMeter$LawReader", "readSum", "(I)V"⟩ ∈ UW := up1 (List.mem_of_getElem? (i := 4) rfl) rfl
theorem r1_5 : Cond.selects "CoinMeter$LawReader" ⟨"CoinMeter$LawReader", "readProduct", "(I)V"⟩ ⟨"CoinMeter$LawReader", "readProduct", "(I)V"⟩ ∈ UW := up1 (List.mem_of_getElem? (i := 5) rfl) rfl
theorem r1_6 : Cond.selects "CoinMeter$LawReader" ⟨"CoinMeter$LawReader", "readSingle", "(I)V"⟩ ⟨"CoinMeter$LawReader", "readSingle", "(I)V"⟩ ∈ UW := up1 (List.mem_of_getElem? (i := 6) rfl) rfl
theorem r1_7 : Cond.selects "CoinMeter$LawReader" ⟨"CoinMeter$LawReader", "next", "()I"⟩ ⟨"CoinMeter$LawReader", "next", "()I"⟩ ∈ UW := up1 (List.mem_of_getElem? (i := 7) rfl) rfl
theorem r1_8 : Cond.selects "CoinMeter$LawReader" ⟨"CoinMeter$LawReader", "readNumber", "()V"⟩ ⟨"CoinMeter$LawReader", "readNumber", "()V"⟩ ∈ UW := up1 (List.mem_of_getElem? (i := 8) rfl) rfl
theorem r1_9 : Cond.selects "CoinMeter$LawReader" ⟨"CoinMeter$LawReader", "emit", "(I)V"⟩ ⟨"CoinMeter$LawReader", "emit", "(I)V"⟩ ∈ UW := up1 (List.mem_of_getElem? (i := 9) rfl) rfl
theorem r1_10 : Cond.selects "CoinMeter$LawReader" ⟨"CoinMeter$LawReader", "readClosing", "()V"⟩ ⟨"CoinMeter$LawReader", "readClosing", "()V"⟩ ∈ UW := up1 (List.mem_of_getElem? (i := 10) rfl) rfl
theorem r1_11 : Cond.selects "CoinMeter$LawReader" ⟨"CoinMeter$LawReader", "fail", "()V"⟩ ⟨"CoinMeter$LawReader", "fail", "()V"⟩ ∈ UW := up1 (List.mem_of_getElem? (i := 11) rfl) rfl
theorem r1_12 : Cond.selects "CoinMeter$Town" ⟨"CoinMeter$Town", "beginDay", "(LCoinMeter$Meter;I)V"⟩ ⟨"CoinMeter$Town", "beginDay", "(LCoinMeter$Meter;I)V"⟩ ∈ UW := up1 (List.mem_of_getElem? (i := 12) rfl) rfl
theorem r1_13 : Cond.selects "CoinMeter$Town" ⟨"CoinMeter$Town", "useLoad", "(LCoinMeter$Meter;I)V"⟩ ⟨"CoinMeter$Town", "useLoad", "(LCoinMeter$Meter;I)V"⟩ ∈ UW := up1 (List.mem_of_getElem? (i := 13) rfl) rfl
theorem r1_14 : Cond.selects "CoinMeter" ⟨"CoinMeter", "isHolding", "(III)Z"⟩ ⟨"CoinMeter", "isHolding", "(III)Z"⟩ ∈ UW := up1 (List.mem_of_getElem? (i := 14) rfl) rfl
theorem r1_15 : Cond.selects "CoinMeter" ⟨"CoinMeter", "darkMore", "(LCoinMeter$Meter;LCoinMeter$Sheet;III)I"⟩ ⟨"CoinMeter", "darkMore", "(LCoinMeter$Meter;LCoinMeter$Sheet;III)I"⟩ ∈ UW := up1 (List.mem_of_getElem? (i := 15) rfl) rfl
theorem r2_0 : Cond.selects "CoinMeter" ⟨"CoinMeter", "findNear", "(II)V"⟩ ⟨"CoinMeter", "findNear", "(II)V"⟩ ∈ UW := up2 (List.mem_of_getElem? (i := 0) rfl) rfl
theorem r2_1 : Cond.selects "CoinMeter" ⟨"CoinMeter", "servesAll", "(I)Z"⟩ ⟨"CoinMeter", "servesAll", "(I)Z"⟩ ∈ UW := up2 (List.mem_of_getElem? (i := 1) rfl) rfl
theorem r2_2 : Cond.selects "CoinMeter$Voices" ⟨"CoinMeter$Voices", "say", "(LCoinMeter$Meter;IIII)I"⟩ ⟨"CoinMeter$Voices", "say", "(LCoinMeter$Meter;IIII)I"⟩ ∈ UW := up2 (List.mem_of_getElem? (i := 2) rfl) rfl
theorem r2_3 : Cond.selects "CoinMeter$Voices" ⟨"CoinMeter$Voices", "note", "(I)V"⟩ ⟨"CoinMeter$Voices", "note", "(I)V"⟩ ∈ UW := up2 (List.mem_of_getElem? (i := 3) rfl) rfl
theorem r2_4 : Cond.selects "CoinMeter$Sheet" ⟨"CoinMeter$Sheet", "lowest", "(I)I"⟩ ⟨"CoinMeter$Sheet", "lowest", "(I)I"⟩ ∈ UW := up2 (List.mem_of_getElem? (i := 4) rfl) rfl
theorem r2_5 : Cond.selects "CoinMeterModel" ⟨"CoinMeterModel", "finding", "(I)I"⟩ ⟨"CoinMeterModel", "finding", "(I)I"⟩ ∈ UW := up2 (List.mem_of_getElem? (i := 5) rfl) rfl
theorem r2_6 : Cond.selects "CoinMeterModel" ⟨"CoinMeterModel", "set", "(III)V"⟩ ⟨"CoinMeterModel", "set", "(III)V"⟩ ∈ UW := up2 (List.mem_of_getElem? (i := 6) rfl) rfl
theorem r2_7 : Cond.selects "CoinMeterModel" ⟨"CoinMeterModel", "forceIn", "(II)I"⟩ ⟨"CoinMeterModel", "forceIn", "(II)I"⟩ ∈ UW := up2 (List.mem_of_getElem? (i := 7) rfl) rfl
theorem r2_8 : Cond.selects "CoinMeterModel" ⟨"CoinMeterModel", "isMeter", "(I)Z"⟩ ⟨"CoinMeterModel", "isMeter", "(I)Z"⟩ ∈ UW := up2 (List.mem_of_getElem? (i := 8) rfl) rfl
theorem r2_9 : Cond.selects "CoinMeterModel" ⟨"CoinMeterModel", "of", "(II)I"⟩ ⟨"CoinMeterModel", "of", "(II)I"⟩ ∈ UW := up2 (List.mem_of_getElem? (i := 9) rfl) rfl
theorem r2_10 : Cond.selects "CoinMeterModel" ⟨"CoinMeterModel", "loadedOf", "(I)I"⟩ ⟨"CoinMeterModel", "loadedOf", "(I)I"⟩ ∈ UW := up2 (List.mem_of_getElem? (i := 10) rfl) rfl
theorem r2_11 : Cond.selects "CoinMeterModel" ⟨"CoinMeterModel", "isSmart", "(I)Z"⟩ ⟨"CoinMeterModel", "isSmart", "(I)Z"⟩ ∈ UW := up2 (List.mem_of_getElem? (i := 11) rfl) rfl
theorem r2_12 : Cond.selects "CoinMeterModel" ⟨"CoinMeterModel", "limit", "(I)I"⟩ ⟨"CoinMeterModel", "limit", "(I)I"⟩ ∈ UW := up2 (List.mem_of_getElem? (i := 12) rfl) rfl
theorem r2_13 : Cond.selects "CoinMeterModel" ⟨"CoinMeterModel", "more", "(III)V"⟩ ⟨"CoinMeterModel", "more", "(III)V"⟩ ∈ UW := up2 (List.mem_of_getElem? (i := 13) rfl) rfl
theorem r2_14 : Cond.selects "CoinMeterModel" ⟨"CoinMeterModel", "saysOf", "(IIII)I"⟩ ⟨"CoinMeterModel", "saysOf", "(IIII)I"⟩ ∈ UW := up2 (List.mem_of_getElem? (i := 14) rfl) rfl
theorem r2_15 : Cond.selects "CoinMeterModel" ⟨"CoinMeterModel", "reads", "(II)I"⟩ ⟨"CoinMeterModel", "reads", "(II)I"⟩ ∈ UW := up2 (List.mem_of_getElem? (i := 15) rfl) rfl
theorem r3_0 : Cond.selects "CoinMeterModel" ⟨"CoinMeterModel", "either", "()I"⟩ ⟨"CoinMeterModel", "either", "()I"⟩ ∈ UW := up3 (List.mem_of_getElem? (i := 0) rfl) rfl
theorem r3_1 : Cond.selects "CoinMeterModel" ⟨"CoinMeterModel", "both", "()I"⟩ ⟨"CoinMeterModel", "both", "()I"⟩ ∈ UW := up3 (List.mem_of_getElem? (i := 1) rfl) rfl
theorem r3_2 : Cond.selects "CoinMeterModel" ⟨"CoinMeterModel", "relation", "()I"⟩ ⟨"CoinMeterModel", "relation", "()I"⟩ ∈ UW := up3 (List.mem_of_getElem? (i := 2) rfl) rfl
theorem r3_3 : Cond.selects "CoinMeterModel" ⟨"CoinMeterModel", "added", "()I"⟩ ⟨"CoinMeterModel", "added", "()I"⟩ ∈ UW := up3 (List.mem_of_getElem? (i := 3) rfl) rfl
theorem r3_4 : Cond.selects "CoinMeterModel" ⟨"CoinMeterModel", "term", "()I"⟩ ⟨"CoinMeterModel", "term", "()I"⟩ ∈ UW := up3 (List.mem_of_getElem? (i := 4) rfl) rfl
theorem r3_5 : Cond.selects "CoinMeterModel" ⟨"CoinMeterModel", "single", "()I"⟩ ⟨"CoinMeterModel", "single", "()I"⟩ ∈ UW := up3 (List.mem_of_getElem? (i := 5) rfl) rfl
theorem r3_6 : Cond.selects "CoinMeterModel" ⟨"CoinMeterModel", "byteAt", "()I"⟩ ⟨"CoinMeterModel", "byteAt", "()I"⟩ ∈ UW := up3 (List.mem_of_getElem? (i := 6) rfl) rfl
theorem r3_7 : Cond.selects "CoinMeterModel" ⟨"CoinMeterModel", "eats", "(I)Z"⟩ ⟨"CoinMeterModel", "eats", "(I)Z"⟩ ∈ UW := up3 (List.mem_of_getElem? (i := 7) rfl) rfl
theorem r3_8 : Cond.selects "CoinMeterModel" ⟨"CoinMeterModel", "connects", "(I)V"⟩ ⟨"CoinMeterModel", "connects", "(I)V"⟩ ∈ UW := up3 (List.mem_of_getElem? (i := 8) rfl) rfl
theorem r3_9 : Cond.selects "CoinMeterModel" ⟨"CoinMeterModel", "isOpen", "(II)Z"⟩ ⟨"CoinMeterModel", "isOpen", "(II)Z"⟩ ∈ UW := up3 (List.mem_of_getElem? (i := 9) rfl) rfl
theorem r3_10 : Cond.selects "CoinMeterModel" ⟨"CoinMeterModel", "farOf", "(II)I"⟩ ⟨"CoinMeterModel", "farOf", "(II)I"⟩ ∈ UW := up3 (List.mem_of_getElem? (i := 10) rfl) rfl
theorem r3_11 : Cond.selects "CoinMeterModel" ⟨"CoinMeterModel", "tops", "(II)I"⟩ ⟨"CoinMeterModel", "tops", "(II)I"⟩ ∈ UW := up3 (List.mem_of_getElem? (i := 11) rfl) rfl
theorem r3_12 : Cond.selects "CoinMeterModel" ⟨"CoinMeterModel", "rateBy", "(II)I"⟩ ⟨"CoinMeterModel", "rateBy", "(II)I"⟩ ∈ UW := up3 (List.mem_of_getElem? (i := 12) rfl) rfl
theorem r3_13 : Cond.selects "CoinMeterModel" ⟨"CoinMeterModel", "standingOf", "(I)I"⟩ ⟨"CoinMeterModel", "standingOf", "(I)I"⟩ ∈ UW := up3 (List.mem_of_getElem? (i := 13) rfl) rfl
theorem r3_14 : Cond.selects "CoinMeterModel" ⟨"CoinMeterModel", "passes", "(I)Z"⟩ ⟨"CoinMeterModel", "passes", "(I)Z"⟩ ∈ UW := up3 (List.mem_of_getElem? (i := 14) rfl) rfl
theorem r3_15 : Cond.selects "CoinMeterModel" ⟨"CoinMeterModel", "isHolding", "(IIII)Z"⟩ ⟨"CoinMeterModel", "isHolding", "(IIII)Z"⟩ ∈ UW := up3 (List.mem_of_getElem? (i := 15) rfl) rfl
theorem r4_0 : Cond.selects "CoinMeterModel" ⟨"CoinMeterModel", "holds", "(IIII)I"⟩ ⟨"CoinMeterModel", "holds", "(IIII)I"⟩ ∈ UW := up4 (List.mem_of_getElem? (i := 0) rfl) rfl
theorem r4_1 : Cond.selects "CoinMeterModel" ⟨"CoinMeterModel", "keeps", "([I)V"⟩ ⟨"CoinMeterModel", "keeps", "([I)V"⟩ ∈ UW := up4 (List.mem_of_getElem? (i := 1) rfl) rfl
theorem r4_2 : Cond.selects "CoinMeterModel" ⟨"CoinMeterModel", "takes", "([I)V"⟩ ⟨"CoinMeterModel", "takes", "([I)V"⟩ ∈ UW := up4 (List.mem_of_getElem? (i := 2) rfl) rfl
theorem r4_3 : Cond.selects "CoinMeterModel" ⟨"CoinMeterModel", "lacks", "(III)I"⟩ ⟨"CoinMeterModel", "lacks", "(III)I"⟩ ∈ UW := up4 (List.mem_of_getElem? (i := 3) rfl) rfl
theorem r4_4 : Cond.selects "CoinMeterModel" ⟨"CoinMeterModel", "reaches", "(IIII)Z"⟩ ⟨"CoinMeterModel", "reaches", "(IIII)Z"⟩ ∈ UW := up4 (List.mem_of_getElem? (i := 4) rfl) rfl
theorem r4_5 : Cond.selects "CoinMeterModel" ⟨"CoinMeterModel", "tick", "(I)I"⟩ ⟨"CoinMeterModel", "tick", "(I)I"⟩ ∈ UW := up4 (List.mem_of_getElem? (i := 5) rfl) rfl
theorem r4_6 : Cond.selects "CoinMeterModel" ⟨"CoinMeterModel", "begins", "(I)V"⟩ ⟨"CoinMeterModel", "begins", "(I)V"⟩ ∈ UW := up4 (List.mem_of_getElem? (i := 6) rfl) rfl
theorem r4_7 : Cond.selects "CoinMeterModel" ⟨"CoinMeterModel", "keyedTick", "(I)I"⟩ ⟨"CoinMeterModel", "keyedTick", "(I)I"⟩ ∈ UW := up4 (List.mem_of_getElem? (i := 7) rfl) rfl
theorem r4_8 : Cond.selects "CoinMeterModel" ⟨"CoinMeterModel", "meterTick", "(I)I"⟩ ⟨"CoinMeterModel", "meterTick", "(I)I"⟩ ∈ UW := up4 (List.mem_of_getElem? (i := 8) rfl) rfl
theorem r4_9 : Cond.selects "CoinMeterModel" ⟨"CoinMeterModel", "hum", "(I)I"⟩ ⟨"CoinMeterModel", "hum", "(I)I"⟩ ∈ UW := up4 (List.mem_of_getElem? (i := 9) rfl) rfl
theorem r4_10 : Cond.selects "CoinMeterModel" ⟨"CoinMeterModel", "smartHum", "(I)I"⟩ ⟨"CoinMeterModel", "smartHum", "(I)I"⟩ ∈ UW := up4 (List.mem_of_getElem? (i := 10) rfl) rfl
theorem r4_11 : Cond.selects "CoinMeterModel" ⟨"CoinMeterModel", "meterHum", "(I)I"⟩ ⟨"CoinMeterModel", "meterHum", "(I)I"⟩ ∈ UW := up4 (List.mem_of_getElem? (i := 11) rfl) rfl
theorem r4_12 : Cond.selects "CoinMeterModel" ⟨"CoinMeterModel", "click", "(I)I"⟩ ⟨"CoinMeterModel", "click", "(I)I"⟩ ∈ UW := up4 (List.mem_of_getElem? (i := 12) rfl) rfl
theorem r4_13 : Cond.selects "CoinMeterModel" ⟨"CoinMeterModel", "meterClick", "(I)I"⟩ ⟨"CoinMeterModel", "meterClick", "(I)I"⟩ ∈ UW := up4 (List.mem_of_getElem? (i := 13) rfl) rfl
theorem r4_14 : Cond.selects "CoinMeterModel" ⟨"CoinMeterModel", "tell", "(I)I"⟩ ⟨"CoinMeterModel", "tell", "(I)I"⟩ ∈ UW := up4 (List.mem_of_getElem? (i := 14) rfl) rfl
theorem r4_15 : Cond.selects "CoinMeterModel" ⟨"CoinMeterModel", "meterTell", "(I)I"⟩ ⟨"CoinMeterModel", "meterTell", "(I)I"⟩ ∈ UW := up4 (List.mem_of_getElem? (i := 15) rfl) rfl
theorem r5_0 : Cond.selects "CoinMeterModel" ⟨"CoinMeterModel", "has", "(III)Z"⟩ ⟨"CoinMeterModel", "has", "(III)Z"⟩ ∈ UW := up5 (List.mem_of_getElem? (i := 0) rfl) rfl
theorem inu0 : ∀ w ∈ wsX00, w ∈ UW := fun w hw => by
  obtain ⟨k, hk, rfl⟩ := List.mem_map.mp hw
  have hk := List.mem_range.mp hk
  rcases (show k = 0 ∨ k = 1 ∨ k = 2 ∨ k = 3 ∨ k = 4 ∨ k = 5 by omega) with rfl | rfl | rfl | rfl | rfl | rfl
  · exact q2_33
  · exact q2_35
  · exact q2_37
  · exact q2_39
  · exact q2_41
  · exact q2_43
theorem inu1 : ∀ w ∈ wsX10, w ∈ UW := fun w hw => by
  obtain ⟨k, hk, rfl⟩ := List.mem_map.mp hw
  have hk := List.mem_range.mp hk
  rcases (show k = 0 ∨ k = 1 ∨ k = 2 ∨ k = 3 ∨ k = 4 ∨ k = 5 by omega) with rfl | rfl | rfl | rfl | rfl | rfl
  · exact q1_68
  · exact q1_70
  · exact q1_72
  · exact q1_74
  · exact q1_76
  · exact q1_78
theorem inu2 : ∀ w ∈ wsX20, w ∈ UW := fun w hw => by
  obtain ⟨k, hk, rfl⟩ := List.mem_map.mp hw
  have hk := List.mem_range.mp hk
  rcases (show k = 0 ∨ k = 1 ∨ k = 2 ∨ k = 3 ∨ k = 4 ∨ k = 5 ∨ k = 6 ∨ k = 7 ∨ k = 8 ∨ k = 9 ∨ k = 10 ∨ k = 11 ∨ k = 12 ∨ k = 13 ∨ k = 14 by omega) with rfl | rfl | rfl | rfl | rfl | rfl | rfl | rfl | rfl | rfl | rfl | rfl | rfl | rfl | rfl
  · exact q1_188
  · exact q1_190
  · exact q1_192
  · exact q1_194
  · exact q1_196
  · exact q1_198
  · exact q1_200
  · exact q1_202
  · exact q1_204
  · exact q1_206
  · exact q1_208
  · exact q1_210
  · exact q1_212
  · exact q1_214
  · exact q1_216
theorem inu3 : ∀ w ∈ wsX30, w ∈ UW := fun w hw => by
  obtain ⟨k, hk, rfl⟩ := List.mem_map.mp hw
  have hk := List.mem_range.mp hk
  rcases (show k = 0 ∨ k = 1 ∨ k = 2 ∨ k = 3 ∨ k = 4 by omega) with rfl | rfl | rfl | rfl | rfl
  · exact q1_95
  · exact q1_97
  · exact q1_99
  · exact q1_101
  · exact q1_103
theorem inu4 : ∀ w ∈ wsX40, w ∈ UW := fun w hw => by
  obtain ⟨k, hk, rfl⟩ := List.mem_map.mp hw
  have hk := List.mem_range.mp hk
  rcases (show k = 0 ∨ k = 1 ∨ k = 2 by omega) with rfl | rfl | rfl
  · exact q2_74
  · exact q2_76
  · exact q2_78
theorem inu5 : ∀ w ∈ wsX50, w ∈ UW := fun w hw => by
  obtain ⟨k, hk, rfl⟩ := List.mem_map.mp hw
  have hk := List.mem_range.mp hk
  rcases (show k = 0 ∨ k = 1 ∨ k = 2 ∨ k = 3 ∨ k = 4 by omega) with rfl | rfl | rfl | rfl | rfl
  · exact q1_43
  · exact q1_45
  · exact q1_47
  · exact q1_49
  · exact q1_51
theorem inu6 : ∀ w ∈ wsX60, w ∈ UW := fun w hw => by
  obtain ⟨k, hk, rfl⟩ := List.mem_map.mp hw
  have hk := List.mem_range.mp hk
  rcases (show k = 0 ∨ k = 1 ∨ k = 2 ∨ k = 3 ∨ k = 4 ∨ k = 5 by omega) with rfl | rfl | rfl | rfl | rfl | rfl
  · exact q1_121
  · exact q1_123
  · exact q1_125
  · exact q1_127
  · exact q1_129
  · exact q1_131
theorem inu7 : ∀ w ∈ wsX70, w ∈ UW := fun w hw => by
  obtain ⟨k, hk, rfl⟩ := List.mem_map.mp hw
  have hk := List.mem_range.mp hk
  rcases (show k = 0 ∨ k = 1 ∨ k = 2 ∨ k = 3 ∨ k = 4 ∨ k = 5 ∨ k = 6 ∨ k = 7 ∨ k = 8 by omega) with rfl | rfl | rfl | rfl | rfl | rfl | rfl | rfl | rfl
  · exact q1_238
  · exact q2_0
  · exact q2_2
  · exact q2_4
  · exact q2_6
  · exact q2_8
  · exact q2_10
  · exact q2_12
  · exact q2_14
theorem inu8 : ∀ w ∈ wsX80, w ∈ UW := fun w hw => by
  obtain ⟨k, hk, rfl⟩ := List.mem_map.mp hw
  have hk := List.mem_range.mp hk
  rcases (show k = 0 ∨ k = 1 by omega) with rfl | rfl
  · exact q2_56
  · exact q2_58
theorem inu9 : ∀ w ∈ wsX90, w ∈ UW := fun w hw => by
  obtain ⟨k, hk, rfl⟩ := List.mem_map.mp hw
  have hk := List.mem_range.mp hk
  rcases (show k = 0 ∨ k = 1 ∨ k = 2 ∨ k = 3 ∨ k = 4 ∨ k = 5 ∨ k = 6 ∨ k = 7 ∨ k = 8 by omega) with rfl | rfl | rfl | rfl | rfl | rfl | rfl | rfl | rfl
  · exact q2_90
  · exact q2_92
  · exact q2_94
  · exact q2_96
  · exact q2_98
  · exact q2_100
  · exact q2_102
  · exact q2_104
  · exact q2_106
theorem inu10 : ∀ w ∈ wsX100, w ∈ UW := fun w hw => by
  obtain ⟨k, hk, rfl⟩ := List.mem_map.mp hw
  have hk := List.mem_range.mp hk
  rcases (show k = 0 ∨ k = 1 ∨ k = 2 ∨ k = 3 ∨ k = 4 ∨ k = 5 ∨ k = 6 ∨ k = 7 ∨ k = 8 ∨ k = 9 ∨ k = 10 ∨ k = 11 ∨ k = 12 ∨ k = 13 ∨ k = 14 ∨ k = 15 ∨ k = 16 ∨ k = 17 ∨ k = 18 ∨ k = 19 ∨ k = 20 ∨ k = 21 by omega) with rfl | rfl | rfl | rfl | rfl | rfl | rfl | rfl | rfl | rfl | rfl | rfl | rfl | rfl | rfl | rfl | rfl | rfl | rfl | rfl | rfl | rfl
  · exact q4_156
  · exact q4_158
  · exact q4_160
  · exact q4_162
  · exact q4_164
  · exact q4_166
  · exact q4_168
  · exact q4_170
  · exact q4_172
  · exact q4_174
  · exact q4_176
  · exact q4_178
  · exact q4_180
  · exact q4_182
  · exact q4_184
  · exact q4_186
  · exact q4_188
  · exact q4_190
  · exact q4_192
  · exact q4_194
  · exact q4_196
  · exact q4_198
