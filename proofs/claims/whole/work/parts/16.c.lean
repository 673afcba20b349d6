abbrev cX1_put : ByteArray := prog_3_method_3_code
def yX1_put : MethodName := ⟨RX1, "put", "(ZIIIZ)V"⟩
def wkX1_put : List Cond := .code yX1_put cX1_put 8 none :: qW
set_option maxRecDepth 40000 in
theorem gkX1_put : GoodIn qW wkX1_put := q_good (qw 326 rfl rfl)
set_option maxRecDepth 40000 in
theorem knX1_put : Cond.instanceMethod yX1_put ∈ qW := qw 324 rfl rfl
set_option maxRecDepth 40000 in
theorem klX1_put : Cond.selects RX1 yX1_put yX1_put ∈ qW := qw 325 rfl rfl
theorem dX1_put_0 : decode cX1_put 0 = .ok (.iload_n 1, 1) := by decide +kernel
theorem dX1_put_1 : decode cX1_put 1 = .ok (.ifCond .eq 127, 3) := by decide +kernel
theorem dX1_put_4 : decode cX1_put 4 = .ok (.iload_n 2, 1) := by decide +kernel
theorem dX1_put_5 : decode cX1_put 5 = .ok (.bipush 12, 2) := by decide +kernel
theorem dX1_put_7 : decode cX1_put 7 = .ok (.imul, 1) := by decide +kernel
theorem dX1_put_8 : decode cX1_put 8 = .ok (.iload_n 3, 1) := by decide +kernel
theorem dX1_put_9 : decode cX1_put 9 = .ok (.iadd, 1) := by decide +kernel
theorem dX1_put_10 : decode cX1_put 10 = .ok (.istore 6, 2) := by decide +kernel
theorem dX1_put_12 : decode cX1_put 12 = .ok (.iload_n 2, 1) := by decide +kernel
theorem dX1_put_13 : decode cX1_put 13 = .ok (.bipush 12, 2) := by decide +kernel
theorem dX1_put_15 : decode cX1_put 15 = .ok (.imul, 1) := by decide +kernel
theorem dX1_put_16 : decode cX1_put 16 = .ok (.iload 4, 2) := by decide +kernel
theorem dX1_put_18 : decode cX1_put 18 = .ok (.iadd, 1) := by decide +kernel
theorem dX1_put_19 : decode cX1_put 19 = .ok (.istore 7, 2) := by decide +kernel
theorem dX1_put_21 : decode cX1_put 21 = .ok (.aload_n 0, 1) := by decide +kernel
theorem dX1_put_22 : decode cX1_put 22 = .ok (.getfield 15, 3) := by decide +kernel
theorem dX1_put_25 : decode cX1_put 25 = .ok (.iload 6, 2) := by decide +kernel
theorem dX1_put_27 : decode cX1_put 27 = .ok (.aload_n 0, 1) := by decide +kernel
theorem dX1_put_28 : decode cX1_put 28 = .ok (.getfield 15, 3) := by decide +kernel
theorem dX1_put_31 : decode cX1_put 31 = .ok (.iload 6, 2) := by decide +kernel
theorem dX1_put_33 : decode cX1_put 33 = .ok (.iaload, 1) := by decide +kernel
theorem dX1_put_34 : decode cX1_put 34 = .ok (.iload 4, 2) := by decide +kernel
theorem dX1_put_36 : decode cX1_put 36 = .ok (.iload 5, 2) := by decide +kernel
theorem dX1_put_38 : decode cX1_put 38 = .ok (.invokestatic 35, 3) := by decide +kernel
theorem dX1_put_41 : decode cX1_put 41 = .ok (.iastore, 1) := by decide +kernel
theorem dX1_put_42 : decode cX1_put 42 = .ok (.aload_n 0, 1) := by decide +kernel
theorem dX1_put_43 : decode cX1_put 43 = .ok (.getfield 18, 3) := by decide +kernel
theorem dX1_put_46 : decode cX1_put 46 = .ok (.iload 7, 2) := by decide +kernel
theorem dX1_put_48 : decode cX1_put 48 = .ok (.aload_n 0, 1) := by decide +kernel
theorem dX1_put_49 : decode cX1_put 49 = .ok (.getfield 18, 3) := by decide +kernel
theorem dX1_put_52 : decode cX1_put 52 = .ok (.iload 7, 2) := by decide +kernel
theorem dX1_put_54 : decode cX1_put 54 = .ok (.iaload, 1) := by decide +kernel
theorem dX1_put_55 : decode cX1_put 55 = .ok (.iload_n 3, 1) := by decide +kernel
theorem dX1_put_56 : decode cX1_put 56 = .ok (.iload 5, 2) := by decide +kernel
theorem dX1_put_58 : decode cX1_put 58 = .ok (.invokestatic 35, 3) := by decide +kernel
theorem dX1_put_61 : decode cX1_put 61 = .ok (.iastore, 1) := by decide +kernel
theorem dX1_put_62 : decode cX1_put 62 = .ok (.aload_n 0, 1) := by decide +kernel
theorem dX1_put_63 : decode cX1_put 63 = .ok (.getfield 21, 3) := by decide +kernel
theorem dX1_put_66 : decode cX1_put 66 = .ok (.iload_n 2, 1) := by decide +kernel
theorem dX1_put_67 : decode cX1_put 67 = .ok (.aload_n 0, 1) := by decide +kernel
theorem dX1_put_68 : decode cX1_put 68 = .ok (.getfield 21, 3) := by decide +kernel
theorem dX1_put_71 : decode cX1_put 71 = .ok (.iload_n 2, 1) := by decide +kernel
theorem dX1_put_72 : decode cX1_put 72 = .ok (.iaload, 1) := by decide +kernel
theorem dX1_put_73 : decode cX1_put 73 = .ok (.iload_n 3, 1) := by decide +kernel
theorem dX1_put_74 : decode cX1_put 74 = .ok (.aload_n 0, 1) := by decide +kernel
theorem dX1_put_75 : decode cX1_put 75 = .ok (.getfield 15, 3) := by decide +kernel
theorem dX1_put_78 : decode cX1_put 78 = .ok (.iload 6, 2) := by decide +kernel
theorem dX1_put_80 : decode cX1_put 80 = .ok (.iaload, 1) := by decide +kernel
theorem dX1_put_81 : decode cX1_put 81 = .ok (.ifCond .eq 7, 3) := by decide +kernel
theorem dX1_put_84 : decode cX1_put 84 = .ok (.iconst 1, 1) := by decide +kernel
theorem dX1_put_85 : decode cX1_put 85 = .ok (.goto 4, 3) := by decide +kernel
theorem dX1_put_88 : decode cX1_put 88 = .ok (.iconst 0, 1) := by decide +kernel
theorem dX1_put_89 : decode cX1_put 89 = .ok (.invokestatic 35, 3) := by decide +kernel
theorem dX1_put_92 : decode cX1_put 92 = .ok (.iastore, 1) := by decide +kernel
theorem dX1_put_93 : decode cX1_put 93 = .ok (.aload_n 0, 1) := by decide +kernel
theorem dX1_put_94 : decode cX1_put 94 = .ok (.getfield 24, 3) := by decide +kernel
theorem dX1_put_97 : decode cX1_put 97 = .ok (.iload_n 2, 1) := by decide +kernel
theorem dX1_put_98 : decode cX1_put 98 = .ok (.aload_n 0, 1) := by decide +kernel
theorem dX1_put_99 : decode cX1_put 99 = .ok (.getfield 24, 3) := by decide +kernel
theorem dX1_put_102 : decode cX1_put 102 = .ok (.iload_n 2, 1) := by decide +kernel
theorem dX1_put_103 : decode cX1_put 103 = .ok (.iaload, 1) := by decide +kernel
theorem dX1_put_104 : decode cX1_put 104 = .ok (.iload 4, 2) := by decide +kernel
theorem dX1_put_106 : decode cX1_put 106 = .ok (.aload_n 0, 1) := by decide +kernel
theorem dX1_put_107 : decode cX1_put 107 = .ok (.getfield 18, 3) := by decide +kernel
theorem dX1_put_110 : decode cX1_put 110 = .ok (.iload 7, 2) := by decide +kernel
theorem dX1_put_112 : decode cX1_put 112 = .ok (.iaload, 1) := by decide +kernel
theorem dX1_put_113 : decode cX1_put 113 = .ok (.ifCond .eq 7, 3) := by decide +kernel
theorem dX1_put_116 : decode cX1_put 116 = .ok (.iconst 1, 1) := by decide +kernel
theorem dX1_put_117 : decode cX1_put 117 = .ok (.goto 4, 3) := by decide +kernel
theorem dX1_put_120 : decode cX1_put 120 = .ok (.iconst 0, 1) := by decide +kernel
theorem dX1_put_121 : decode cX1_put 121 = .ok (.invokestatic 35, 3) := by decide +kernel
theorem dX1_put_124 : decode cX1_put 124 = .ok (.iastore, 1) := by decide +kernel
theorem dX1_put_125 : decode cX1_put 125 = .ok (.goto 21, 3) := by decide +kernel
theorem dX1_put_128 : decode cX1_put 128 = .ok (.aload_n 0, 1) := by decide +kernel
theorem dX1_put_129 : decode cX1_put 129 = .ok (.getfield 9, 3) := by decide +kernel
theorem dX1_put_132 : decode cX1_put 132 = .ok (.iload_n 2, 1) := by decide +kernel
theorem dX1_put_133 : decode cX1_put 133 = .ok (.aload_n 0, 1) := by decide +kernel
theorem dX1_put_134 : decode cX1_put 134 = .ok (.getfield 9, 3) := by decide +kernel
theorem dX1_put_137 : decode cX1_put 137 = .ok (.iload_n 2, 1) := by decide +kernel
theorem dX1_put_138 : decode cX1_put 138 = .ok (.iaload, 1) := by decide +kernel
theorem dX1_put_139 : decode cX1_put 139 = .ok (.iload_n 3, 1) := by decide +kernel
theorem dX1_put_140 : decode cX1_put 140 = .ok (.iload 5, 2) := by decide +kernel
theorem dX1_put_142 : decode cX1_put 142 = .ok (.invokestatic 35, 3) := by decide +kernel
theorem dX1_put_145 : decode cX1_put 145 = .ok (.iastore, 1) := by decide +kernel
theorem dX1_put_146 : decode cX1_put 146 = .ok (.aload_n 0, 1) := by decide +kernel
theorem dX1_put_147 : decode cX1_put 147 = .ok (.dup, 1) := by decide +kernel
theorem dX1_put_148 : decode cX1_put 148 = .ok (.getfield 27, 3) := by decide +kernel
theorem dX1_put_151 : decode cX1_put 151 = .ok (.iload 5, 2) := by decide +kernel
theorem dX1_put_153 : decode cX1_put 153 = .ok (.ifCond .eq 7, 3) := by decide +kernel
theorem dX1_put_156 : decode cX1_put 156 = .ok (.iconst 1, 1) := by decide +kernel
theorem dX1_put_157 : decode cX1_put 157 = .ok (.goto 4, 3) := by decide +kernel
theorem dX1_put_160 : decode cX1_put 160 = .ok (.iconst (-1), 1) := by decide +kernel
theorem dX1_put_161 : decode cX1_put 161 = .ok (.iadd, 1) := by decide +kernel
theorem dX1_put_162 : decode cX1_put 162 = .ok (.putfield 27, 3) := by decide +kernel
theorem dX1_put_165 : decode cX1_put 165 = .ok (.return_, 1) := by decide +kernel
abbrev cX2_thingOf : ByteArray := prog_4_method_7_code
def yX2_thingOf : MethodName := ⟨RX2, "thingOf", "(I)I"⟩
def wkX2_thingOf : List Cond := .code yX2_thingOf cX2_thingOf 2 (some .int) :: qW
set_option maxRecDepth 40000 in
theorem gkX2_thingOf : GoodIn qW wkX2_thingOf := q_good (qw 518 rfl rfl)
set_option maxRecDepth 40000 in
theorem knX2_thingOf : Cond.instanceMethod yX2_thingOf ∈ qW := qw 517 rfl rfl
set_option maxRecDepth 40000 in
theorem klX2_thingOf : Cond.selects RX2 yX2_thingOf yX2_thingOf ∈ qW := qw 13 rfl rfl
theorem dX2_thingOf_0 : decode cX2_thingOf 0 = .ok (.iload_n 1, 1) := by decide +kernel
theorem dX2_thingOf_1 : decode cX2_thingOf 1 = .ok (.bipush 6, 2) := by decide +kernel
theorem dX2_thingOf_3 : decode cX2_thingOf 3 = .ok (.if_icmp .ge 12, 3) := by decide +kernel
theorem dX2_thingOf_6 : decode cX2_thingOf 6 = .ok (.aload_n 0, 1) := by decide +kernel
theorem dX2_thingOf_7 : decode cX2_thingOf 7 = .ok (.getfield 18, 3) := by decide +kernel
theorem dX2_thingOf_10 : decode cX2_thingOf 10 = .ok (.iload_n 1, 1) := by decide +kernel
theorem dX2_thingOf_11 : decode cX2_thingOf 11 = .ok (.iaload, 1) := by decide +kernel
theorem dX2_thingOf_12 : decode cX2_thingOf 12 = .ok (.goto 4, 3) := by decide +kernel
theorem dX2_thingOf_15 : decode cX2_thingOf 15 = .ok (.iconst (-1), 1) := by decide +kernel
theorem dX2_thingOf_16 : decode cX2_thingOf 16 = .ok (.ireturn, 1) := by decide +kernel
abbrev cX2_holdsAnywhere : ByteArray := prog_4_method_3_code
def yX2_holdsAnywhere : MethodName := ⟨RX2, "holdsAnywhere", "()Z"⟩
def wkX2_holdsAnywhere : List Cond := .code yX2_holdsAnywhere cX2_holdsAnywhere 4 (some .boolean) :: qW
set_option maxRecDepth 40000 in
theorem gkX2_holdsAnywhere : GoodIn qW wkX2_holdsAnywhere := q_good (qw 501 rfl rfl)
set_option maxRecDepth 40000 in
theorem knX2_holdsAnywhere : Cond.instanceMethod yX2_holdsAnywhere ∈ qW := qw 500 rfl rfl
set_option maxRecDepth 40000 in
theorem klX2_holdsAnywhere : Cond.selects RX2 yX2_holdsAnywhere yX2_holdsAnywhere ∈ qW := qw 10 rfl rfl
theorem dX2_holdsAnywhere_0 : decode cX2_holdsAnywhere 0 = .ok (.iconst 0, 1) := by decide +kernel
theorem dX2_holdsAnywhere_1 : decode cX2_holdsAnywhere 1 = .ok (.istore_n 1, 1) := by decide +kernel
theorem dX2_holdsAnywhere_2 : decode cX2_holdsAnywhere 2 = .ok (.iload_n 1, 1) := by decide +kernel
theorem dX2_holdsAnywhere_3 : decode cX2_holdsAnywhere 3 = .ok (.aload_n 0, 1) := by decide +kernel
theorem dX2_holdsAnywhere_4 : decode cX2_holdsAnywhere 4 = .ok (.getfield 12, 3) := by decide +kernel
theorem dX2_holdsAnywhere_7 : decode cX2_holdsAnywhere 7 = .ok (.getfield 68, 3) := by decide +kernel
theorem dX2_holdsAnywhere_10 : decode cX2_holdsAnywhere 10 = .ok (.if_icmp .ge 56, 3) := by decide +kernel
theorem dX2_holdsAnywhere_13 : decode cX2_holdsAnywhere 13 = .ok (.aload_n 0, 1) := by decide +kernel
theorem dX2_holdsAnywhere_14 : decode cX2_holdsAnywhere 14 = .ok (.getfield 12, 3) := by decide +kernel
theorem dX2_holdsAnywhere_17 : decode cX2_holdsAnywhere 17 = .ok (.getfield 69, 3) := by decide +kernel
theorem dX2_holdsAnywhere_20 : decode cX2_holdsAnywhere 20 = .ok (.iload_n 1, 1) := by decide +kernel
theorem dX2_holdsAnywhere_21 : decode cX2_holdsAnywhere 21 = .ok (.iaload, 1) := by decide +kernel
theorem dX2_holdsAnywhere_22 : decode cX2_holdsAnywhere 22 = .ok (.istore_n 2, 1) := by decide +kernel
theorem dX2_holdsAnywhere_23 : decode cX2_holdsAnywhere 23 = .ok (.iload_n 2, 1) := by decide +kernel
theorem dX2_holdsAnywhere_24 : decode cX2_holdsAnywhere 24 = .ok (.bipush 32, 2) := by decide +kernel
theorem dX2_holdsAnywhere_26 : decode cX2_holdsAnywhere 26 = .ok (.if_icmp .ge 15, 3) := by decide +kernel
theorem dX2_holdsAnywhere_29 : decode cX2_holdsAnywhere 29 = .ok (.aload_n 0, 1) := by decide +kernel
theorem dX2_holdsAnywhere_30 : decode cX2_holdsAnywhere 30 = .ok (.getfield 22, 3) := by decide +kernel
theorem dX2_holdsAnywhere_33 : decode cX2_holdsAnywhere 33 = .ok (.getfield 72, 3) := by decide +kernel
theorem dX2_holdsAnywhere_36 : decode cX2_holdsAnywhere 36 = .ok (.iload_n 2, 1) := by decide +kernel
theorem dX2_holdsAnywhere_37 : decode cX2_holdsAnywhere 37 = .ok (.iaload, 1) := by decide +kernel
theorem dX2_holdsAnywhere_38 : decode cX2_holdsAnywhere 38 = .ok (.goto 15, 3) := by decide +kernel
theorem dX2_holdsAnywhere_41 : decode cX2_holdsAnywhere 41 = .ok (.aload_n 0, 1) := by decide +kernel
theorem dX2_holdsAnywhere_42 : decode cX2_holdsAnywhere 42 = .ok (.getfield 22, 3) := by decide +kernel
theorem dX2_holdsAnywhere_45 : decode cX2_holdsAnywhere 45 = .ok (.getfield 77, 3) := by decide +kernel
theorem dX2_holdsAnywhere_48 : decode cX2_holdsAnywhere 48 = .ok (.iload_n 2, 1) := by decide +kernel
theorem dX2_holdsAnywhere_49 : decode cX2_holdsAnywhere 49 = .ok (.bipush 32, 2) := by decide +kernel
theorem dX2_holdsAnywhere_51 : decode cX2_holdsAnywhere 51 = .ok (.isub, 1) := by decide +kernel
theorem dX2_holdsAnywhere_52 : decode cX2_holdsAnywhere 52 = .ok (.iaload, 1) := by decide +kernel
theorem dX2_holdsAnywhere_53 : decode cX2_holdsAnywhere 53 = .ok (.istore_n 3, 1) := by decide +kernel
theorem dX2_holdsAnywhere_54 : decode cX2_holdsAnywhere 54 = .ok (.iload_n 3, 1) := by decide +kernel
theorem dX2_holdsAnywhere_55 : decode cX2_holdsAnywhere 55 = .ok (.ifCond .ne 5, 3) := by decide +kernel
theorem dX2_holdsAnywhere_58 : decode cX2_holdsAnywhere 58 = .ok (.iconst 0, 1) := by decide +kernel
theorem dX2_holdsAnywhere_59 : decode cX2_holdsAnywhere 59 = .ok (.ireturn, 1) := by decide +kernel
theorem dX2_holdsAnywhere_60 : decode cX2_holdsAnywhere 60 = .ok (.iinc 1 1, 3) := by decide +kernel
theorem dX2_holdsAnywhere_63 : decode cX2_holdsAnywhere 63 = .ok (.goto (-61), 3) := by decide +kernel
theorem dX2_holdsAnywhere_66 : decode cX2_holdsAnywhere 66 = .ok (.iconst 1, 1) := by decide +kernel
theorem dX2_holdsAnywhere_67 : decode cX2_holdsAnywhere 67 = .ok (.ireturn, 1) := by decide +kernel
abbrev cX2_fitting : ByteArray := prog_4_method_6_code
def yX2_fitting : MethodName := ⟨RX2, "fitting", "(I)I"⟩
def wkX2_fitting : List Cond := .code yX2_fitting cX2_fitting 8 (some .int) :: qW
set_option maxRecDepth 40000 in
theorem gkX2_fitting : GoodIn qW wkX2_fitting := q_good (qw 510 rfl rfl)
set_option maxRecDepth 40000 in
theorem knX2_fitting : Cond.instanceMethod yX2_fitting ∈ qW := qw 509 rfl rfl
set_option maxRecDepth 40000 in
theorem klX2_fitting : Cond.selects RX2 yX2_fitting yX2_fitting ∈ qW := qw 12 rfl rfl
theorem dX2_fitting_0 : decode cX2_fitting 0 = .ok (.sipush 4095, 3) := by decide +kernel
theorem dX2_fitting_3 : decode cX2_fitting 3 = .ok (.istore_n 2, 1) := by decide +kernel
theorem dX2_fitting_4 : decode cX2_fitting 4 = .ok (.iconst 0, 1) := by decide +kernel
theorem dX2_fitting_5 : decode cX2_fitting 5 = .ok (.istore_n 3, 1) := by decide +kernel
theorem dX2_fitting_6 : decode cX2_fitting 6 = .ok (.iload_n 3, 1) := by decide +kernel
theorem dX2_fitting_7 : decode cX2_fitting 7 = .ok (.aload_n 0, 1) := by decide +kernel
theorem dX2_fitting_8 : decode cX2_fitting 8 = .ok (.getfield 12, 3) := by decide +kernel
theorem dX2_fitting_11 : decode cX2_fitting 11 = .ok (.getfield 68, 3) := by decide +kernel
theorem dX2_fitting_14 : decode cX2_fitting 14 = .ok (.if_icmp .ge 234, 3) := by decide +kernel
theorem dX2_fitting_17 : decode cX2_fitting 17 = .ok (.aload_n 0, 1) := by decide +kernel
theorem dX2_fitting_18 : decode cX2_fitting 18 = .ok (.getfield 12, 3) := by decide +kernel
theorem dX2_fitting_21 : decode cX2_fitting 21 = .ok (.getfield 94, 3) := by decide +kernel
theorem dX2_fitting_24 : decode cX2_fitting 24 = .ok (.iconst 2, 1) := by decide +kernel
theorem dX2_fitting_25 : decode cX2_fitting 25 = .ok (.iload_n 3, 1) := by decide +kernel
theorem dX2_fitting_26 : decode cX2_fitting 26 = .ok (.imul, 1) := by decide +kernel
theorem dX2_fitting_27 : decode cX2_fitting 27 = .ok (.iaload, 1) := by decide +kernel
theorem dX2_fitting_28 : decode cX2_fitting 28 = .ok (.istore 4, 2) := by decide +kernel
theorem dX2_fitting_30 : decode cX2_fitting 30 = .ok (.aload_n 0, 1) := by decide +kernel
theorem dX2_fitting_31 : decode cX2_fitting 31 = .ok (.getfield 12, 3) := by decide +kernel
theorem dX2_fitting_34 : decode cX2_fitting 34 = .ok (.getfield 94, 3) := by decide +kernel
theorem dX2_fitting_37 : decode cX2_fitting 37 = .ok (.iconst 2, 1) := by decide +kernel
theorem dX2_fitting_38 : decode cX2_fitting 38 = .ok (.iload_n 3, 1) := by decide +kernel
theorem dX2_fitting_39 : decode cX2_fitting 39 = .ok (.imul, 1) := by decide +kernel
theorem dX2_fitting_40 : decode cX2_fitting 40 = .ok (.iconst 1, 1) := by decide +kernel
theorem dX2_fitting_41 : decode cX2_fitting 41 = .ok (.iadd, 1) := by decide +kernel
theorem dX2_fitting_42 : decode cX2_fitting 42 = .ok (.iaload, 1) := by decide +kernel
theorem dX2_fitting_43 : decode cX2_fitting 43 = .ok (.istore 5, 2) := by decide +kernel
theorem dX2_fitting_45 : decode cX2_fitting 45 = .ok (.aload_n 0, 1) := by decide +kernel
theorem dX2_fitting_46 : decode cX2_fitting 46 = .ok (.getfield 12, 3) := by decide +kernel
theorem dX2_fitting_49 : decode cX2_fitting 49 = .ok (.getfield 69, 3) := by decide +kernel
theorem dX2_fitting_52 : decode cX2_fitting 52 = .ok (.iload_n 3, 1) := by decide +kernel
theorem dX2_fitting_53 : decode cX2_fitting 53 = .ok (.iaload, 1) := by decide +kernel
theorem dX2_fitting_54 : decode cX2_fitting 54 = .ok (.bipush 32, 2) := by decide +kernel
theorem dX2_fitting_56 : decode cX2_fitting 56 = .ok (.if_icmp .ge 38, 3) := by decide +kernel
theorem dX2_fitting_59 : decode cX2_fitting 59 = .ok (.iload_n 2, 1) := by decide +kernel
theorem dX2_fitting_60 : decode cX2_fitting 60 = .ok (.iload 4, 2) := by decide +kernel
theorem dX2_fitting_62 : decode cX2_fitting 62 = .ok (.iload_n 1, 1) := by decide +kernel
theorem dX2_fitting_63 : decode cX2_fitting 63 = .ok (.if_icmp .ne 23, 3) := by decide +kernel
theorem dX2_fitting_66 : decode cX2_fitting 66 = .ok (.aload_n 0, 1) := by decide +kernel
theorem dX2_fitting_67 : decode cX2_fitting 67 = .ok (.getfield 22, 3) := by decide +kernel
theorem dX2_fitting_70 : decode cX2_fitting 70 = .ok (.getfield 72, 3) := by decide +kernel
theorem dX2_fitting_73 : decode cX2_fitting 73 = .ok (.aload_n 0, 1) := by decide +kernel
theorem dX2_fitting_74 : decode cX2_fitting 74 = .ok (.getfield 12, 3) := by decide +kernel
theorem dX2_fitting_77 : decode cX2_fitting 77 = .ok (.getfield 69, 3) := by decide +kernel
theorem dX2_fitting_80 : decode cX2_fitting 80 = .ok (.iload_n 3, 1) := by decide +kernel
theorem dX2_fitting_81 : decode cX2_fitting 81 = .ok (.iaload, 1) := by decide +kernel
theorem dX2_fitting_82 : decode cX2_fitting 82 = .ok (.iaload, 1) := by decide +kernel
theorem dX2_fitting_83 : decode cX2_fitting 83 = .ok (.goto 6, 3) := by decide +kernel
theorem dX2_fitting_86 : decode cX2_fitting 86 = .ok (.sipush 4095, 3) := by decide +kernel
theorem dX2_fitting_89 : decode cX2_fitting 89 = .ok (.iand, 1) := by decide +kernel
theorem dX2_fitting_90 : decode cX2_fitting 90 = .ok (.istore_n 2, 1) := by decide +kernel
theorem dX2_fitting_91 : decode cX2_fitting 91 = .ok (.goto 151, 3) := by decide +kernel
theorem dX2_fitting_94 : decode cX2_fitting 94 = .ok (.aload_n 0, 1) := by decide +kernel
theorem dX2_fitting_95 : decode cX2_fitting 95 = .ok (.getfield 12, 3) := by decide +kernel
theorem dX2_fitting_98 : decode cX2_fitting 98 = .ok (.getfield 69, 3) := by decide +kernel
theorem dX2_fitting_101 : decode cX2_fitting 101 = .ok (.iload_n 3, 1) := by decide +kernel
theorem dX2_fitting_102 : decode cX2_fitting 102 = .ok (.iaload, 1) := by decide +kernel
theorem dX2_fitting_103 : decode cX2_fitting 103 = .ok (.bipush 32, 2) := by decide +kernel
theorem dX2_fitting_105 : decode cX2_fitting 105 = .ok (.isub, 1) := by decide +kernel
theorem dX2_fitting_106 : decode cX2_fitting 106 = .ok (.istore 6, 2) := by decide +kernel
theorem dX2_fitting_108 : decode cX2_fitting 108 = .ok (.iload 4, 2) := by decide +kernel
theorem dX2_fitting_110 : decode cX2_fitting 110 = .ok (.iload_n 1, 1) := by decide +kernel
theorem dX2_fitting_111 : decode cX2_fitting 111 = .ok (.if_icmp .ne 24, 3) := by decide +kernel
theorem dX2_fitting_114 : decode cX2_fitting 114 = .ok (.iload 5, 2) := by decide +kernel
theorem dX2_fitting_116 : decode cX2_fitting 116 = .ok (.iload_n 1, 1) := by decide +kernel
theorem dX2_fitting_117 : decode cX2_fitting 117 = .ok (.if_icmp .ne 18, 3) := by decide +kernel
theorem dX2_fitting_120 : decode cX2_fitting 120 = .ok (.iload_n 2, 1) := by decide +kernel
theorem dX2_fitting_121 : decode cX2_fitting 121 = .ok (.aload_n 0, 1) := by decide +kernel
theorem dX2_fitting_122 : decode cX2_fitting 122 = .ok (.getfield 22, 3) := by decide +kernel
theorem dX2_fitting_125 : decode cX2_fitting 125 = .ok (.iload 6, 2) := by decide +kernel
theorem dX2_fitting_127 : decode cX2_fitting 127 = .ok (.invokevirtual 97, 3) := by decide +kernel
theorem dX2_fitting_130 : decode cX2_fitting 130 = .ok (.iand, 1) := by decide +kernel
theorem dX2_fitting_131 : decode cX2_fitting 131 = .ok (.istore_n 2, 1) := by decide +kernel
theorem dX2_fitting_132 : decode cX2_fitting 132 = .ok (.goto 110, 3) := by decide +kernel
theorem dX2_fitting_135 : decode cX2_fitting 135 = .ok (.iload 4, 2) := by decide +kernel
theorem dX2_fitting_137 : decode cX2_fitting 137 = .ok (.iload_n 1, 1) := by decide +kernel
theorem dX2_fitting_138 : decode cX2_fitting 138 = .ok (.if_icmp .ne 52, 3) := by decide +kernel
theorem dX2_fitting_141 : decode cX2_fitting 141 = .ok (.aload_n 0, 1) := by decide +kernel
theorem dX2_fitting_142 : decode cX2_fitting 142 = .ok (.iload 5, 2) := by decide +kernel
theorem dX2_fitting_144 : decode cX2_fitting 144 = .ok (.invokevirtual 100, 3) := by decide +kernel
theorem dX2_fitting_147 : decode cX2_fitting 147 = .ok (.istore 7, 2) := by decide +kernel
theorem dX2_fitting_149 : decode cX2_fitting 149 = .ok (.iload_n 2, 1) := by decide +kernel
theorem dX2_fitting_150 : decode cX2_fitting 150 = .ok (.iload 7, 2) := by decide +kernel
theorem dX2_fitting_152 : decode cX2_fitting 152 = .ok (.iconst (-1), 1) := by decide +kernel
theorem dX2_fitting_153 : decode cX2_fitting 153 = .ok (.if_icmp .ne 16, 3) := by decide +kernel
theorem dX2_fitting_156 : decode cX2_fitting 156 = .ok (.aload_n 0, 1) := by decide +kernel
theorem dX2_fitting_157 : decode cX2_fitting 157 = .ok (.getfield 22, 3) := by decide +kernel
theorem dX2_fitting_160 : decode cX2_fitting 160 = .ok (.getfield 77, 3) := by decide +kernel
theorem dX2_fitting_163 : decode cX2_fitting 163 = .ok (.iload 6, 2) := by decide +kernel
theorem dX2_fitting_165 : decode cX2_fitting 165 = .ok (.iaload, 1) := by decide +kernel
theorem dX2_fitting_166 : decode cX2_fitting 166 = .ok (.goto 19, 3) := by decide +kernel
theorem dX2_fitting_169 : decode cX2_fitting 169 = .ok (.aload_n 0, 1) := by decide +kernel
theorem dX2_fitting_170 : decode cX2_fitting 170 = .ok (.getfield 22, 3) := by decide +kernel
theorem dX2_fitting_173 : decode cX2_fitting 173 = .ok (.getfield 103, 3) := by decide +kernel
theorem dX2_fitting_176 : decode cX2_fitting 176 = .ok (.iload 6, 2) := by decide +kernel
theorem dX2_fitting_178 : decode cX2_fitting 178 = .ok (.bipush 12, 2) := by decide +kernel
theorem dX2_fitting_180 : decode cX2_fitting 180 = .ok (.imul, 1) := by decide +kernel
theorem dX2_fitting_181 : decode cX2_fitting 181 = .ok (.iload 7, 2) := by decide +kernel
theorem dX2_fitting_183 : decode cX2_fitting 183 = .ok (.iadd, 1) := by decide +kernel
theorem dX2_fitting_184 : decode cX2_fitting 184 = .ok (.iaload, 1) := by decide +kernel
theorem dX2_fitting_185 : decode cX2_fitting 185 = .ok (.iand, 1) := by decide +kernel
theorem dX2_fitting_186 : decode cX2_fitting 186 = .ok (.istore_n 2, 1) := by decide +kernel
theorem dX2_fitting_187 : decode cX2_fitting 187 = .ok (.goto 55, 3) := by decide +kernel
theorem dX2_fitting_190 : decode cX2_fitting 190 = .ok (.iload 5, 2) := by decide +kernel
theorem dX2_fitting_192 : decode cX2_fitting 192 = .ok (.iload_n 1, 1) := by decide +kernel
theorem dX2_fitting_193 : decode cX2_fitting 193 = .ok (.if_icmp .ne 49, 3) := by decide +kernel
theorem dX2_fitting_196 : decode cX2_fitting 196 = .ok (.aload_n 0, 1) := by decide +kernel
theorem dX2_fitting_197 : decode cX2_fitting 197 = .ok (.iload 4, 2) := by decide +kernel
theorem dX2_fitting_199 : decode cX2_fitting 199 = .ok (.invokevirtual 100, 3) := by decide +kernel
theorem dX2_fitting_202 : decode cX2_fitting 202 = .ok (.istore 7, 2) := by decide +kernel
theorem dX2_fitting_204 : decode cX2_fitting 204 = .ok (.iload_n 2, 1) := by decide +kernel
theorem dX2_fitting_205 : decode cX2_fitting 205 = .ok (.iload 7, 2) := by decide +kernel
theorem dX2_fitting_207 : decode cX2_fitting 207 = .ok (.iconst (-1), 1) := by decide +kernel
theorem dX2_fitting_208 : decode cX2_fitting 208 = .ok (.if_icmp .ne 16, 3) := by decide +kernel
theorem dX2_fitting_211 : decode cX2_fitting 211 = .ok (.aload_n 0, 1) := by decide +kernel
theorem dX2_fitting_212 : decode cX2_fitting 212 = .ok (.getfield 22, 3) := by decide +kernel
theorem dX2_fitting_215 : decode cX2_fitting 215 = .ok (.getfield 106, 3) := by decide +kernel
theorem dX2_fitting_218 : decode cX2_fitting 218 = .ok (.iload 6, 2) := by decide +kernel
theorem dX2_fitting_220 : decode cX2_fitting 220 = .ok (.iaload, 1) := by decide +kernel
theorem dX2_fitting_221 : decode cX2_fitting 221 = .ok (.goto 19, 3) := by decide +kernel
theorem dX2_fitting_224 : decode cX2_fitting 224 = .ok (.aload_n 0, 1) := by decide +kernel
theorem dX2_fitting_225 : decode cX2_fitting 225 = .ok (.getfield 22, 3) := by decide +kernel
theorem dX2_fitting_228 : decode cX2_fitting 228 = .ok (.getfield 109, 3) := by decide +kernel
theorem dX2_fitting_231 : decode cX2_fitting 231 = .ok (.iload 6, 2) := by decide +kernel
theorem dX2_fitting_233 : decode cX2_fitting 233 = .ok (.bipush 12, 2) := by decide +kernel
theorem dX2_fitting_235 : decode cX2_fitting 235 = .ok (.imul, 1) := by decide +kernel
theorem dX2_fitting_236 : decode cX2_fitting 236 = .ok (.iload 7, 2) := by decide +kernel
theorem dX2_fitting_238 : decode cX2_fitting 238 = .ok (.iadd, 1) := by decide +kernel
theorem dX2_fitting_239 : decode cX2_fitting 239 = .ok (.iaload, 1) := by decide +kernel
theorem dX2_fitting_240 : decode cX2_fitting 240 = .ok (.iand, 1) := by decide +kernel
theorem dX2_fitting_241 : decode cX2_fitting 241 = .ok (.istore_n 2, 1) := by decide +kernel
theorem dX2_fitting_242 : decode cX2_fitting 242 = .ok (.iinc 3 1, 3) := by decide +kernel
theorem dX2_fitting_245 : decode cX2_fitting 245 = .ok (.goto (-239), 3) := by decide +kernel
theorem dX2_fitting_248 : decode cX2_fitting 248 = .ok (.iload_n 2, 1) := by decide +kernel
theorem dX2_fitting_249 : decode cX2_fitting 249 = .ok (.ireturn, 1) := by decide +kernel
set_option maxRecDepth 40000 in
theorem kmX1_35 : Cond.methodLink RX1 35 yX1_changed ∈ qW := qw 327 rfl rfl
set_option maxRecDepth 40000 in
theorem kfX1_27 : Cond.fieldLink RX1 27 "QlRewrite$Facts" "size" "I" ∈ qW := qw 102 rfl rfl
set_option maxRecDepth 40000 in
theorem kfX1_18 : Cond.fieldLink RX1 18 "QlRewrite$Facts" "sources" "[I" ∈ qW := qw 96 rfl rfl
set_option maxRecDepth 40000 in
theorem kfX1_21 : Cond.fieldLink RX1 21 "QlRewrite$Facts" "starts" "[I" ∈ qW := qw 98 rfl rfl
set_option maxRecDepth 40000 in
theorem kfX1_24 : Cond.fieldLink RX1 24 "QlRewrite$Facts" "ends" "[I" ∈ qW := qw 100 rfl rfl
set_option maxRecDepth 40000 in
theorem kfX2_18 : Cond.fieldLink RX2 18 "QlRewrite$Finder" "things" "[I" ∈ qW := qw 249 rfl rfl
set_option maxRecDepth 40000 in
theorem kfX2_12 : Cond.fieldLink RX2 12 "QlRewrite$Finder" "form" "LQlRewrite$Form;" ∈ qW := qw 248 rfl rfl
set_option maxRecDepth 40000 in
theorem kfX2_68 : Cond.fieldLink RX2 68 "QlRewrite$Form" "size" "I" ∈ qW := qw 142 rfl rfl
set_option maxRecDepth 40000 in
theorem kfX2_69 : Cond.fieldLink RX2 69 "QlRewrite$Form" "names" "[I" ∈ qW := qw 131 rfl rfl
set_option maxRecDepth 40000 in
theorem kfX2_22 : Cond.fieldLink RX2 22 "QlRewrite$Finder" "facts" "LQlRewrite$Facts;" ∈ qW := qw 247 rfl rfl
set_option maxRecDepth 40000 in
theorem kfX2_77 : Cond.fieldLink RX2 77 "QlRewrite$Facts" "starts" "[I" ∈ qW := qw 99 rfl rfl
set_option maxRecDepth 40000 in
theorem kfX2_72 : Cond.fieldLink RX2 72 "QlRewrite$Facts" "members" "[I" ∈ qW := qw 93 rfl rfl
set_option maxRecDepth 40000 in
theorem kfX2_94 : Cond.fieldLink RX2 94 "QlRewrite$Form" "places" "[I" ∈ qW := qw 138 rfl rfl
set_option maxRecDepth 40000 in
theorem kmX2_100 : Cond.methodLink RX2 100 yX2_thingOf ∈ qW := qw 515 rfl rfl
set_option maxRecDepth 40000 in
theorem kfX2_109 : Cond.fieldLink RX2 109 "QlRewrite$Facts" "targets" "[I" ∈ qW := qw 95 rfl rfl
set_option maxRecDepth 40000 in
theorem kfX2_106 : Cond.fieldLink RX2 106 "QlRewrite$Facts" "ends" "[I" ∈ qW := qw 101 rfl rfl
set_option maxRecDepth 40000 in
theorem kfX2_103 : Cond.fieldLink RX2 103 "QlRewrite$Facts" "sources" "[I" ∈ qW := qw 97 rfl rfl
set_option maxRecDepth 40000 in
theorem kmX2_97 : Cond.methodLink RX2 97 yX1_loops ∈ qW := qw 511 rfl rfl
abbrev rm_c_Facts_put : Room := { frames := 1, cells := 0, slots := 0, locals := 22 }
set_option maxHeartbeats 4000000 in
set_option maxRecDepth 100000 in
theorem c_Facts_put (l : Launch) (dC : Nat → ClassId) (dI : Nat → Nat → Nat) (cI cL cQ cZ : ClassId) (h0 : Nat) (m1 : Nat) (t1 : Nat) (s1 : Nat) (st1 : Nat) (e1 : Nat) (fs : Nat) (mb : Nat → Nat) (tg : Nat → Nat) (sr : Nat → Nat) (sta : Nat → Nat) (en : Nat → Nat) (ro : Bool) (x : Nat) (a : Nat) (b : Int32) (ad : Bool) (hx9 : x < if ro = true then 8 else 10) (ha9 : a < 12) (hb9 : ro = true → ∃ j, j < 12 ∧ b = nI j) (hfs : ad = false → 0 < fs) (hmb : ∀ j, mb j < 4096) (htg : ∀ j, tg j < 4096) (hsr : ∀ j, sr j < 4096) (hsta : ∀ j, sta j < 4096) (hen : ∀ j, en j < 4096) : Met l yX1_put wkX1_put rm_c_Facts_put (q_W (dC, dI) qCl (qT cI cL cQ cZ) [(h0, .inr (1, [.ref m1, .ref t1, .ref s1, .ref st1, .ref e1, .int (nI (fs))])), (m1, .inl (cI, 10, .inl (nF mb))), (t1, .inl (cI, 96, .inl (nF tg))), (s1, .inl (cI, 96, .inl (nF sr))), (st1, .inl (cI, 8, .inl (nF sta))), (e1, .inl (cI, 8, .inl (nF en)))] [.ref h0, .int (bI (ro)), .int (nI (x)), .int (nI (a)), .int (b), .int (bI (ad))]) (va_Qv (fun (u : (Nat → Nat) × (Nat → Nat) × (Nat → Nat) × (Nat → Nat) × (Nat → Nat)) => (f_fput ro mb tg sr sta en x a b ad u.1 u.2.1 u.2.2.1 u.2.2.2.1 u.2.2.2.2)) (fun (u : (Nat → Nat) × (Nat → Nat) × (Nat → Nat) × (Nat → Nat) × (Nat → Nat)) t => va_P (dC, dI) qCl [(h0, .inr (1, [.ref m1, .ref t1, .ref s1, .ref st1, .ref e1, .int (nI (if ad = true then fs + 1 else fs - 1))])), (m1, .inl (cI, 10, .inl (nF u.1))), (t1, .inl (cI, 96, .inl (nF u.2.1))), (s1, .inl (cI, 96, .inl (nF u.2.2.1))), (st1, .inl (cI, 8, .inl (nF u.2.2.2.1))), (e1, .inl (cI, 8, .inl (nF u.2.2.2.2)))] t.heap) (q_A [(h0, .inr (1, [.ref m1, .ref t1, .ref s1, .ref st1, .ref e1, .int (nI (fs))])), (m1, .inl (cI, 10, .inl (nF mb))), (t1, .inl (cI, 96, .inl (nF tg))), (s1, .inl (cI, 96, .inl (nF sr))), (st1, .inl (cI, 8, .inl (nF sta))), (e1, .inl (cI, 8, .inl (nF en)))])) 0 0 (q_A [(h0, .inr (1, [.ref m1, .ref t1, .ref s1, .ref st1, .ref e1, .int (nI (fs))])), (m1, .inl (cI, 10, .inl (nF mb))), (t1, .inl (cI, 96, .inl (nF tg))), (s1, .inl (cI, 96, .inl (nF sr))), (st1, .inl (cI, 8, .inl (nF sta))), (e1, .inl (cI, 8, .inl (nF en)))]) := by
  refine Met.ofW (cc := cX1_put) (maxL := 8) (ret := none) (by decide) rfl ?_
  intro p e s m args below meth c s₁ B hml hv
  obtain ⟨hargs, hP, hK, hD0⟩ := hv
  have hx := B.exec
  have hb := B.bytes
  have hr := B.returns
  have hts : ∀ w ∈ qW, w.before args s = true := fun w h => atoms_spec (ws := wkX1_put) B.pre w (List.mem_cons_of_mem _ h)
  have hown : s.vm.findClass RX1 = some m.cls := findClass_of_methodNamed B.named
  have hlocks := B.notSynchronized
  refine q_named (fun Q hQ => ?_)
  have hD : va_D (q_A [(h0, .inr (1, [.ref m1, .ref t1, .ref s1, .ref st1, .ref e1, .int (nI (fs))])), (m1, .inl (cI, 10, .inl (nF mb))), (t1, .inl (cI, 96, .inl (nF tg))), (s1, .inl (cI, 96, .inl (nF sr))), (st1, .inl (cI, 8, .inl (nF sta))), (e1, .inl (cI, 8, .inl (nF en)))]) [(h0, .inr (1, [.ref m1, .ref t1, .ref s1, .ref st1, .ref e1, .int (nI (fs))])), (m1, .inl (cI, 10, .inl (nF mb))), (t1, .inl (cI, 96, .inl (nF tg))), (s1, .inl (cI, 96, .inl (nF sr))), (st1, .inl (cI, 8, .inl (nF sta))), (e1, .inl (cI, 8, .inl (nF en)))] := ⟨hD0.1, fun k q h => ⟨k, q.2, h⟩⟩
  generalize hAe : q_A [(h0, .inr (1, [.ref m1, .ref t1, .ref s1, .ref st1, .ref e1, .int (nI (fs))])), (m1, .inl (cI, 10, .inl (nF mb))), (t1, .inl (cI, 96, .inl (nF tg))), (s1, .inl (cI, 96, .inl (nF sr))), (st1, .inl (cI, 8, .inl (nF sta))), (e1, .inl (cI, 8, .inl (nF en)))] = A at hD
  have hS : va_S A s.heap s.heap [] := va_S.rf
  refine q_entry hargs (Nat.le_of_ble_eq_true rfl) (fun ls hl => ?_)
  have hl : lv_has ls 8 [(0, .ref h0), (1, .int (bI (ro))), (2, .int (nI (x))), (3, .int (nI (a))), (4, .int (b)), (5, .int (bI (ad)))] := hl
  obtain ⟨H, locs, eH, eL⟩ : ∃ (H : Heap) (locs : List Loc), s.heap = H ∧ ([] : List Loc) = locs := ⟨_, _, rfl, rfl⟩
  have hS : va_S A s.heap H locs := by rw [← eH, ← eL]; exact hS
  have hP : va_P (dC, dI) qCl [(h0, .inr (1, [.ref m1, .ref t1, .ref s1, .ref st1, .ref e1, .int (nI (fs))])), (m1, .inl (cI, 10, .inl (nF mb))), (t1, .inl (cI, 96, .inl (nF tg))), (s1, .inl (cI, 96, .inl (nF sr))), (st1, .inl (cI, 8, .inl (nF sta))), (e1, .inl (cI, 8, .inl (nF en)))] H := by rw [← eH]; exact hP
  refine W_at eH eL ?_
  refine lv_iload_n hx hb dX1_put_0 rfl (lv_at hl 1 rfl) ?_
  refine q_ifb_eq (b := ro) (tgt := 128) hx hb dX1_put_1 (by decide) (fun c1_1 => ?_) (fun c1_1 => ?_)
  · rw [if_neg (by simp_all)] at hx9
    refine lv_aload_n hx hb dX1_put_128 rfl (lv_at hl 0 rfl) ?_
    refine va_get (D := (dC, dI)) (ci := 1) (v := .ref m1) (C := RX1) (T := TX1) (N := 6) hx hb hts uX1 hown hK hP 0 rfl rfl 0 (by decide) (hts _ kfX1_9) (fun _ h9 => h9) rfl dX1_put_129 ?_
    refine lv_iload_n hx hb dX1_put_132 rfl (lv_at hl 2 rfl) ?_
    refine lv_aload_n hx hb dX1_put_133 rfl (lv_at hl 0 rfl) ?_
    refine va_get (D := (dC, dI)) (ci := 1) (v := .ref m1) (C := RX1) (T := TX1) (N := 6) hx hb hts uX1 hown hK hP 0 rfl rfl 0 (by decide) (hts _ kfX1_9) (fun _ h9 => h9) rfl dX1_put_134 ?_
    refine lv_iload_n hx hb dX1_put_137 rfl (lv_at hl 2 rfl) ?_
    refine q_ialdN hx hb hK hP 1 0 rfl rfl (j := x) (by omega) (by omega) dX1_put_138 ?_
    have bd2 := hmb x
    refine lv_iload_n hx hb dX1_put_139 rfl (lv_at hl 3 rfl) ?_
    refine lv_iload hx hb dX1_put_140 (lv_at hl 5 rfl) ?_
    refine vp_callSi (va_Run.run (va_runS (As := [.int (nI (mb x)), .int (nI (a)), .int (bI (ad))]) (rest := [.int (nI (x)), .ref m1]) ⟨hx, hb, hml, hown, hts⟩ (c_Facts_changed l dC dI cI cL cQ cZ (mb x) a ad (show (mb x) < 4096 from by first | assumption | omega) (show a < 12 from by first | assumption | omega)) (q_cwS 3 hts gkX1_changed kmX1_35 ksX1_changed kiX1 rfl rfl rfl (by decide +kernel) ⟨Nat.le_of_ble_eq_true rfl, Nat.le_of_ble_eq_true rfl⟩) (q_preS hK hP [] rfl) rfl rfl hl.1 rfl (lv_room (Nat.le_of_ble_eq_true rfl)) dX1_put_142 ⟨Nat.zero_le _, Nat.zero_le _⟩)) (fun r3 hr3 => ?_)
    subst hr3
    refine q_iastN hx hb hK hP hD hS 1 0 rfl rfl (j := x) (x := f_chg (mb x) a ad) (by omega) (by omega) dX1_put_145 (fun H locs hP hD hS => ?_)
    have hP : va_P (dC, dI) qCl [(h0, .inr (1, [.ref m1, .ref t1, .ref s1, .ref st1, .ref e1, .int (nI (fs))])), (m1, .inl (cI, 10, .inl (nF (va_up mb x (f_chg (mb x) a ad))))), (t1, .inl (cI, 96, .inl (nF tg))), (s1, .inl (cI, 96, .inl (nF sr))), (st1, .inl (cI, 8, .inl (nF sta))), (e1, .inl (cI, 8, .inl (nF en)))] H := hP
    have hD : va_D A [(h0, .inr (1, [.ref m1, .ref t1, .ref s1, .ref st1, .ref e1, .int (nI (fs))])), (m1, .inl (cI, 10, .inl (nF (va_up mb x (f_chg (mb x) a ad))))), (t1, .inl (cI, 96, .inl (nF tg))), (s1, .inl (cI, 96, .inl (nF sr))), (st1, .inl (cI, 8, .inl (nF sta))), (e1, .inl (cI, 8, .inl (nF en)))] := hD
    refine lv_aload_n hx hb dX1_put_146 rfl (lv_at hl 0 rfl) ?_
    refine lv_dup hx hb dX1_put_147 rfl ?_
    refine va_get (D := (dC, dI)) (ci := 1) (v := .int (nI (fs))) (C := RX1) (T := TX1) (N := 6) hx hb hts uX1 hown hK hP 0 rfl rfl 5 (by decide) (hts _ kfX1_27) (fun _ h9 => h9) rfl dX1_put_148 ?_
    refine lv_iload hx hb dX1_put_151 (lv_at hl 5 rfl) ?_
    refine q_ifb_eq (b := ad) (tgt := 160) hx hb dX1_put_153 (by decide) (fun c153_4 => ?_) (fun c153_4 => ?_)
    · refine lv_iconst (v := (oI (none))) hx hb dX1_put_160 (by decide) ?_
      refine lv_iadd hx hb dX1_put_161 ?_
      refine q_top (show ((nI (fs)) + (oI (none))) = (nI (fs - 1)) from (nI_m1 (hfs (by assumption)))) ?_
      refine va_put (D := (dC, dI)) (ci := 1) (v := .int (nI (fs - 1))) (ty := .int) (C := RX1) (T := TX1) (N := 6) hx hb hts uX1 tyX1 tyX1_ok nmX1 hown hK hP hD hS 0 rfl rfl 5 (by decide) (hts _ kfX1_27) (fun _ h9 => h9) rfl (by decide +kernel) (rfl) (rfl) (Nat.le_of_ble_eq_true rfl) dX1_put_162 (fun H locs hP hD hS => ?_)
      have hP : va_P (dC, dI) qCl [(h0, .inr (1, [.ref m1, .ref t1, .ref s1, .ref st1, .ref e1, .int (nI (fs - 1))])), (m1, .inl (cI, 10, .inl (nF (va_up mb x (f_chg (mb x) a ad))))), (t1, .inl (cI, 96, .inl (nF tg))), (s1, .inl (cI, 96, .inl (nF sr))), (st1, .inl (cI, 8, .inl (nF sta))), (e1, .inl (cI, 8, .inl (nF en)))] H := hP
      have hD : va_D A [(h0, .inr (1, [.ref m1, .ref t1, .ref s1, .ref st1, .ref e1, .int (nI (fs - 1))])), (m1, .inl (cI, 10, .inl (nF (va_up mb x (f_chg (mb x) a ad))))), (t1, .inl (cI, 96, .inl (nF tg))), (s1, .inl (cI, 96, .inl (nF sr))), (st1, .inl (cI, 8, .inl (nF sta))), (e1, .inl (cI, 8, .inl (nF en)))] := hD
      have ef5 : (.int (nI (fs - 1)) : Value) = .int (nI (if ad = true then fs + 1 else fs - 1)) := by (simp [*])
      rw [ef5] at hP hD
      have hP : va_P (dC, dI) qCl [(h0, .inr (1, [.ref m1, .ref t1, .ref s1, .ref st1, .ref e1, .int (nI (if ad = true then fs + 1 else fs - 1))])), (m1, .inl (cI, 10, .inl (nF (va_up mb x (f_chg (mb x) a ad))))), (t1, .inl (cI, 96, .inl (nF tg))), (s1, .inl (cI, 96, .inl (nF sr))), (st1, .inl (cI, 8, .inl (nF sta))), (e1, .inl (cI, 8, .inl (nF en)))] H := hP
      have hD : va_D A [(h0, .inr (1, [.ref m1, .ref t1, .ref s1, .ref st1, .ref e1, .int (nI (if ad = true then fs + 1 else fs - 1))])), (m1, .inl (cI, 10, .inl (nF (va_up mb x (f_chg (mb x) a ad))))), (t1, .inl (cI, 96, .inl (nF tg))), (s1, .inl (cI, 96, .inl (nF sr))), (st1, .inl (cI, 8, .inl (nF sta))), (e1, .inl (cI, 8, .inl (nF en)))] := hD
      subst hQ
      subst hAe
      have hP9 := hP.sub (ws' := [(h0, .inr (1, [.ref m1, .ref t1, .ref s1, .ref st1, .ref e1, .int (nI (if ad = true then fs + 1 else fs - 1))])), (m1, .inl (cI, 10, .inl (nF (va_up mb x (f_chg (mb x) a ad))))), (t1, .inl (cI, 96, .inl (nF tg))), (s1, .inl (cI, 96, .inl (nF sr))), (st1, .inl (cI, 8, .inl (nF sta))), (e1, .inl (cI, 8, .inl (nF en)))]) [0, 1, 2, 3, 4, 5] rfl
      exact W.vret hx hb hr (fun t9 h9 _ => ⟨⟨(va_up mb x (f_chg (mb x) a ad), tg, sr, sta, en), rfl, (show f_fput ro mb tg sr sta en x a b ad (va_up mb x (f_chg (mb x) a ad)) tg sr sta en from by (first | (rw [f_fput, if_pos (by assumption), ebj, nI_clamp (by omega)]; exact ⟨rfl, rfl, rfl, congrArg (va_up sta x) (congrArg (f_chg (sta x) a) (by (symm; first | exact decide_eq_true (by omega) | exact decide_eq_false (by omega)))), congrArg (va_up en x) (congrArg (f_chg (en x) bj) (by (symm; first | exact decide_eq_true (by omega) | exact decide_eq_false (by omega))))⟩) | (rw [f_fput, if_neg (by simp_all)]; exact ⟨rfl, rfl, rfl, rfl, rfl⟩))), by show va_P _ _ _ t9.heap; rw [h9]; exact hP9⟩, hS.F h9⟩) hS.2.2 dX1_put_165
    · refine lv_iconst (v := (nI (1))) hx hb dX1_put_156 (by decide) ?_
      refine lv_goto (tgt := 161) hx hb dX1_put_157 (by decide) ?_
      refine q_iadd (x := fs) (y := 1) hx hb dX1_put_161 ?_
      refine va_put (D := (dC, dI)) (ci := 1) (v := .int (nI (fs + 1))) (ty := .int) (C := RX1) (T := TX1) (N := 6) hx hb hts uX1 tyX1 tyX1_ok nmX1 hown hK hP hD hS 0 rfl rfl 5 (by decide) (hts _ kfX1_27) (fun _ h9 => h9) rfl (by decide +kernel) (rfl) (rfl) (Nat.le_of_ble_eq_true rfl) dX1_put_162 (fun H locs hP hD hS => ?_)
      have hP : va_P (dC, dI) qCl [(h0, .inr (1, [.ref m1, .ref t1, .ref s1, .ref st1, .ref e1, .int (nI (fs + 1))])), (m1, .inl (cI, 10, .inl (nF (va_up mb x (f_chg (mb x) a ad))))), (t1, .inl (cI, 96, .inl (nF tg))), (s1, .inl (cI, 96, .inl (nF sr))), (st1, .inl (cI, 8, .inl (nF sta))), (e1, .inl (cI, 8, .inl (nF en)))] H := hP
      have hD : va_D A [(h0, .inr (1, [.ref m1, .ref t1, .ref s1, .ref st1, .ref e1, .int (nI (fs + 1))])), (m1, .inl (cI, 10, .inl (nF (va_up mb x (f_chg (mb x) a ad))))), (t1, .inl (cI, 96, .inl (nF tg))), (s1, .inl (cI, 96, .inl (nF sr))), (st1, .inl (cI, 8, .inl (nF sta))), (e1, .inl (cI, 8, .inl (nF en)))] := hD
      have ef6 : (.int (nI (fs + 1)) : Value) = .int (nI (if ad = true then fs + 1 else fs - 1)) := by (simp [*])
      rw [ef6] at hP hD
      have hP : va_P (dC, dI) qCl [(h0, .inr (1, [.ref m1, .ref t1, .ref s1, .ref st1, .ref e1, .int (nI (if ad = true then fs + 1 else fs - 1))])), (m1, .inl (cI, 10, .inl (nF (va_up mb x (f_chg (mb x) a ad))))), (t1, .inl (cI, 96, .inl (nF tg))), (s1, .inl (cI, 96, .inl (nF sr))), (st1, .inl (cI, 8, .inl (nF sta))), (e1, .inl (cI, 8, .inl (nF en)))] H := hP
      have hD : va_D A [(h0, .inr (1, [.ref m1, .ref t1, .ref s1, .ref st1, .ref e1, .int (nI (if ad = true then fs + 1 else fs - 1))])), (m1, .inl (cI, 10, .inl (nF (va_up mb x (f_chg (mb x) a ad))))), (t1, .inl (cI, 96, .inl (nF tg))), (s1, .inl (cI, 96, .inl (nF sr))), (st1, .inl (cI, 8, .inl (nF sta))), (e1, .inl (cI, 8, .inl (nF en)))] := hD
      subst hQ
      subst hAe
      have hP9 := hP.sub (ws' := [(h0, .inr (1, [.ref m1, .ref t1, .ref s1, .ref st1, .ref e1, .int (nI (if ad = true then fs + 1 else fs - 1))])), (m1, .inl (cI, 10, .inl (nF (va_up mb x (f_chg (mb x) a ad))))), (t1, .inl (cI, 96, .inl (nF tg))), (s1, .inl (cI, 96, .inl (nF sr))), (st1, .inl (cI, 8, .inl (nF sta))), (e1, .inl (cI, 8, .inl (nF en)))]) [0, 1, 2, 3, 4, 5] rfl
      exact W.vret hx hb hr (fun t9 h9 _ => ⟨⟨(va_up mb x (f_chg (mb x) a ad), tg, sr, sta, en), rfl, (show f_fput ro mb tg sr sta en x a b ad (va_up mb x (f_chg (mb x) a ad)) tg sr sta en from by (first | (rw [f_fput, if_pos (by assumption), ebj, nI_clamp (by omega)]; exact ⟨rfl, rfl, rfl, congrArg (va_up sta x) (congrArg (f_chg (sta x) a) (by (symm; first | exact decide_eq_true (by omega) | exact decide_eq_false (by omega)))), congrArg (va_up en x) (congrArg (f_chg (en x) bj) (by (symm; first | exact decide_eq_true (by omega) | exact decide_eq_false (by omega))))⟩) | (rw [f_fput, if_neg (by simp_all)]; exact ⟨rfl, rfl, rfl, rfl, rfl⟩))), by show va_P _ _ _ t9.heap; rw [h9]; exact hP9⟩, hS.F h9⟩) hS.2.2 dX1_put_165
  · rw [if_pos (by assumption)] at hx9
    obtain ⟨bj, hbj, ebj⟩ := hb9 (by assumption)
    have hl := lv_updv hl 4 rfl (show (.int (b) : Value) = .int (nI (bj)) from (congrArg Value.int ebj))
    have hl : lv_has ls 8 [(0, .ref h0), (1, .int (bI (ro))), (2, .int (nI (x))), (3, .int (nI (a))), (4, .int (nI (bj))), (5, .int (bI (ad)))] := hl
    refine lv_iload_n hx hb dX1_put_4 rfl (lv_at hl 2 rfl) ?_
    refine lv_bipush (v := (nI (12))) hx hb dX1_put_5 (by decide) ?_
    refine q_imul (x := x) (y := 12) hx hb dX1_put_7 ?_
    refine lv_iload_n hx hb dX1_put_8 rfl (lv_at hl 3 rfl) ?_
    refine q_iadd (x := x * 12) (y := a) hx hb dX1_put_9 ?_
    refine lv_istore (lv' := [(6, .int (nI ((x * 12) + a))), (0, .ref h0), (1, .int (bI (ro))), (2, .int (nI (x))), (3, .int (nI (a))), (4, .int (nI (bj))), (5, .int (bI (ad)))]) hx hb dX1_put_10 hl (by decide) rfl (fun ls hl => ?_)
    refine lv_iload_n hx hb dX1_put_12 rfl (lv_at hl 3 rfl) ?_
    refine lv_bipush (v := (nI (12))) hx hb dX1_put_13 (by decide) ?_
    refine q_imul (x := x) (y := 12) hx hb dX1_put_15 ?_
    refine lv_iload hx hb dX1_put_16 (lv_at hl 5 rfl) ?_
    refine q_iadd (x := x * 12) (y := bj) hx hb dX1_put_18 ?_
    refine lv_istore (lv' := [(7, .int (nI ((x * 12) + bj))), (6, .int (nI ((x * 12) + a))), (0, .ref h0), (1, .int (bI (ro))), (2, .int (nI (x))), (3, .int (nI (a))), (4, .int (nI (bj))), (5, .int (bI (ad)))]) hx hb dX1_put_19 hl (by decide) rfl (fun ls hl => ?_)
    refine lv_aload_n hx hb dX1_put_21 rfl (lv_at hl 2 rfl) ?_
    refine va_get (D := (dC, dI)) (ci := 1) (v := .ref t1) (C := RX1) (T := TX1) (N := 6) hx hb hts uX1 hown hK hP 0 rfl rfl 1 (by decide) (hts _ kfX1_15) (fun _ h9 => h9) rfl dX1_put_22 ?_
    refine lv_iload hx hb dX1_put_25 (lv_at hl 1 rfl) ?_
    refine lv_aload_n hx hb dX1_put_27 rfl (lv_at hl 2 rfl) ?_
    refine va_get (D := (dC, dI)) (ci := 1) (v := .ref t1) (C := RX1) (T := TX1) (N := 6) hx hb hts uX1 hown hK hP 0 rfl rfl 1 (by decide) (hts _ kfX1_15) (fun _ h9 => h9) rfl dX1_put_28 ?_
    refine lv_iload hx hb dX1_put_31 (lv_at hl 1 rfl) ?_
    refine q_ialdN hx hb hK hP 2 0 rfl rfl (j := (x * 12) + a) (by omega) (by omega) dX1_put_33 ?_
    have bd7 := htg ((x * 12) + a)
    refine lv_iload hx hb dX1_put_34 (lv_at hl 6 rfl) ?_
    refine lv_iload hx hb dX1_put_36 (lv_at hl 7 rfl) ?_
    refine vp_callSi (va_Run.run (va_runS (As := [.int (nI (tg ((x * 12) + a))), .int (nI (bj)), .int (bI (ad))]) (rest := [.int (nI ((x * 12) + a)), .ref t1]) ⟨hx, hb, hml, hown, hts⟩ (c_Facts_changed l dC dI cI cL cQ cZ (tg ((x * 12) + a)) bj ad (show (tg ((x * 12) + a)) < 4096 from by first | assumption | omega) (show bj < 12 from by first | assumption | omega)) (q_cwS 3 hts gkX1_changed kmX1_35 ksX1_changed kiX1 rfl rfl rfl (by decide +kernel) ⟨Nat.le_of_ble_eq_true rfl, Nat.le_of_ble_eq_true rfl⟩) (q_preS hK hP [] rfl) rfl rfl hl.1 rfl (lv_room (Nat.le_of_ble_eq_true rfl)) dX1_put_38 ⟨Nat.zero_le _, Nat.zero_le _⟩)) (fun r8 hr8 => ?_)
    subst hr8
    refine q_iastN hx hb hK hP hD hS 2 0 rfl rfl (j := (x * 12) + a) (x := f_chg (tg ((x * 12) + a)) bj ad) (by omega) (by omega) dX1_put_41 (fun H locs hP hD hS => ?_)
    have hP : va_P (dC, dI) qCl [(h0, .inr (1, [.ref m1, .ref t1, .ref s1, .ref st1, .ref e1, .int (nI (fs))])), (m1, .inl (cI, 10, .inl (nF mb))), (t1, .inl (cI, 96, .inl (nF (va_up tg ((x * 12) + a) (f_chg (tg ((x * 12) + a)) bj ad))))), (s1, .inl (cI, 96, .inl (nF sr))), (st1, .inl (cI, 8, .inl (nF sta))), (e1, .inl (cI, 8, .inl (nF en)))] H := hP
    have hD : va_D A [(h0, .inr (1, [.ref m1, .ref t1, .ref s1, .ref st1, .ref e1, .int (nI (fs))])), (m1, .inl (cI, 10, .inl (nF mb))), (t1, .inl (cI, 96, .inl (nF (va_up tg ((x * 12) + a) (f_chg (tg ((x * 12) + a)) bj ad))))), (s1, .inl (cI, 96, .inl (nF sr))), (st1, .inl (cI, 8, .inl (nF sta))), (e1, .inl (cI, 8, .inl (nF en)))] := hD
    refine lv_aload_n hx hb dX1_put_42 rfl (lv_at hl 2 rfl) ?_
    refine va_get (D := (dC, dI)) (ci := 1) (v := .ref s1) (C := RX1) (T := TX1) (N := 6) hx hb hts uX1 hown hK hP 0 rfl rfl 2 (by decide) (hts _ kfX1_18) (fun _ h9 => h9) rfl dX1_put_43 ?_
    refine lv_iload hx hb dX1_put_46 (lv_at hl 0 rfl) ?_
    refine lv_aload_n hx hb dX1_put_48 rfl (lv_at hl 2 rfl) ?_
    refine va_get (D := (dC, dI)) (ci := 1) (v := .ref s1) (C := RX1) (T := TX1) (N := 6) hx hb hts uX1 hown hK hP 0 rfl rfl 2 (by decide) (hts _ kfX1_18) (fun _ h9 => h9) rfl dX1_put_49 ?_
    refine lv_iload hx hb dX1_put_52 (lv_at hl 0 rfl) ?_
    refine q_ialdN hx hb hK hP 3 0 rfl rfl (j := (x * 12) + bj) (by omega) (by omega) dX1_put_54 ?_
    have bd9 := hsr ((x * 12) + bj)
    refine lv_iload_n hx hb dX1_put_55 rfl (lv_at hl 5 rfl) ?_
    refine lv_iload hx hb dX1_put_56 (lv_at hl 7 rfl) ?_
    refine vp_callSi (va_Run.run (va_runS (As := [.int (nI (sr ((x * 12) + bj))), .int (nI (a)), .int (bI (ad))]) (rest := [.int (nI ((x * 12) + bj)), .ref s1]) ⟨hx, hb, hml, hown, hts⟩ (c_Facts_changed l dC dI cI cL cQ cZ (sr ((x * 12) + bj)) a ad (show (sr ((x * 12) + bj)) < 4096 from by first | assumption | omega) (show a < 12 from by first | assumption | omega)) (q_cwS 3 hts gkX1_changed kmX1_35 ksX1_changed kiX1 rfl rfl rfl (by decide +kernel) ⟨Nat.le_of_ble_eq_true rfl, Nat.le_of_ble_eq_true rfl⟩) (q_preS hK hP [] rfl) rfl rfl hl.1 rfl (lv_room (Nat.le_of_ble_eq_true rfl)) dX1_put_58 ⟨Nat.zero_le _, Nat.zero_le _⟩)) (fun r10 hr10 => ?_)
    subst hr10
    refine q_iastN hx hb hK hP hD hS 3 0 rfl rfl (j := (x * 12) + bj) (x := f_chg (sr ((x * 12) + bj)) a ad) (by omega) (by omega) dX1_put_61 (fun H locs hP hD hS => ?_)
    have hP : va_P (dC, dI) qCl [(h0, .inr (1, [.ref m1, .ref t1, .ref s1, .ref st1, .ref e1, .int (nI (fs))])), (m1, .inl (cI, 10, .inl (nF mb))), (t1, .inl (cI, 96, .inl (nF (va_up tg ((x * 12) + a) (f_chg (tg ((x * 12) + a)) bj ad))))), (s1, .inl (cI, 96, .inl (nF (va_up sr ((x * 12) + bj) (f_chg (sr ((x * 12) + bj)) a ad))))), (st1, .inl (cI, 8, .inl (nF sta))), (e1, .inl (cI, 8, .inl (nF en)))] H := hP
    have hD : va_D A [(h0, .inr (1, [.ref m1, .ref t1, .ref s1, .ref st1, .ref e1, .int (nI (fs))])), (m1, .inl (cI, 10, .inl (nF mb))), (t1, .inl (cI, 96, .inl (nF (va_up tg ((x * 12) + a) (f_chg (tg ((x * 12) + a)) bj ad))))), (s1, .inl (cI, 96, .inl (nF (va_up sr ((x * 12) + bj) (f_chg (sr ((x * 12) + bj)) a ad))))), (st1, .inl (cI, 8, .inl (nF sta))), (e1, .inl (cI, 8, .inl (nF en)))] := hD
    refine lv_aload_n hx hb dX1_put_62 rfl (lv_at hl 2 rfl) ?_
    refine va_get (D := (dC, dI)) (ci := 1) (v := .ref st1) (C := RX1) (T := TX1) (N := 6) hx hb hts uX1 hown hK hP 0 rfl rfl 3 (by decide) (hts _ kfX1_21) (fun _ h9 => h9) rfl dX1_put_63 ?_
    refine lv_iload_n hx hb dX1_put_66 rfl (lv_at hl 4 rfl) ?_
    refine lv_aload_n hx hb dX1_put_67 rfl (lv_at hl 2 rfl) ?_
    refine va_get (D := (dC, dI)) (ci := 1) (v := .ref st1) (C := RX1) (T := TX1) (N := 6) hx hb hts uX1 hown hK hP 0 rfl rfl 3 (by decide) (hts _ kfX1_21) (fun _ h9 => h9) rfl dX1_put_68 ?_
    refine lv_iload_n hx hb dX1_put_71 rfl (lv_at hl 4 rfl) ?_
    refine q_ialdN hx hb hK hP 4 0 rfl rfl (j := x) (by omega) (by omega) dX1_put_72 ?_
    have bd11 := hsta x
    refine lv_iload_n hx hb dX1_put_73 rfl (lv_at hl 5 rfl) ?_
    refine lv_aload_n hx hb dX1_put_74 rfl (lv_at hl 2 rfl) ?_
    refine va_get (D := (dC, dI)) (ci := 1) (v := .ref t1) (C := RX1) (T := TX1) (N := 6) hx hb hts uX1 hown hK hP 0 rfl rfl 1 (by decide) (hts _ kfX1_15) (fun _ h9 => h9) rfl dX1_put_75 ?_
    refine lv_iload hx hb dX1_put_78 (lv_at hl 1 rfl) ?_
    refine q_ialdN hx hb hK hP 2 0 rfl rfl (j := (x * 12) + a) (by omega) (by omega) dX1_put_80 ?_
    refine q_top (show (nI ((va_up tg ((x * 12) + a) (f_chg (tg ((x * 12) + a)) bj ad)) ((x * 12) + a))) = (nI (f_chg (tg (x * 12 + a)) bj ad)) from (congrArg nI (up_s _ _ _))) ?_
    have hq1 := f_chg_lt ad (htg (x * 12 + a)) hbj
    refine q_if_eq (x := f_chg (tg (x * 12 + a)) bj ad) (tgt := 88) hx hb dX1_put_81 (by decide) (by omega) (fun c81_12 => ?_) (fun c81_12 => ?_)
    · refine lv_iconst (v := (nI (0))) hx hb dX1_put_88 (by decide) ?_
      refine vp_callSi (va_Run.run (va_runS (As := [.int (nI (sta x)), .int (nI (a)), .int (nI (0))]) (rest := [.int (nI (x)), .ref st1]) ⟨hx, hb, hml, hown, hts⟩ (c_Facts_changed l dC dI cI cL cQ cZ (sta x) a false (show (sta x) < 4096 from by first | assumption | omega) (show a < 12 from by first | assumption | omega)) (q_cwS 3 hts gkX1_changed kmX1_35 ksX1_changed kiX1 rfl rfl rfl (by decide +kernel) ⟨Nat.le_of_ble_eq_true rfl, Nat.le_of_ble_eq_true rfl⟩) (q_preS hK hP [] rfl) rfl rfl hl.1 rfl (lv_room (Nat.le_of_ble_eq_true rfl)) dX1_put_89 ⟨Nat.zero_le _, Nat.zero_le _⟩)) (fun r13 hr13 => ?_)
      subst hr13
      refine q_iastN hx hb hK hP hD hS 4 0 rfl rfl (j := x) (x := f_chg (sta x) a false) (by omega) (by omega) dX1_put_92 (fun H locs hP hD hS => ?_)
      have hP : va_P (dC, dI) qCl [(h0, .inr (1, [.ref m1, .ref t1, .ref s1, .ref st1, .ref e1, .int (nI (fs))])), (m1, .inl (cI, 10, .inl (nF mb))), (t1, .inl (cI, 96, .inl (nF (va_up tg ((x * 12) + a) (f_chg (tg ((x * 12) + a)) bj ad))))), (s1, .inl (cI, 96, .inl (nF (va_up sr ((x * 12) + bj) (f_chg (sr ((x * 12) + bj)) a ad))))), (st1, .inl (cI, 8, .inl (nF (va_up sta x (f_chg (sta x) a false))))), (e1, .inl (cI, 8, .inl (nF en)))] H := hP
      have hD : va_D A [(h0, .inr (1, [.ref m1, .ref t1, .ref s1, .ref st1, .ref e1, .int (nI (fs))])), (m1, .inl (cI, 10, .inl (nF mb))), (t1, .inl (cI, 96, .inl (nF (va_up tg ((x * 12) + a) (f_chg (tg ((x * 12) + a)) bj ad))))), (s1, .inl (cI, 96, .inl (nF (va_up sr ((x * 12) + bj) (f_chg (sr ((x * 12) + bj)) a ad))))), (st1, .inl (cI, 8, .inl (nF (va_up sta x (f_chg (sta x) a false))))), (e1, .inl (cI, 8, .inl (nF en)))] := hD
      refine lv_aload_n hx hb dX1_put_93 rfl (lv_at hl 2 rfl) ?_
      refine va_get (D := (dC, dI)) (ci := 1) (v := .ref e1) (C := RX1) (T := TX1) (N := 6) hx hb hts uX1 hown hK hP 0 rfl rfl 4 (by decide) (hts _ kfX1_24) (fun _ h9 => h9) rfl dX1_put_94 ?_
      refine lv_iload_n hx hb dX1_put_97 rfl (lv_at hl 4 rfl) ?_
      refine lv_aload_n hx hb dX1_put_98 rfl (lv_at hl 2 rfl) ?_
      refine va_get (D := (dC, dI)) (ci := 1) (v := .ref e1) (C := RX1) (T := TX1) (N := 6) hx hb hts uX1 hown hK hP 0 rfl rfl 4 (by decide) (hts _ kfX1_24) (fun _ h9 => h9) rfl dX1_put_99 ?_
      refine lv_iload_n hx hb dX1_put_102 rfl (lv_at hl 4 rfl) ?_
      refine q_ialdN hx hb hK hP 5 0 rfl rfl (j := x) (by omega) (by omega) dX1_put_103 ?_
      have bd14 := hen x
      refine lv_iload hx hb dX1_put_104 (lv_at hl 6 rfl) ?_
      refine lv_aload_n hx hb dX1_put_106 rfl (lv_at hl 2 rfl) ?_
      refine va_get (D := (dC, dI)) (ci := 1) (v := .ref s1) (C := RX1) (T := TX1) (N := 6) hx hb hts uX1 hown hK hP 0 rfl rfl 2 (by decide) (hts _ kfX1_18) (fun _ h9 => h9) rfl dX1_put_107 ?_
      refine lv_iload hx hb dX1_put_110 (lv_at hl 0 rfl) ?_
      refine q_ialdN hx hb hK hP 3 0 rfl rfl (j := (x * 12) + bj) (by omega) (by omega) dX1_put_112 ?_
      refine q_top (show (nI ((va_up sr ((x * 12) + bj) (f_chg (sr ((x * 12) + bj)) a ad)) ((x * 12) + bj))) = (nI (f_chg (sr (x * 12 + bj)) a ad)) from (congrArg nI (up_s _ _ _))) ?_
      have hq2 := f_chg_lt ad (hsr (x * 12 + bj)) ha9
      refine q_if_eq (x := f_chg (sr (x * 12 + bj)) a ad) (tgt := 120) hx hb dX1_put_113 (by decide) (by omega) (fun c113_15 => ?_) (fun c113_15 => ?_)
      · refine lv_iconst (v := (nI (0))) hx hb dX1_put_120 (by decide) ?_
        refine vp_callSi (va_Run.run (va_runS (As := [.int (nI (en x)), .int (nI (bj)), .int (nI (0))]) (rest := [.int (nI (x)), .ref e1]) ⟨hx, hb, hml, hown, hts⟩ (c_Facts_changed l dC dI cI cL cQ cZ (en x) bj false (show (en x) < 4096 from by first | assumption | omega) (show bj < 12 from by first | assumption | omega)) (q_cwS 3 hts gkX1_changed kmX1_35 ksX1_changed kiX1 rfl rfl rfl (by decide +kernel) ⟨Nat.le_of_ble_eq_true rfl, Nat.le_of_ble_eq_true rfl⟩) (q_preS hK hP [] rfl) rfl rfl hl.1 rfl (lv_room (Nat.le_of_ble_eq_true rfl)) dX1_put_121 ⟨Nat.zero_le _, Nat.zero_le _⟩)) (fun r16 hr16 => ?_)
        subst hr16
        refine q_iastN hx hb hK hP hD hS 5 0 rfl rfl (j := x) (x := f_chg (en x) bj false) (by omega) (by omega) dX1_put_124 (fun H locs hP hD hS => ?_)
        have hP : va_P (dC, dI) qCl [(h0, .inr (1, [.ref m1, .ref t1, .ref s1, .ref st1, .ref e1, .int (nI (fs))])), (m1, .inl (cI, 10, .inl (nF mb))), (t1, .inl (cI, 96, .inl (nF (va_up tg ((x * 12) + a) (f_chg (tg ((x * 12) + a)) bj ad))))), (s1, .inl (cI, 96, .inl (nF (va_up sr ((x * 12) + bj) (f_chg (sr ((x * 12) + bj)) a ad))))), (st1, .inl (cI, 8, .inl (nF (va_up sta x (f_chg (sta x) a false))))), (e1, .inl (cI, 8, .inl (nF (va_up en x (f_chg (en x) bj false)))))] H := hP
        have hD : va_D A [(h0, .inr (1, [.ref m1, .ref t1, .ref s1, .ref st1, .ref e1, .int (nI (fs))])), (m1, .inl (cI, 10, .inl (nF mb))), (t1, .inl (cI, 96, .inl (nF (va_up tg ((x * 12) + a) (f_chg (tg ((x * 12) + a)) bj ad))))), (s1, .inl (cI, 96, .inl (nF (va_up sr ((x * 12) + bj) (f_chg (sr ((x * 12) + bj)) a ad))))), (st1, .inl (cI, 8, .inl (nF (va_up sta x (f_chg (sta x) a false))))), (e1, .inl (cI, 8, .inl (nF (va_up en x (f_chg (en x) bj false)))))] := hD
        refine lv_goto (tgt := 146) hx hb dX1_put_125 (by decide) ?_
        refine lv_aload_n hx hb dX1_put_146 rfl (lv_at hl 2 rfl) ?_
        refine lv_dup hx hb dX1_put_147 rfl ?_
        refine va_get (D := (dC, dI)) (ci := 1) (v := .int (nI (fs))) (C := RX1) (T := TX1) (N := 6) hx hb hts uX1 hown hK hP 0 rfl rfl 5 (by decide) (hts _ kfX1_27) (fun _ h9 => h9) rfl dX1_put_148 ?_
        refine lv_iload hx hb dX1_put_151 (lv_at hl 7 rfl) ?_
        refine q_ifb_eq (b := ad) (tgt := 160) hx hb dX1_put_153 (by decide) (fun c153_17 => ?_) (fun c153_17 => ?_)
        · refine lv_iconst (v := (oI (none))) hx hb dX1_put_160 (by decide) ?_
          refine lv_iadd hx hb dX1_put_161 ?_
          refine q_top (show ((nI (fs)) + (oI (none))) = (nI (fs - 1)) from (nI_m1 (hfs (by assumption)))) ?_
          refine va_put (D := (dC, dI)) (ci := 1) (v := .int (nI (fs - 1))) (ty := .int) (C := RX1) (T := TX1) (N := 6) hx hb hts uX1 tyX1 tyX1_ok nmX1 hown hK hP hD hS 0 rfl rfl 5 (by decide) (hts _ kfX1_27) (fun _ h9 => h9) rfl (by decide +kernel) (rfl) (rfl) (Nat.le_of_ble_eq_true rfl) dX1_put_162 (fun H locs hP hD hS => ?_)
          have hP : va_P (dC, dI) qCl [(h0, .inr (1, [.ref m1, .ref t1, .ref s1, .ref st1, .ref e1, .int (nI (fs - 1))])), (m1, .inl (cI, 10, .inl (nF mb))), (t1, .inl (cI, 96, .inl (nF (va_up tg ((x * 12) + a) (f_chg (tg ((x * 12) + a)) bj ad))))), (s1, .inl (cI, 96, .inl (nF (va_up sr ((x * 12) + bj) (f_chg (sr ((x * 12) + bj)) a ad))))), (st1, .inl (cI, 8, .inl (nF (va_up sta x (f_chg (sta x) a false))))), (e1, .inl (cI, 8, .inl (nF (va_up en x (f_chg (en x) bj false)))))] H := hP
          have hD : va_D A [(h0, .inr (1, [.ref m1, .ref t1, .ref s1, .ref st1, .ref e1, .int (nI (fs - 1))])), (m1, .inl (cI, 10, .inl (nF mb))), (t1, .inl (cI, 96, .inl (nF (va_up tg ((x * 12) + a) (f_chg (tg ((x * 12) + a)) bj ad))))), (s1, .inl (cI, 96, .inl (nF (va_up sr ((x * 12) + bj) (f_chg (sr ((x * 12) + bj)) a ad))))), (st1, .inl (cI, 8, .inl (nF (va_up sta x (f_chg (sta x) a false))))), (e1, .inl (cI, 8, .inl (nF (va_up en x (f_chg (en x) bj false)))))] := hD
          have ef18 : (.int (nI (fs - 1)) : Value) = .int (nI (if ad = true then fs + 1 else fs - 1)) := by (simp [*])
          rw [ef18] at hP hD
          have hP : va_P (dC, dI) qCl [(h0, .inr (1, [.ref m1, .ref t1, .ref s1, .ref st1, .ref e1, .int (nI (if ad = true then fs + 1 else fs - 1))])), (m1, .inl (cI, 10, .inl (nF mb))), (t1, .inl (cI, 96, .inl (nF (va_up tg ((x * 12) + a) (f_chg (tg ((x * 12) + a)) bj ad))))), (s1, .inl (cI, 96, .inl (nF (va_up sr ((x * 12) + bj) (f_chg (sr ((x * 12) + bj)) a ad))))), (st1, .inl (cI, 8, .inl (nF (va_up sta x (f_chg (sta x) a false))))), (e1, .inl (cI, 8, .inl (nF (va_up en x (f_chg (en x) bj false)))))] H := hP
          have hD : va_D A [(h0, .inr (1, [.ref m1, .ref t1, .ref s1, .ref st1, .ref e1, .int (nI (if ad = true then fs + 1 else fs - 1))])), (m1, .inl (cI, 10, .inl (nF mb))), (t1, .inl (cI, 96, .inl (nF (va_up tg ((x * 12) + a) (f_chg (tg ((x * 12) + a)) bj ad))))), (s1, .inl (cI, 96, .inl (nF (va_up sr ((x * 12) + bj) (f_chg (sr ((x * 12) + bj)) a ad))))), (st1, .inl (cI, 8, .inl (nF (va_up sta x (f_chg (sta x) a false))))), (e1, .inl (cI, 8, .inl (nF (va_up en x (f_chg (en x) bj false)))))] := hD
          subst hQ
          subst hAe
          have hP9 := hP.sub (ws' := [(h0, .inr (1, [.ref m1, .ref t1, .ref s1, .ref st1, .ref e1, .int (nI (if ad = true then fs + 1 else fs - 1))])), (m1, .inl (cI, 10, .inl (nF mb))), (t1, .inl (cI, 96, .inl (nF (va_up tg ((x * 12) + a) (f_chg (tg ((x * 12) + a)) bj ad))))), (s1, .inl (cI, 96, .inl (nF (va_up sr ((x * 12) + bj) (f_chg (sr ((x * 12) + bj)) a ad))))), (st1, .inl (cI, 8, .inl (nF (va_up sta x (f_chg (sta x) a false))))), (e1, .inl (cI, 8, .inl (nF (va_up en x (f_chg (en x) bj false)))))]) [0, 1, 2, 3, 4, 5] rfl
          exact W.vret hx hb hr (fun t9 h9 _ => ⟨⟨(mb, va_up tg ((x * 12) + a) (f_chg (tg ((x * 12) + a)) bj ad), va_up sr ((x * 12) + bj) (f_chg (sr ((x * 12) + bj)) a ad), va_up sta x (f_chg (sta x) a false), va_up en x (f_chg (en x) bj false)), rfl, (show f_fput ro mb tg sr sta en x a b ad mb (va_up tg ((x * 12) + a) (f_chg (tg ((x * 12) + a)) bj ad)) (va_up sr ((x * 12) + bj) (f_chg (sr ((x * 12) + bj)) a ad)) (va_up sta x (f_chg (sta x) a false)) (va_up en x (f_chg (en x) bj false)) from by (first | (rw [f_fput, if_pos (by assumption), ebj, nI_clamp (by omega)]; exact ⟨rfl, rfl, rfl, congrArg (va_up sta x) (congrArg (f_chg (sta x) a) (by (symm; first | exact decide_eq_true (by omega) | exact decide_eq_false (by omega)))), congrArg (va_up en x) (congrArg (f_chg (en x) bj) (by (symm; first | exact decide_eq_true (by omega) | exact decide_eq_false (by omega))))⟩) | (rw [f_fput, if_neg (by simp_all)]; exact ⟨rfl, rfl, rfl, rfl, rfl⟩))), by show va_P _ _ _ t9.heap; rw [h9]; exact hP9⟩, hS.F h9⟩) hS.2.2 dX1_put_165
        · refine lv_iconst (v := (nI (1))) hx hb dX1_put_156 (by decide) ?_
          refine lv_goto (tgt := 161) hx hb dX1_put_157 (by decide) ?_
          refine q_iadd (x := fs) (y := 1) hx hb dX1_put_161 ?_
          refine va_put (D := (dC, dI)) (ci := 1) (v := .int (nI (fs + 1))) (ty := .int) (C := RX1) (T := TX1) (N := 6) hx hb hts uX1 tyX1 tyX1_ok nmX1 hown hK hP hD hS 0 rfl rfl 5 (by decide) (hts _ kfX1_27) (fun _ h9 => h9) rfl (by decide +kernel) (rfl) (rfl) (Nat.le_of_ble_eq_true rfl) dX1_put_162 (fun H locs hP hD hS => ?_)
          have hP : va_P (dC, dI) qCl [(h0, .inr (1, [.ref m1, .ref t1, .ref s1, .ref st1, .ref e1, .int (nI (fs + 1))])), (m1, .inl (cI, 10, .inl (nF mb))), (t1, .inl (cI, 96, .inl (nF (va_up tg ((x * 12) + a) (f_chg (tg ((x * 12) + a)) bj ad))))), (s1, .inl (cI, 96, .inl (nF (va_up sr ((x * 12) + bj) (f_chg (sr ((x * 12) + bj)) a ad))))), (st1, .inl (cI, 8, .inl (nF (va_up sta x (f_chg (sta x) a false))))), (e1, .inl (cI, 8, .inl (nF (va_up en x (f_chg (en x) bj false)))))] H := hP
          have hD : va_D A [(h0, .inr (1, [.ref m1, .ref t1, .ref s1, .ref st1, .ref e1, .int (nI (fs + 1))])), (m1, .inl (cI, 10, .inl (nF mb))), (t1, .inl (cI, 96, .inl (nF (va_up tg ((x * 12) + a) (f_chg (tg ((x * 12) + a)) bj ad))))), (s1, .inl (cI, 96, .inl (nF (va_up sr ((x * 12) + bj) (f_chg (sr ((x * 12) + bj)) a ad))))), (st1, .inl (cI, 8, .inl (nF (va_up sta x (f_chg (sta x) a false))))), (e1, .inl (cI, 8, .inl (nF (va_up en x (f_chg (en x) bj false)))))] := hD
          have ef19 : (.int (nI (fs + 1)) : Value) = .int (nI (if ad = true then fs + 1 else fs - 1)) := by (simp [*])
          rw [ef19] at hP hD
          have hP : va_P (dC, dI) qCl [(h0, .inr (1, [.ref m1, .ref t1, .ref s1, .ref st1, .ref e1, .int (nI (if ad = true then fs + 1 else fs - 1))])), (m1, .inl (cI, 10, .inl (nF mb))), (t1, .inl (cI, 96, .inl (nF (va_up tg ((x * 12) + a) (f_chg (tg ((x * 12) + a)) bj ad))))), (s1, .inl (cI, 96, .inl (nF (va_up sr ((x * 12) + bj) (f_chg (sr ((x * 12) + bj)) a ad))))), (st1, .inl (cI, 8, .inl (nF (va_up sta x (f_chg (sta x) a false))))), (e1, .inl (cI, 8, .inl (nF (va_up en x (f_chg (en x) bj false)))))] H := hP
          have hD : va_D A [(h0, .inr (1, [.ref m1, .ref t1, .ref s1, .ref st1, .ref e1, .int (nI (if ad = true then fs + 1 else fs - 1))])), (m1, .inl (cI, 10, .inl (nF mb))), (t1, .inl (cI, 96, .inl (nF (va_up tg ((x * 12) + a) (f_chg (tg ((x * 12) + a)) bj ad))))), (s1, .inl (cI, 96, .inl (nF (va_up sr ((x * 12) + bj) (f_chg (sr ((x * 12) + bj)) a ad))))), (st1, .inl (cI, 8, .inl (nF (va_up sta x (f_chg (sta x) a false))))), (e1, .inl (cI, 8, .inl (nF (va_up en x (f_chg (en x) bj false)))))] := hD
          subst hQ
          subst hAe
          have hP9 := hP.sub (ws' := [(h0, .inr (1, [.ref m1, .ref t1, .ref s1, .ref st1, .ref e1, .int (nI (if ad = true then fs + 1 else fs - 1))])), (m1, .inl (cI, 10, .inl (nF mb))), (t1, .inl (cI, 96, .inl (nF (va_up tg ((x * 12) + a) (f_chg (tg ((x * 12) + a)) bj ad))))), (s1, .inl (cI, 96, .inl (nF (va_up sr ((x * 12) + bj) (f_chg (sr ((x * 12) + bj)) a ad))))), (st1, .inl (cI, 8, .inl (nF (va_up sta x (f_chg (sta x) a false))))), (e1, .inl (cI, 8, .inl (nF (va_up en x (f_chg (en x) bj false)))))]) [0, 1, 2, 3, 4, 5] rfl
          exact W.vret hx hb hr (fun t9 h9 _ => ⟨⟨(mb, va_up tg ((x * 12) + a) (f_chg (tg ((x * 12) + a)) bj ad), va_up sr ((x * 12) + bj) (f_chg (sr ((x * 12) + bj)) a ad), va_up sta x (f_chg (sta x) a false), va_up en x (f_chg (en x) bj false)), rfl, (show f_fput ro mb tg sr sta en x a b ad mb (va_up tg ((x * 12) + a) (f_chg (tg ((x * 12) + a)) bj ad)) (va_up sr ((x * 12) + bj) (f_chg (sr ((x * 12) + bj)) a ad)) (va_up sta x (f_chg (sta x) a false)) (va_up en x (f_chg (en x) bj false)) from by (first | (rw [f_fput, if_pos (by assumption), ebj, nI_clamp (by omega)]; exact ⟨rfl, rfl, rfl, congrArg (va_up sta x) (congrArg (f_chg (sta x) a) (by (symm; first | exact decide_eq_true (by omega) | exact decide_eq_false (by omega)))), congrArg (va_up en x) (congrArg (f_chg (en x) bj) (by (symm; first | exact decide_eq_true (by omega) | exact decide_eq_false (by omega))))⟩) | (rw [f_fput, if_neg (by simp_all)]; exact ⟨rfl, rfl, rfl, rfl, rfl⟩))), by show va_P _ _ _ t9.heap; rw [h9]; exact hP9⟩, hS.F h9⟩) hS.2.2 dX1_put_165
      · refine lv_iconst (v := (nI (1))) hx hb dX1_put_116 (by decide) ?_
        refine lv_goto (tgt := 121) hx hb dX1_put_117 (by decide) ?_
        refine vp_callSi (va_Run.run (va_runS (As := [.int (nI (en x)), .int (nI (bj)), .int (nI (1))]) (rest := [.int (nI (x)), .ref e1]) ⟨hx, hb, hml, hown, hts⟩ (c_Facts_changed l dC dI cI cL cQ cZ (en x) bj true (show (en x) < 4096 from by first | assumption | omega) (show bj < 12 from by first | assumption | omega)) (q_cwS 3 hts gkX1_changed kmX1_35 ksX1_changed kiX1 rfl rfl rfl (by decide +kernel) ⟨Nat.le_of_ble_eq_true rfl, Nat.le_of_ble_eq_true rfl⟩) (q_preS hK hP [] rfl) rfl rfl hl.1 rfl (lv_room (Nat.le_of_ble_eq_true rfl)) dX1_put_121 ⟨Nat.zero_le _, Nat.zero_le _⟩)) (fun r20 hr20 => ?_)
        subst hr20
        refine q_iastN hx hb hK hP hD hS 5 0 rfl rfl (j := x) (x := f_chg (en x) bj true) (by omega) (by omega) dX1_put_124 (fun H locs hP hD hS => ?_)
        have hP : va_P (dC, dI) qCl [(h0, .inr (1, [.ref m1, .ref t1, .ref s1, .ref st1, .ref e1, .int (nI (fs))])), (m1, .inl (cI, 10, .inl (nF mb))), (t1, .inl (cI, 96, .inl (nF (va_up tg ((x * 12) + a) (f_chg (tg ((x * 12) + a)) bj ad))))), (s1, .inl (cI, 96, .inl (nF (va_up sr ((x * 12) + bj) (f_chg (sr ((x * 12) + bj)) a ad))))), (st1, .inl (cI, 8, .inl (nF (va_up sta x (f_chg (sta x) a false))))), (e1, .inl (cI, 8, .inl (nF (va_up en x (f_chg (en x) bj true)))))] H := hP
        have hD : va_D A [(h0, .inr (1, [.ref m1, .ref t1, .ref s1, .ref st1, .ref e1, .int (nI (fs))])), (m1, .inl (cI, 10, .inl (nF mb))), (t1, .inl (cI, 96, .inl (nF (va_up tg ((x * 12) + a) (f_chg (tg ((x * 12) + a)) bj ad))))), (s1, .inl (cI, 96, .inl (nF (va_up sr ((x * 12) + bj) (f_chg (sr ((x * 12) + bj)) a ad))))), (st1, .inl (cI, 8, .inl (nF (va_up sta x (f_chg (sta x) a false))))), (e1, .inl (cI, 8, .inl (nF (va_up en x (f_chg (en x) bj true)))))] := hD
        refine lv_goto (tgt := 146) hx hb dX1_put_125 (by decide) ?_
        refine lv_aload_n hx hb dX1_put_146 rfl (lv_at hl 2 rfl) ?_
        refine lv_dup hx hb dX1_put_147 rfl ?_
        refine va_get (D := (dC, dI)) (ci := 1) (v := .int (nI (fs))) (C := RX1) (T := TX1) (N := 6) hx hb hts uX1 hown hK hP 0 rfl rfl 5 (by decide) (hts _ kfX1_27) (fun _ h9 => h9) rfl dX1_put_148 ?_
        refine lv_iload hx hb dX1_put_151 (lv_at hl 7 rfl) ?_
        refine q_ifb_eq (b := ad) (tgt := 160) hx hb dX1_put_153 (by decide) (fun c153_21 => ?_) (fun c153_21 => ?_)
        · refine lv_iconst (v := (oI (none))) hx hb dX1_put_160 (by decide) ?_
          refine lv_iadd hx hb dX1_put_161 ?_
          refine q_top (show ((nI (fs)) + (oI (none))) = (nI (fs - 1)) from (nI_m1 (hfs (by assumption)))) ?_
          refine va_put (D := (dC, dI)) (ci := 1) (v := .int (nI (fs - 1))) (ty := .int) (C := RX1) (T := TX1) (N := 6) hx hb hts uX1 tyX1 tyX1_ok nmX1 hown hK hP hD hS 0 rfl rfl 5 (by decide) (hts _ kfX1_27) (fun _ h9 => h9) rfl (by decide +kernel) (rfl) (rfl) (Nat.le_of_ble_eq_true rfl) dX1_put_162 (fun H locs hP hD hS => ?_)
          have hP : va_P (dC, dI) qCl [(h0, .inr (1, [.ref m1, .ref t1, .ref s1, .ref st1, .ref e1, .int (nI (fs - 1))])), (m1, .inl (cI, 10, .inl (nF mb))), (t1, .inl (cI, 96, .inl (nF (va_up tg ((x * 12) + a) (f_chg (tg ((x * 12) + a)) bj ad))))), (s1, .inl (cI, 96, .inl (nF (va_up sr ((x * 12) + bj) (f_chg (sr ((x * 12) + bj)) a ad))))), (st1, .inl (cI, 8, .inl (nF (va_up sta x (f_chg (sta x) a false))))), (e1, .inl (cI, 8, .inl (nF (va_up en x (f_chg (en x) bj true)))))] H := hP
          have hD : va_D A [(h0, .inr (1, [.ref m1, .ref t1, .ref s1, .ref st1, .ref e1, .int (nI (fs - 1))])), (m1, .inl (cI, 10, .inl (nF mb))), (t1, .inl (cI, 96, .inl (nF (va_up tg ((x * 12) + a) (f_chg (tg ((x * 12) + a)) bj ad))))), (s1, .inl (cI, 96, .inl (nF (va_up sr ((x * 12) + bj) (f_chg (sr ((x * 12) + bj)) a ad))))), (st1, .inl (cI, 8, .inl (nF (va_up sta x (f_chg (sta x) a false))))), (e1, .inl (cI, 8, .inl (nF (va_up en x (f_chg (en x) bj true)))))] := hD
          have ef22 : (.int (nI (fs - 1)) : Value) = .int (nI (if ad = true then fs + 1 else fs - 1)) := by (simp [*])
          rw [ef22] at hP hD
          have hP : va_P (dC, dI) qCl [(h0, .inr (1, [.ref m1, .ref t1, .ref s1, .ref st1, .ref e1, .int (nI (if ad = true then fs + 1 else fs - 1))])), (m1, .inl (cI, 10, .inl (nF mb))), (t1, .inl (cI, 96, .inl (nF (va_up tg ((x * 12) + a) (f_chg (tg ((x * 12) + a)) bj ad))))), (s1, .inl (cI, 96, .inl (nF (va_up sr ((x * 12) + bj) (f_chg (sr ((x * 12) + bj)) a ad))))), (st1, .inl (cI, 8, .inl (nF (va_up sta x (f_chg (sta x) a false))))), (e1, .inl (cI, 8, .inl (nF (va_up en x (f_chg (en x) bj true)))))] H := hP
          have hD : va_D A [(h0, .inr (1, [.ref m1, .ref t1, .ref s1, .ref st1, .ref e1, .int (nI (if ad = true then fs + 1 else fs - 1))])), (m1, .inl (cI, 10, .inl (nF mb))), (t1, .inl (cI, 96, .inl (nF (va_up tg ((x * 12) + a) (f_chg (tg ((x * 12) + a)) bj ad))))), (s1, .inl (cI, 96, .inl (nF (va_up sr ((x * 12) + bj) (f_chg (sr ((x * 12) + bj)) a ad))))), (st1, .inl (cI, 8, .inl (nF (va_up sta x (f_chg (sta x) a false))))), (e1, .inl (cI, 8, .inl (nF (va_up en x (f_chg (en x) bj true)))))] := hD
          subst hQ
          subst hAe
          have hP9 := hP.sub (ws' := [(h0, .inr (1, [.ref m1, .ref t1, .ref s1, .ref st1, .ref e1, .int (nI (if ad = true then fs + 1 else fs - 1))])), (m1, .inl (cI, 10, .inl (nF mb))), (t1, .inl (cI, 96, .inl (nF (va_up tg ((x * 12) + a) (f_chg (tg ((x * 12) + a)) bj ad))))), (s1, .inl (cI, 96, .inl (nF (va_up sr ((x * 12) + bj) (f_chg (sr ((x * 12) + bj)) a ad))))), (st1, .inl (cI, 8, .inl (nF (va_up sta x (f_chg (sta x) a false))))), (e1, .inl (cI, 8, .inl (nF (va_up en x (f_chg (en x) bj true)))))]) [0, 1, 2, 3, 4, 5] rfl
          exact W.vret hx hb hr (fun t9 h9 _ => ⟨⟨(mb, va_up tg ((x * 12) + a) (f_chg (tg ((x * 12) + a)) bj ad), va_up sr ((x * 12) + bj) (f_chg (sr ((x * 12) + bj)) a ad), va_up sta x (f_chg (sta x) a false), va_up en x (f_chg (en x) bj true)), rfl, (show f_fput ro mb tg sr sta en x a b ad mb (va_up tg ((x * 12) + a) (f_chg (tg ((x * 12) + a)) bj ad)) (va_up sr ((x * 12) + bj) (f_chg (sr ((x * 12) + bj)) a ad)) (va_up sta x (f_chg (sta x) a false)) (va_up en x (f_chg (en x) bj true)) from by (first | (rw [f_fput, if_pos (by assumption), ebj, nI_clamp (by omega)]; exact ⟨rfl, rfl, rfl, congrArg (va_up sta x) (congrArg (f_chg (sta x) a) (by (symm; first | exact decide_eq_true (by omega) | exact decide_eq_false (by omega)))), congrArg (va_up en x) (congrArg (f_chg (en x) bj) (by (symm; first | exact decide_eq_true (by omega) | exact decide_eq_false (by omega))))⟩) | (rw [f_fput, if_neg (by simp_all)]; exact ⟨rfl, rfl, rfl, rfl, rfl⟩))), by show va_P _ _ _ t9.heap; rw [h9]; exact hP9⟩, hS.F h9⟩) hS.2.2 dX1_put_165
        · refine lv_iconst (v := (nI (1))) hx hb dX1_put_156 (by decide) ?_
          refine lv_goto (tgt := 161) hx hb dX1_put_157 (by decide) ?_
          refine q_iadd (x := fs) (y := 1) hx hb dX1_put_161 ?_
          refine va_put (D := (dC, dI)) (ci := 1) (v := .int (nI (fs + 1))) (ty := .int) (C := RX1) (T := TX1) (N := 6) hx hb hts uX1 tyX1 tyX1_ok nmX1 hown hK hP hD hS 0 rfl rfl 5 (by decide) (hts _ kfX1_27) (fun _ h9 => h9) rfl (by decide +kernel) (rfl) (rfl) (Nat.le_of_ble_eq_true rfl) dX1_put_162 (fun H locs hP hD hS => ?_)
          have hP : va_P (dC, dI) qCl [(h0, .inr (1, [.ref m1, .ref t1, .ref s1, .ref st1, .ref e1, .int (nI (fs + 1))])), (m1, .inl (cI, 10, .inl (nF mb))), (t1, .inl (cI, 96, .inl (nF (va_up tg ((x * 12) + a) (f_chg (tg ((x * 12) + a)) bj ad))))), (s1, .inl (cI, 96, .inl (nF (va_up sr ((x * 12) + bj) (f_chg (sr ((x * 12) + bj)) a ad))))), (st1, .inl (cI, 8, .inl (nF (va_up sta x (f_chg (sta x) a false))))), (e1, .inl (cI, 8, .inl (nF (va_up en x (f_chg (en x) bj true)))))] H := hP
          have hD : va_D A [(h0, .inr (1, [.ref m1, .ref t1, .ref s1, .ref st1, .ref e1, .int (nI (fs + 1))])), (m1, .inl (cI, 10, .inl (nF mb))), (t1, .inl (cI, 96, .inl (nF (va_up tg ((x * 12) + a) (f_chg (tg ((x * 12) + a)) bj ad))))), (s1, .inl (cI, 96, .inl (nF (va_up sr ((x * 12) + bj) (f_chg (sr ((x * 12) + bj)) a ad))))), (st1, .inl (cI, 8, .inl (nF (va_up sta x (f_chg (sta x) a false))))), (e1, .inl (cI, 8, .inl (nF (va_up en x (f_chg (en x) bj true)))))] := hD
          have ef23 : (.int (nI (fs + 1)) : Value) = .int (nI (if ad = true then fs + 1 else fs - 1)) := by (simp [*])
          rw [ef23] at hP hD
          have hP : va_P (dC, dI) qCl [(h0, .inr (1, [.ref m1, .ref t1, .ref s1, .ref st1, .ref e1, .int (nI (if ad = true then fs + 1 else fs - 1))])), (m1, .inl (cI, 10, .inl (nF mb))), (t1, .inl (cI, 96, .inl (nF (va_up tg ((x * 12) + a) (f_chg (tg ((x * 12) + a)) bj ad))))), (s1, .inl (cI, 96, .inl (nF (va_up sr ((x * 12) + bj) (f_chg (sr ((x * 12) + bj)) a ad))))), (st1, .inl (cI, 8, .inl (nF (va_up sta x (f_chg (sta x) a false))))), (e1, .inl (cI, 8, .inl (nF (va_up en x (f_chg (en x) bj true)))))] H := hP
          have hD : va_D A [(h0, .inr (1, [.ref m1, .ref t1, .ref s1, .ref st1, .ref e1, .int (nI (if ad = true then fs + 1 else fs - 1))])), (m1, .inl (cI, 10, .inl (nF mb))), (t1, .inl (cI, 96, .inl (nF (va_up tg ((x * 12) + a) (f_chg (tg ((x * 12) + a)) bj ad))))), (s1, .inl (cI, 96, .inl (nF (va_up sr ((x * 12) + bj) (f_chg (sr ((x * 12) + bj)) a ad))))), (st1, .inl (cI, 8, .inl (nF (va_up sta x (f_chg (sta x) a false))))), (e1, .inl (cI, 8, .inl (nF (va_up en x (f_chg (en x) bj true)))))] := hD
          subst hQ
          subst hAe
          have hP9 := hP.sub (ws' := [(h0, .inr (1, [.ref m1, .ref t1, .ref s1, .ref st1, .ref e1, .int (nI (if ad = true then fs + 1 else fs - 1))])), (m1, .inl (cI, 10, .inl (nF mb))), (t1, .inl (cI, 96, .inl (nF (va_up tg ((x * 12) + a) (f_chg (tg ((x * 12) + a)) bj ad))))), (s1, .inl (cI, 96, .inl (nF (va_up sr ((x * 12) + bj) (f_chg (sr ((x * 12) + bj)) a ad))))), (st1, .inl (cI, 8, .inl (nF (va_up sta x (f_chg (sta x) a false))))), (e1, .inl (cI, 8, .inl (nF (va_up en x (f_chg (en x) bj true)))))]) [0, 1, 2, 3, 4, 5] rfl
          exact W.vret hx hb hr (fun t9 h9 _ => ⟨⟨(mb, va_up tg ((x * 12) + a) (f_chg (tg ((x * 12) + a)) bj ad), va_up sr ((x * 12) + bj) (f_chg (sr ((x * 12) + bj)) a ad), va_up sta x (f_chg (sta x) a false), va_up en x (f_chg (en x) bj true)), rfl, (show f_fput ro mb tg sr sta en x a b ad mb (va_up tg ((x * 12) + a) (f_chg (tg ((x * 12) + a)) bj ad)) (va_up sr ((x * 12) + bj) (f_chg (sr ((x * 12) + bj)) a ad)) (va_up sta x (f_chg (sta x) a false)) (va_up en x (f_chg (en x) bj true)) from by (first | (rw [f_fput, if_pos (by assumption), ebj, nI_clamp (by omega)]; exact ⟨rfl, rfl, rfl, congrArg (va_up sta x) (congrArg (f_chg (sta x) a) (by (symm; first | exact decide_eq_true (by omega) | exact decide_eq_false (by omega)))), congrArg (va_up en x) (congrArg (f_chg (en x) bj) (by (symm; first | exact decide_eq_true (by omega) | exact decide_eq_false (by omega))))⟩) | (rw [f_fput, if_neg (by simp_all)]; exact ⟨rfl, rfl, rfl, rfl, rfl⟩))), by show va_P _ _ _ t9.heap; rw [h9]; exact hP9⟩, hS.F h9⟩) hS.2.2 dX1_put_165
    · refine lv_iconst (v := (nI (1))) hx hb dX1_put_84 (by decide) ?_
      refine lv_goto (tgt := 89) hx hb dX1_put_85 (by decide) ?_
      refine vp_callSi (va_Run.run (va_runS (As := [.int (nI (sta x)), .int (nI (a)), .int (nI (1))]) (rest := [.int (nI (x)), .ref st1]) ⟨hx, hb, hml, hown, hts⟩ (c_Facts_changed l dC dI cI cL cQ cZ (sta x) a true (show (sta x) < 4096 from by first | assumption | omega) (show a < 12 from by first | assumption | omega)) (q_cwS 3 hts gkX1_changed kmX1_35 ksX1_changed kiX1 rfl rfl rfl (by decide +kernel) ⟨Nat.le_of_ble_eq_true rfl, Nat.le_of_ble_eq_true rfl⟩) (q_preS hK hP [] rfl) rfl rfl hl.1 rfl (lv_room (Nat.le_of_ble_eq_true rfl)) dX1_put_89 ⟨Nat.zero_le _, Nat.zero_le _⟩)) (fun r24 hr24 => ?_)
      subst hr24
      refine q_iastN hx hb hK hP hD hS 4 0 rfl rfl (j := x) (x := f_chg (sta x) a true) (by omega) (by omega) dX1_put_92 (fun H locs hP hD hS => ?_)
      have hP : va_P (dC, dI) qCl [(h0, .inr (1, [.ref m1, .ref t1, .ref s1, .ref st1, .ref e1, .int (nI (fs))])), (m1, .inl (cI, 10, .inl (nF mb))), (t1, .inl (cI, 96, .inl (nF (va_up tg ((x * 12) + a) (f_chg (tg ((x * 12) + a)) bj ad))))), (s1, .inl (cI, 96, .inl (nF (va_up sr ((x * 12) + bj) (f_chg (sr ((x * 12) + bj)) a ad))))), (st1, .inl (cI, 8, .inl (nF (va_up sta x (f_chg (sta x) a true))))), (e1, .inl (cI, 8, .inl (nF en)))] H := hP
      have hD : va_D A [(h0, .inr (1, [.ref m1, .ref t1, .ref s1, .ref st1, .ref e1, .int (nI (fs))])), (m1, .inl (cI, 10, .inl (nF mb))), (t1, .inl (cI, 96, .inl (nF (va_up tg ((x * 12) + a) (f_chg (tg ((x * 12) + a)) bj ad))))), (s1, .inl (cI, 96, .inl (nF (va_up sr ((x * 12) + bj) (f_chg (sr ((x * 12) + bj)) a ad))))), (st1, .inl (cI, 8, .inl (nF (va_up sta x (f_chg (sta x) a true))))), (e1, .inl (cI, 8, .inl (nF en)))] := hD
      refine lv_aload_n hx hb dX1_put_93 rfl (lv_at hl 2 rfl) ?_
      refine va_get (D := (dC, dI)) (ci := 1) (v := .ref e1) (C := RX1) (T := TX1) (N := 6) hx hb hts uX1 hown hK hP 0 rfl rfl 4 (by decide) (hts _ kfX1_24) (fun _ h9 => h9) rfl dX1_put_94 ?_
      refine lv_iload_n hx hb dX1_put_97 rfl (lv_at hl 4 rfl) ?_
      refine lv_aload_n hx hb dX1_put_98 rfl (lv_at hl 2 rfl) ?_
      refine va_get (D := (dC, dI)) (ci := 1) (v := .ref e1) (C := RX1) (T := TX1) (N := 6) hx hb hts uX1 hown hK hP 0 rfl rfl 4 (by decide) (hts _ kfX1_24) (fun _ h9 => h9) rfl dX1_put_99 ?_
      refine lv_iload_n hx hb dX1_put_102 rfl (lv_at hl 4 rfl) ?_
      refine q_ialdN hx hb hK hP 5 0 rfl rfl (j := x) (by omega) (by omega) dX1_put_103 ?_
      have bd25 := hen x
      refine lv_iload hx hb dX1_put_104 (lv_at hl 6 rfl) ?_
      refine lv_aload_n hx hb dX1_put_106 rfl (lv_at hl 2 rfl) ?_
      refine va_get (D := (dC, dI)) (ci := 1) (v := .ref s1) (C := RX1) (T := TX1) (N := 6) hx hb hts uX1 hown hK hP 0 rfl rfl 2 (by decide) (hts _ kfX1_18) (fun _ h9 => h9) rfl dX1_put_107 ?_
      refine lv_iload hx hb dX1_put_110 (lv_at hl 0 rfl) ?_
      refine q_ialdN hx hb hK hP 3 0 rfl rfl (j := (x * 12) + bj) (by omega) (by omega) dX1_put_112 ?_
      refine q_top (show (nI ((va_up sr ((x * 12) + bj) (f_chg (sr ((x * 12) + bj)) a ad)) ((x * 12) + bj))) = (nI (f_chg (sr (x * 12 + bj)) a ad)) from (congrArg nI (up_s _ _ _))) ?_
      have hq2 := f_chg_lt ad (hsr (x * 12 + bj)) ha9
      refine q_if_eq (x := f_chg (sr (x * 12 + bj)) a ad) (tgt := 120) hx hb dX1_put_113 (by decide) (by omega) (fun c113_26 => ?_) (fun c113_26 => ?_)
      · refine lv_iconst (v := (nI (0))) hx hb dX1_put_120 (by decide) ?_
        refine vp_callSi (va_Run.run (va_runS (As := [.int (nI (en x)), .int (nI (bj)), .int (nI (0))]) (rest := [.int (nI (x)), .ref e1]) ⟨hx, hb, hml, hown, hts⟩ (c_Facts_changed l dC dI cI cL cQ cZ (en x) bj false (show (en x) < 4096 from by first | assumption | omega) (show bj < 12 from by first | assumption | omega)) (q_cwS 3 hts gkX1_changed kmX1_35 ksX1_changed kiX1 rfl rfl rfl (by decide +kernel) ⟨Nat.le_of_ble_eq_true rfl, Nat.le_of_ble_eq_true rfl⟩) (q_preS hK hP [] rfl) rfl rfl hl.1 rfl (lv_room (Nat.le_of_ble_eq_true rfl)) dX1_put_121 ⟨Nat.zero_le _, Nat.zero_le _⟩)) (fun r27 hr27 => ?_)
        subst hr27
        refine q_iastN hx hb hK hP hD hS 5 0 rfl rfl (j := x) (x := f_chg (en x) bj false) (by omega) (by omega) dX1_put_124 (fun H locs hP hD hS => ?_)
        have hP : va_P (dC, dI) qCl [(h0, .inr (1, [.ref m1, .ref t1, .ref s1, .ref st1, .ref e1, .int (nI (fs))])), (m1, .inl (cI, 10, .inl (nF mb))), (t1, .inl (cI, 96, .inl (nF (va_up tg ((x * 12) + a) (f_chg (tg ((x * 12) + a)) bj ad))))), (s1, .inl (cI, 96, .inl (nF (va_up sr ((x * 12) + bj) (f_chg (sr ((x * 12) + bj)) a ad))))), (st1, .inl (cI, 8, .inl (nF (va_up sta x (f_chg (sta x) a true))))), (e1, .inl (cI, 8, .inl (nF (va_up en x (f_chg (en x) bj false)))))] H := hP
        have hD : va_D A [(h0, .inr (1, [.ref m1, .ref t1, .ref s1, .ref st1, .ref e1, .int (nI (fs))])), (m1, .inl (cI, 10, .inl (nF mb))), (t1, .inl (cI, 96, .inl (nF (va_up tg ((x * 12) + a) (f_chg (tg ((x * 12) + a)) bj ad))))), (s1, .inl (cI, 96, .inl (nF (va_up sr ((x * 12) + bj) (f_chg (sr ((x * 12) + bj)) a ad))))), (st1, .inl (cI, 8, .inl (nF (va_up sta x (f_chg (sta x) a true))))), (e1, .inl (cI, 8, .inl (nF (va_up en x (f_chg (en x) bj false)))))] := hD
        refine lv_goto (tgt := 146) hx hb dX1_put_125 (by decide) ?_
        refine lv_aload_n hx hb dX1_put_146 rfl (lv_at hl 2 rfl) ?_
        refine lv_dup hx hb dX1_put_147 rfl ?_
        refine va_get (D := (dC, dI)) (ci := 1) (v := .int (nI (fs))) (C := RX1) (T := TX1) (N := 6) hx hb hts uX1 hown hK hP 0 rfl rfl 5 (by decide) (hts _ kfX1_27) (fun _ h9 => h9) rfl dX1_put_148 ?_
        refine lv_iload hx hb dX1_put_151 (lv_at hl 7 rfl) ?_
        refine q_ifb_eq (b := ad) (tgt := 160) hx hb dX1_put_153 (by decide) (fun c153_28 => ?_) (fun c153_28 => ?_)
        · refine lv_iconst (v := (oI (none))) hx hb dX1_put_160 (by decide) ?_
          refine lv_iadd hx hb dX1_put_161 ?_
          refine q_top (show ((nI (fs)) + (oI (none))) = (nI (fs - 1)) from (nI_m1 (hfs (by assumption)))) ?_
          refine va_put (D := (dC, dI)) (ci := 1) (v := .int (nI (fs - 1))) (ty := .int) (C := RX1) (T := TX1) (N := 6) hx hb hts uX1 tyX1 tyX1_ok nmX1 hown hK hP hD hS 0 rfl rfl 5 (by decide) (hts _ kfX1_27) (fun _ h9 => h9) rfl (by decide +kernel) (rfl) (rfl) (Nat.le_of_ble_eq_true rfl) dX1_put_162 (fun H locs hP hD hS => ?_)
          have hP : va_P (dC, dI) qCl [(h0, .inr (1, [.ref m1, .ref t1, .ref s1, .ref st1, .ref e1, .int (nI (fs - 1))])), (m1, .inl (cI, 10, .inl (nF mb))), (t1, .inl (cI, 96, .inl (nF (va_up tg ((x * 12) + a) (f_chg (tg ((x * 12) + a)) bj ad))))), (s1, .inl (cI, 96, .inl (nF (va_up sr ((x * 12) + bj) (f_chg (sr ((x * 12) + bj)) a ad))))), (st1, .inl (cI, 8, .inl (nF (va_up sta x (f_chg (sta x) a true))))), (e1, .inl (cI, 8, .inl (nF (va_up en x (f_chg (en x) bj false)))))] H := hP
          have hD : va_D A [(h0, .inr (1, [.ref m1, .ref t1, .ref s1, .ref st1, .ref e1, .int (nI (fs - 1))])), (m1, .inl (cI, 10, .inl (nF mb))), (t1, .inl (cI, 96, .inl (nF (va_up tg ((x * 12) + a) (f_chg (tg ((x * 12) + a)) bj ad))))), (s1, .inl (cI, 96, .inl (nF (va_up sr ((x * 12) + bj) (f_chg (sr ((x * 12) + bj)) a ad))))), (st1, .inl (cI, 8, .inl (nF (va_up sta x (f_chg (sta x) a true))))), (e1, .inl (cI, 8, .inl (nF (va_up en x (f_chg (en x) bj false)))))] := hD
          have ef29 : (.int (nI (fs - 1)) : Value) = .int (nI (if ad = true then fs + 1 else fs - 1)) := by (simp [*])
          rw [ef29] at hP hD
          have hP : va_P (dC, dI) qCl [(h0, .inr (1, [.ref m1, .ref t1, .ref s1, .ref st1, .ref e1, .int (nI (if ad = true then fs + 1 else fs - 1))])), (m1, .inl (cI, 10, .inl (nF mb))), (t1, .inl (cI, 96, .inl (nF (va_up tg ((x * 12) + a) (f_chg (tg ((x * 12) + a)) bj ad))))), (s1, .inl (cI, 96, .inl (nF (va_up sr ((x * 12) + bj) (f_chg (sr ((x * 12) + bj)) a ad))))), (st1, .inl (cI, 8, .inl (nF (va_up sta x (f_chg (sta x) a true))))), (e1, .inl (cI, 8, .inl (nF (va_up en x (f_chg (en x) bj false)))))] H := hP
          have hD : va_D A [(h0, .inr (1, [.ref m1, .ref t1, .ref s1, .ref st1, .ref e1, .int (nI (if ad = true then fs + 1 else fs - 1))])), (m1, .inl (cI, 10, .inl (nF mb))), (t1, .inl (cI, 96, .inl (nF (va_up tg ((x * 12) + a) (f_chg (tg ((x * 12) + a)) bj ad))))), (s1, .inl (cI, 96, .inl (nF (va_up sr ((x * 12) + bj) (f_chg (sr ((x * 12) + bj)) a ad))))), (st1, .inl (cI, 8, .inl (nF (va_up sta x (f_chg (sta x) a true))))), (e1, .inl (cI, 8, .inl (nF (va_up en x (f_chg (en x) bj false)))))] := hD
          subst hQ
          subst hAe
          have hP9 := hP.sub (ws' := [(h0, .inr (1, [.ref m1, .ref t1, .ref s1, .ref st1, .ref e1, .int (nI (if ad = true then fs + 1 else fs - 1))])), (m1, .inl (cI, 10, .inl (nF mb))), (t1, .inl (cI, 96, .inl (nF (va_up tg ((x * 12) + a) (f_chg (tg ((x * 12) + a)) bj ad))))), (s1, .inl (cI, 96, .inl (nF (va_up sr ((x * 12) + bj) (f_chg (sr ((x * 12) + bj)) a ad))))), (st1, .inl (cI, 8, .inl (nF (va_up sta x (f_chg (sta x) a true))))), (e1, .inl (cI, 8, .inl (nF (va_up en x (f_chg (en x) bj false)))))]) [0, 1, 2, 3, 4, 5] rfl
          exact W.vret hx hb hr (fun t9 h9 _ => ⟨⟨(mb, va_up tg ((x * 12) + a) (f_chg (tg ((x * 12) + a)) bj ad), va_up sr ((x * 12) + bj) (f_chg (sr ((x * 12) + bj)) a ad), va_up sta x (f_chg (sta x) a true), va_up en x (f_chg (en x) bj false)), rfl, (show f_fput ro mb tg sr sta en x a b ad mb (va_up tg ((x * 12) + a) (f_chg (tg ((x * 12) + a)) bj ad)) (va_up sr ((x * 12) + bj) (f_chg (sr ((x * 12) + bj)) a ad)) (va_up sta x (f_chg (sta x) a true)) (va_up en x (f_chg (en x) bj false)) from by (first | (rw [f_fput, if_pos (by assumption), ebj, nI_clamp (by omega)]; exact ⟨rfl, rfl, rfl, congrArg (va_up sta x) (congrArg (f_chg (sta x) a) (by (symm; first | exact decide_eq_true (by omega) | exact decide_eq_false (by omega)))), congrArg (va_up en x) (congrArg (f_chg (en x) bj) (by (symm; first | exact decide_eq_true (by omega) | exact decide_eq_false (by omega))))⟩) | (rw [f_fput, if_neg (by simp_all)]; exact ⟨rfl, rfl, rfl, rfl, rfl⟩))), by show va_P _ _ _ t9.heap; rw [h9]; exact hP9⟩, hS.F h9⟩) hS.2.2 dX1_put_165
        · refine lv_iconst (v := (nI (1))) hx hb dX1_put_156 (by decide) ?_
          refine lv_goto (tgt := 161) hx hb dX1_put_157 (by decide) ?_
          refine q_iadd (x := fs) (y := 1) hx hb dX1_put_161 ?_
          refine va_put (D := (dC, dI)) (ci := 1) (v := .int (nI (fs + 1))) (ty := .int) (C := RX1) (T := TX1) (N := 6) hx hb hts uX1 tyX1 tyX1_ok nmX1 hown hK hP hD hS 0 rfl rfl 5 (by decide) (hts _ kfX1_27) (fun _ h9 => h9) rfl (by decide +kernel) (rfl) (rfl) (Nat.le_of_ble_eq_true rfl) dX1_put_162 (fun H locs hP hD hS => ?_)
          have hP : va_P (dC, dI) qCl [(h0, .inr (1, [.ref m1, .ref t1, .ref s1, .ref st1, .ref e1, .int (nI (fs + 1))])), (m1, .inl (cI, 10, .inl (nF mb))), (t1, .inl (cI, 96, .inl (nF (va_up tg ((x * 12) + a) (f_chg (tg ((x * 12) + a)) bj ad))))), (s1, .inl (cI, 96, .inl (nF (va_up sr ((x * 12) + bj) (f_chg (sr ((x * 12) + bj)) a ad))))), (st1, .inl (cI, 8, .inl (nF (va_up sta x (f_chg (sta x) a true))))), (e1, .inl (cI, 8, .inl (nF (va_up en x (f_chg (en x) bj false)))))] H := hP
          have hD : va_D A [(h0, .inr (1, [.ref m1, .ref t1, .ref s1, .ref st1, .ref e1, .int (nI (fs + 1))])), (m1, .inl (cI, 10, .inl (nF mb))), (t1, .inl (cI, 96, .inl (nF (va_up tg ((x * 12) + a) (f_chg (tg ((x * 12) + a)) bj ad))))), (s1, .inl (cI, 96, .inl (nF (va_up sr ((x * 12) + bj) (f_chg (sr ((x * 12) + bj)) a ad))))), (st1, .inl (cI, 8, .inl (nF (va_up sta x (f_chg (sta x) a true))))), (e1, .inl (cI, 8, .inl (nF (va_up en x (f_chg (en x) bj false)))))] := hD
          have ef30 : (.int (nI (fs + 1)) : Value) = .int (nI (if ad = true then fs + 1 else fs - 1)) := by (simp [*])
          rw [ef30] at hP hD
          have hP : va_P (dC, dI) qCl [(h0, .inr (1, [.ref m1, .ref t1, .ref s1, .ref st1, .ref e1, .int (nI (if ad = true then fs + 1 else fs - 1))])), (m1, .inl (cI, 10, .inl (nF mb))), (t1, .inl (cI, 96, .inl (nF (va_up tg ((x * 12) + a) (f_chg (tg ((x * 12) + a)) bj ad))))), (s1, .inl (cI, 96, .inl (nF (va_up sr ((x * 12) + bj) (f_chg (sr ((x * 12) + bj)) a ad))))), (st1, .inl (cI, 8, .inl (nF (va_up sta x (f_chg (sta x) a true))))), (e1, .inl (cI, 8, .inl (nF (va_up en x (f_chg (en x) bj false)))))] H := hP
          have hD : va_D A [(h0, .inr (1, [.ref m1, .ref t1, .ref s1, .ref st1, .ref e1, .int (nI (if ad = true then fs + 1 else fs - 1))])), (m1, .inl (cI, 10, .inl (nF mb))), (t1, .inl (cI, 96, .inl (nF (va_up tg ((x * 12) + a) (f_chg (tg ((x * 12) + a)) bj ad))))), (s1, .inl (cI, 96, .inl (nF (va_up sr ((x * 12) + bj) (f_chg (sr ((x * 12) + bj)) a ad))))), (st1, .inl (cI, 8, .inl (nF (va_up sta x (f_chg (sta x) a true))))), (e1, .inl (cI, 8, .inl (nF (va_up en x (f_chg (en x) bj false)))))] := hD
          subst hQ
          subst hAe
          have hP9 := hP.sub (ws' := [(h0, .inr (1, [.ref m1, .ref t1, .ref s1, .ref st1, .ref e1, .int (nI (if ad = true then fs + 1 else fs - 1))])), (m1, .inl (cI, 10, .inl (nF mb))), (t1, .inl (cI, 96, .inl (nF (va_up tg ((x * 12) + a) (f_chg (tg ((x * 12) + a)) bj ad))))), (s1, .inl (cI, 96, .inl (nF (va_up sr ((x * 12) + bj) (f_chg (sr ((x * 12) + bj)) a ad))))), (st1, .inl (cI, 8, .inl (nF (va_up sta x (f_chg (sta x) a true))))), (e1, .inl (cI, 8, .inl (nF (va_up en x (f_chg (en x) bj false)))))]) [0, 1, 2, 3, 4, 5] rfl
          exact W.vret hx hb hr (fun t9 h9 _ => ⟨⟨(mb, va_up tg ((x * 12) + a) (f_chg (tg ((x * 12) + a)) bj ad), va_up sr ((x * 12) + bj) (f_chg (sr ((x * 12) + bj)) a ad), va_up sta x (f_chg (sta x) a true), va_up en x (f_chg (en x) bj false)), rfl, (show f_fput ro mb tg sr sta en x a b ad mb (va_up tg ((x * 12) + a) (f_chg (tg ((x * 12) + a)) bj ad)) (va_up sr ((x * 12) + bj) (f_chg (sr ((x * 12) + bj)) a ad)) (va_up sta x (f_chg (sta x) a true)) (va_up en x (f_chg (en x) bj false)) from by (first | (rw [f_fput, if_pos (by assumption), ebj, nI_clamp (by omega)]; exact ⟨rfl, rfl, rfl, congrArg (va_up sta x) (congrArg (f_chg (sta x) a) (by (symm; first | exact decide_eq_true (by omega) | exact decide_eq_false (by omega)))), congrArg (va_up en x) (congrArg (f_chg (en x) bj) (by (symm; first | exact decide_eq_true (by omega) | exact decide_eq_false (by omega))))⟩) | (rw [f_fput, if_neg (by simp_all)]; exact ⟨rfl, rfl, rfl, rfl, rfl⟩))), by show va_P _ _ _ t9.heap; rw [h9]; exact hP9⟩, hS.F h9⟩) hS.2.2 dX1_put_165
      · refine lv_iconst (v := (nI (1))) hx hb dX1_put_116 (by decide) ?_
        refine lv_goto (tgt := 121) hx hb dX1_put_117 (by decide) ?_
        refine vp_callSi (va_Run.run (va_runS (As := [.int (nI (en x)), .int (nI (bj)), .int (nI (1))]) (rest := [.int (nI (x)), .ref e1]) ⟨hx, hb, hml, hown, hts⟩ (c_Facts_changed l dC dI cI cL cQ cZ (en x) bj true (show (en x) < 4096 from by first | assumption | omega) (show bj < 12 from by first | assumption | omega)) (q_cwS 3 hts gkX1_changed kmX1_35 ksX1_changed kiX1 rfl rfl rfl (by decide +kernel) ⟨Nat.le_of_ble_eq_true rfl, Nat.le_of_ble_eq_true rfl⟩) (q_preS hK hP [] rfl) rfl rfl hl.1 rfl (lv_room (Nat.le_of_ble_eq_true rfl)) dX1_put_121 ⟨Nat.zero_le _, Nat.zero_le _⟩)) (fun r31 hr31 => ?_)
        subst hr31
        refine q_iastN hx hb hK hP hD hS 5 0 rfl rfl (j := x) (x := f_chg (en x) bj true) (by omega) (by omega) dX1_put_124 (fun H locs hP hD hS => ?_)
        have hP : va_P (dC, dI) qCl [(h0, .inr (1, [.ref m1, .ref t1, .ref s1, .ref st1, .ref e1, .int (nI (fs))])), (m1, .inl (cI, 10, .inl (nF mb))), (t1, .inl (cI, 96, .inl (nF (va_up tg ((x * 12) + a) (f_chg (tg ((x * 12) + a)) bj ad))))), (s1, .inl (cI, 96, .inl (nF (va_up sr ((x * 12) + bj) (f_chg (sr ((x * 12) + bj)) a ad))))), (st1, .inl (cI, 8, .inl (nF (va_up sta x (f_chg (sta x) a true))))), (e1, .inl (cI, 8, .inl (nF (va_up en x (f_chg (en x) bj true)))))] H := hP
        have hD : va_D A [(h0, .inr (1, [.ref m1, .ref t1, .ref s1, .ref st1, .ref e1, .int (nI (fs))])), (m1, .inl (cI, 10, .inl (nF mb))), (t1, .inl (cI, 96, .inl (nF (va_up tg ((x * 12) + a) (f_chg (tg ((x * 12) + a)) bj ad))))), (s1, .inl (cI, 96, .inl (nF (va_up sr ((x * 12) + bj) (f_chg (sr ((x * 12) + bj)) a ad))))), (st1, .inl (cI, 8, .inl (nF (va_up sta x (f_chg (sta x) a true))))), (e1, .inl (cI, 8, .inl (nF (va_up en x (f_chg (en x) bj true)))))] := hD
        refine lv_goto (tgt := 146) hx hb dX1_put_125 (by decide) ?_
        refine lv_aload_n hx hb dX1_put_146 rfl (lv_at hl 2 rfl) ?_
        refine lv_dup hx hb dX1_put_147 rfl ?_
        refine va_get (D := (dC, dI)) (ci := 1) (v := .int (nI (fs))) (C := RX1) (T := TX1) (N := 6) hx hb hts uX1 hown hK hP 0 rfl rfl 5 (by decide) (hts _ kfX1_27) (fun _ h9 => h9) rfl dX1_put_148 ?_
        refine lv_iload hx hb dX1_put_151 (lv_at hl 7 rfl) ?_
        refine q_ifb_eq (b := ad) (tgt := 160) hx hb dX1_put_153 (by decide) (fun c153_32 => ?_) (fun c153_32 => ?_)
        · refine lv_iconst (v := (oI (none))) hx hb dX1_put_160 (by decide) ?_
          refine lv_iadd hx hb dX1_put_161 ?_
          refine q_top (show ((nI (fs)) + (oI (none))) = (nI (fs - 1)) from (nI_m1 (hfs (by assumption)))) ?_
          refine va_put (D := (dC, dI)) (ci := 1) (v := .int (nI (fs - 1))) (ty := .int) (C := RX1) (T := TX1) (N := 6) hx hb hts uX1 tyX1 tyX1_ok nmX1 hown hK hP hD hS 0 rfl rfl 5 (by decide) (hts _ kfX1_27) (fun _ h9 => h9) rfl (by decide +kernel) (rfl) (rfl) (Nat.le_of_ble_eq_true rfl) dX1_put_162 (fun H locs hP hD hS => ?_)
          have hP : va_P (dC, dI) qCl [(h0, .inr (1, [.ref m1, .ref t1, .ref s1, .ref st1, .ref e1, .int (nI (fs - 1))])), (m1, .inl (cI, 10, .inl (nF mb))), (t1, .inl (cI, 96, .inl (nF (va_up tg ((x * 12) + a) (f_chg (tg ((x * 12) + a)) bj ad))))), (s1, .inl (cI, 96, .inl (nF (va_up sr ((x * 12) + bj) (f_chg (sr ((x * 12) + bj)) a ad))))), (st1, .inl (cI, 8, .inl (nF (va_up sta x (f_chg (sta x) a true))))), (e1, .inl (cI, 8, .inl (nF (va_up en x (f_chg (en x) bj true)))))] H := hP
          have hD : va_D A [(h0, .inr (1, [.ref m1, .ref t1, .ref s1, .ref st1, .ref e1, .int (nI (fs - 1))])), (m1, .inl (cI, 10, .inl (nF mb))), (t1, .inl (cI, 96, .inl (nF (va_up tg ((x * 12) + a) (f_chg (tg ((x * 12) + a)) bj ad))))), (s1, .inl (cI, 96, .inl (nF (va_up sr ((x * 12) + bj) (f_chg (sr ((x * 12) + bj)) a ad))))), (st1, .inl (cI, 8, .inl (nF (va_up sta x (f_chg (sta x) a true))))), (e1, .inl (cI, 8, .inl (nF (va_up en x (f_chg (en x) bj true)))))] := hD
          have ef33 : (.int (nI (fs - 1)) : Value) = .int (nI (if ad = true then fs + 1 else fs - 1)) := by (simp [*])
          rw [ef33] at hP hD
          have hP : va_P (dC, dI) qCl [(h0, .inr (1, [.ref m1, .ref t1, .ref s1, .ref st1, .ref e1, .int (nI (if ad = true then fs + 1 else fs - 1))])), (m1, .inl (cI, 10, .inl (nF mb))), (t1, .inl (cI, 96, .inl (nF (va_up tg ((x * 12) + a) (f_chg (tg ((x * 12) + a)) bj ad))))), (s1, .inl (cI, 96, .inl (nF (va_up sr ((x * 12) + bj) (f_chg (sr ((x * 12) + bj)) a ad))))), (st1, .inl (cI, 8, .inl (nF (va_up sta x (f_chg (sta x) a true))))), (e1, .inl (cI, 8, .inl (nF (va_up en x (f_chg (en x) bj true)))))] H := hP
          have hD : va_D A [(h0, .inr (1, [.ref m1, .ref t1, .ref s1, .ref st1, .ref e1, .int (nI (if ad = true then fs + 1 else fs - 1))])), (m1, .inl (cI, 10, .inl (nF mb))), (t1, .inl (cI, 96, .inl (nF (va_up tg ((x * 12) + a) (f_chg (tg ((x * 12) + a)) bj ad))))), (s1, .inl (cI, 96, .inl (nF (va_up sr ((x * 12) + bj) (f_chg (sr ((x * 12) + bj)) a ad))))), (st1, .inl (cI, 8, .inl (nF (va_up sta x (f_chg (sta x) a true))))), (e1, .inl (cI, 8, .inl (nF (va_up en x (f_chg (en x) bj true)))))] := hD
          subst hQ
          subst hAe
          have hP9 := hP.sub (ws' := [(h0, .inr (1, [.ref m1, .ref t1, .ref s1, .ref st1, .ref e1, .int (nI (if ad = true then fs + 1 else fs - 1))])), (m1, .inl (cI, 10, .inl (nF mb))), (t1, .inl (cI, 96, .inl (nF (va_up tg ((x * 12) + a) (f_chg (tg ((x * 12) + a)) bj ad))))), (s1, .inl (cI, 96, .inl (nF (va_up sr ((x * 12) + bj) (f_chg (sr ((x * 12) + bj)) a ad))))), (st1, .inl (cI, 8, .inl (nF (va_up sta x (f_chg (sta x) a true))))), (e1, .inl (cI, 8, .inl (nF (va_up en x (f_chg (en x) bj true)))))]) [0, 1, 2, 3, 4, 5] rfl
          exact W.vret hx hb hr (fun t9 h9 _ => ⟨⟨(mb, va_up tg ((x * 12) + a) (f_chg (tg ((x * 12) + a)) bj ad), va_up sr ((x * 12) + bj) (f_chg (sr ((x * 12) + bj)) a ad), va_up sta x (f_chg (sta x) a true), va_up en x (f_chg (en x) bj true)), rfl, (show f_fput ro mb tg sr sta en x a b ad mb (va_up tg ((x * 12) + a) (f_chg (tg ((x * 12) + a)) bj ad)) (va_up sr ((x * 12) + bj) (f_chg (sr ((x * 12) + bj)) a ad)) (va_up sta x (f_chg (sta x) a true)) (va_up en x (f_chg (en x) bj true)) from by (first | (rw [f_fput, if_pos (by assumption), ebj, nI_clamp (by omega)]; exact ⟨rfl, rfl, rfl, congrArg (va_up sta x) (congrArg (f_chg (sta x) a) (by (symm; first | exact decide_eq_true (by omega) | exact decide_eq_false (by omega)))), congrArg (va_up en x) (congrArg (f_chg (en x) bj) (by (symm; first | exact decide_eq_true (by omega) | exact decide_eq_false (by omega))))⟩) | (rw [f_fput, if_neg (by simp_all)]; exact ⟨rfl, rfl, rfl, rfl, rfl⟩))), by show va_P _ _ _ t9.heap; rw [h9]; exact hP9⟩, hS.F h9⟩) hS.2.2 dX1_put_165
        · refine lv_iconst (v := (nI (1))) hx hb dX1_put_156 (by decide) ?_
          refine lv_goto (tgt := 161) hx hb dX1_put_157 (by decide) ?_
          refine q_iadd (x := fs) (y := 1) hx hb dX1_put_161 ?_
          refine va_put (D := (dC, dI)) (ci := 1) (v := .int (nI (fs + 1))) (ty := .int) (C := RX1) (T := TX1) (N := 6) hx hb hts uX1 tyX1 tyX1_ok nmX1 hown hK hP hD hS 0 rfl rfl 5 (by decide) (hts _ kfX1_27) (fun _ h9 => h9) rfl (by decide +kernel) (rfl) (rfl) (Nat.le_of_ble_eq_true rfl) dX1_put_162 (fun H locs hP hD hS => ?_)
          have hP : va_P (dC, dI) qCl [(h0, .inr (1, [.ref m1, .ref t1, .ref s1, .ref st1, .ref e1, .int (nI (fs + 1))])), (m1, .inl (cI, 10, .inl (nF mb))), (t1, .inl (cI, 96, .inl (nF (va_up tg ((x * 12) + a) (f_chg (tg ((x * 12) + a)) bj ad))))), (s1, .inl (cI, 96, .inl (nF (va_up sr ((x * 12) + bj) (f_chg (sr ((x * 12) + bj)) a ad))))), (st1, .inl (cI, 8, .inl (nF (va_up sta x (f_chg (sta x) a true))))), (e1, .inl (cI, 8, .inl (nF (va_up en x (f_chg (en x) bj true)))))] H := hP
          have hD : va_D A [(h0, .inr (1, [.ref m1, .ref t1, .ref s1, .ref st1, .ref e1, .int (nI (fs + 1))])), (m1, .inl (cI, 10, .inl (nF mb))), (t1, .inl (cI, 96, .inl (nF (va_up tg ((x * 12) + a) (f_chg (tg ((x * 12) + a)) bj ad))))), (s1, .inl (cI, 96, .inl (nF (va_up sr ((x * 12) + bj) (f_chg (sr ((x * 12) + bj)) a ad))))), (st1, .inl (cI, 8, .inl (nF (va_up sta x (f_chg (sta x) a true))))), (e1, .inl (cI, 8, .inl (nF (va_up en x (f_chg (en x) bj true)))))] := hD
          have ef34 : (.int (nI (fs + 1)) : Value) = .int (nI (if ad = true then fs + 1 else fs - 1)) := by (simp [*])
          rw [ef34] at hP hD
          have hP : va_P (dC, dI) qCl [(h0, .inr (1, [.ref m1, .ref t1, .ref s1, .ref st1, .ref e1, .int (nI (if ad = true then fs + 1 else fs - 1))])), (m1, .inl (cI, 10, .inl (nF mb))), (t1, .inl (cI, 96, .inl (nF (va_up tg ((x * 12) + a) (f_chg (tg ((x * 12) + a)) bj ad))))), (s1, .inl (cI, 96, .inl (nF (va_up sr ((x * 12) + bj) (f_chg (sr ((x * 12) + bj)) a ad))))), (st1, .inl (cI, 8, .inl (nF (va_up sta x (f_chg (sta x) a true))))), (e1, .inl (cI, 8, .inl (nF (va_up en x (f_chg (en x) bj true)))))] H := hP
          have hD : va_D A [(h0, .inr (1, [.ref m1, .ref t1, .ref s1, .ref st1, .ref e1, .int (nI (if ad = true then fs + 1 else fs - 1))])), (m1, .inl (cI, 10, .inl (nF mb))), (t1, .inl (cI, 96, .inl (nF (va_up tg ((x * 12) + a) (f_chg (tg ((x * 12) + a)) bj ad))))), (s1, .inl (cI, 96, .inl (nF (va_up sr ((x * 12) + bj) (f_chg (sr ((x * 12) + bj)) a ad))))), (st1, .inl (cI, 8, .inl (nF (va_up sta x (f_chg (sta x) a true))))), (e1, .inl (cI, 8, .inl (nF (va_up en x (f_chg (en x) bj true)))))] := hD
          subst hQ
          subst hAe
          have hP9 := hP.sub (ws' := [(h0, .inr (1, [.ref m1, .ref t1, .ref s1, .ref st1, .ref e1, .int (nI (if ad = true then fs + 1 else fs - 1))])), (m1, .inl (cI, 10, .inl (nF mb))), (t1, .inl (cI, 96, .inl (nF (va_up tg ((x * 12) + a) (f_chg (tg ((x * 12) + a)) bj ad))))), (s1, .inl (cI, 96, .inl (nF (va_up sr ((x * 12) + bj) (f_chg (sr ((x * 12) + bj)) a ad))))), (st1, .inl (cI, 8, .inl (nF (va_up sta x (f_chg (sta x) a true))))), (e1, .inl (cI, 8, .inl (nF (va_up en x (f_chg (en x) bj true)))))]) [0, 1, 2, 3, 4, 5] rfl
          exact W.vret hx hb hr (fun t9 h9 _ => ⟨⟨(mb, va_up tg ((x * 12) + a) (f_chg (tg ((x * 12) + a)) bj ad), va_up sr ((x * 12) + bj) (f_chg (sr ((x * 12) + bj)) a ad), va_up sta x (f_chg (sta x) a true), va_up en x (f_chg (en x) bj true)), rfl, (show f_fput ro mb tg sr sta en x a b ad mb (va_up tg ((x * 12) + a) (f_chg (tg ((x * 12) + a)) bj ad)) (va_up sr ((x * 12) + bj) (f_chg (sr ((x * 12) + bj)) a ad)) (va_up sta x (f_chg (sta x) a true)) (va_up en x (f_chg (en x) bj true)) from by (first | (rw [f_fput, if_pos (by assumption), ebj, nI_clamp (by omega)]; exact ⟨rfl, rfl, rfl, congrArg (va_up sta x) (congrArg (f_chg (sta x) a) (by (symm; first | exact decide_eq_true (by omega) | exact decide_eq_false (by omega)))), congrArg (va_up en x) (congrArg (f_chg (en x) bj) (by (symm; first | exact decide_eq_true (by omega) | exact decide_eq_false (by omega))))⟩) | (rw [f_fput, if_neg (by simp_all)]; exact ⟨rfl, rfl, rfl, rfl, rfl⟩))), by show va_P _ _ _ t9.heap; rw [h9]; exact hP9⟩, hS.F h9⟩) hS.2.2 dX1_put_165
abbrev rm_c_Finder_thingOf : Room := { frames := 0, cells := 0, slots := 0, locals := 0 }
set_option maxHeartbeats 4000000 in
set_option maxRecDepth 100000 in
theorem c_Finder_thingOf (l : Launch) (dC : Nat → ClassId) (dI : Nat → Nat → Nat) (cI cL cQ cZ : ClassId) (n0 : Nat) (fc0 : Nat) (fm0 : Nat) (th : Nat) (tv : Nat → Option Nat) (v : Nat) (hv : v < 16) : Met l yX2_thingOf wkX2_thingOf rm_c_Finder_thingOf (q_R (dC, dI) qCl (qT cI cL cQ cZ) [(n0, .inr (2, [.ref fc0, .ref fm0, .ref th])), (th, .inl (cI, 6, .inl (oF tv)))] [.ref n0, .int (nI (v))]) (vp_Si (fun r => r = (oI (f_th tv v)))) 0 0 (fun _ => False) := by
  refine Met.ofW (cc := cX2_thingOf) (maxL := 2) (ret := (some .int)) (by decide) rfl ?_
  intro p e s m args below meth c s₁ B hml hv
  obtain ⟨hargs, hP, hK⟩ := hv
  have hx := B.exec
  have hb := B.bytes
  have hr := B.returns
  have hts : ∀ w ∈ qW, w.before args s = true := fun w h => atoms_spec (ws := wkX2_thingOf) B.pre w (List.mem_cons_of_mem _ h)
  have hown : s.vm.findClass RX2 = some m.cls := findClass_of_methodNamed B.named
  have hlocks := B.notSynchronized
  refine q_named (fun Q hQ => ?_)
  refine q_entry hargs (Nat.le_of_ble_eq_true rfl) (fun ls hl => ?_)
  have hl : lv_has ls 2 [(0, .ref n0), (1, .int (nI (v)))] := hl
  refine lv_iload_n hx hb dX2_thingOf_0 rfl (lv_at hl 1 rfl) ?_
  refine lv_bipush (v := (nI (6))) hx hb dX2_thingOf_1 (by decide) ?_
  refine q_icmp_ge (x := v) (y := 6) (tgt := 15) hx hb dX2_thingOf_3 (by decide) (by omega) (by omega) (fun c3_1 => ?_) (fun c3_1 => ?_)
  · refine lv_iconst (v := (oI (none))) hx hb dX2_thingOf_15 (by decide) ?_
    subst hQ
    exact W.iret (v := (oI (none))) hx hb hr (fun t9 h9 _ => ⟨_, rfl, show (oI (none)) = (oI (f_th tv v)) from by (first | (rw [f_th, if_pos (by omega)]) | (rw [f_th, if_neg (by omega)])), h9⟩) (fun q hq => by cases hq) dX2_thingOf_16
  · refine lv_aload_n hx hb dX2_thingOf_6 rfl (lv_at hl 0 rfl) ?_
    refine va_get (D := (dC, dI)) (ci := 2) (v := .ref th) (C := RX2) (T := TX2) (N := 3) hx hb hts uX2 hown hK hP 0 rfl rfl 2 (by decide) (hts _ kfX2_18) (fun _ h9 => h9) rfl dX2_thingOf_7 ?_
    refine lv_iload_n hx hb dX2_thingOf_10 rfl (lv_at hl 1 rfl) ?_
    refine q_ialdO hx hb hK hP 1 0 rfl rfl (j := v) (by omega) (by omega) dX2_thingOf_11 ?_
    refine lv_goto (tgt := 16) hx hb dX2_thingOf_12 (by decide) ?_
    subst hQ
    exact W.iret (v := (oI (tv v))) hx hb hr (fun t9 h9 _ => ⟨_, rfl, show (oI (tv v)) = (oI (f_th tv v)) from by (first | (rw [f_th, if_pos (by omega)]) | (rw [f_th, if_neg (by omega)])), h9⟩) (fun q hq => by cases hq) dX2_thingOf_16
abbrev rm_c_Finder_holdsAnywhere : Room := { frames := 0, cells := 0, slots := 0, locals := 0 }
set_option maxHeartbeats 4000000 in
set_option maxRecDepth 100000 in
theorem c_Finder_holdsAnywhere (l : Launch) (dC : Nat → ClassId) (dI : Nat → Nat → Nat) (cI cL cQ cZ : ClassId) (n0 : Nat) (fc0 : Nat) (fm0 : Nat) (th : Nat) (m1 : Nat) (t1 : Nat) (s1 : Nat) (st1 : Nat) (e1 : Nat) (fs : Nat) (mb : Nat → Nat) (tg : Nat → Nat) (sr : Nat → Nat) (sta : Nat → Nat) (en : Nat → Nat) (a1 : Nat) (a2 : Nat) (n : Nat) (jn : Bool) (nm : Nat → Nat) (pl : Nat → Nat) (tv : Nat → Option Nat) (hmb : ∀ j, mb j < 4096) (htg : ∀ j, tg j < 4096) (hsr : ∀ j, sr j < 4096) (hsta : ∀ j, sta j < 4096) (hen : ∀ j, en j < 4096) (hn : n ≤ 4) (hnm : f_nok nm n) (hpl : ∀ j, pl j < 16) : Met l yX2_holdsAnywhere wkX2_holdsAnywhere rm_c_Finder_holdsAnywhere (q_R (dC, dI) qCl (qT cI cL cQ cZ) [(n0, .inr (2, [.ref fc0, .ref fm0, .ref th])), (th, .inl (cI, 6, .inl (oF tv))), (fc0, .inr (1, [.ref m1, .ref t1, .ref s1, .ref st1, .ref e1, .int (nI (fs))])), (m1, .inl (cI, 10, .inl (nF mb))), (t1, .inl (cI, 96, .inl (nF tg))), (s1, .inl (cI, 96, .inl (nF sr))), (st1, .inl (cI, 8, .inl (nF sta))), (e1, .inl (cI, 8, .inl (nF en))), (fm0, .inr (3, [.ref a1, .ref a2, .int (nI (n)), .int (bI (jn))])), (a1, .inl (cI, 4, .inl (nF nm))), (a2, .inl (cI, 8, .inl (nF pl)))] [.ref n0]) (vp_Si (fun r => ∃ b9 : Bool, r = bI b9 ∧ (b9 = true ↔ ∀ q7, q7 < n → f_ne nm mb sta q7))) 0 0 (fun _ => False) := by
  refine Met.ofW (cc := cX2_holdsAnywhere) (maxL := 4) (ret := (some .boolean)) (by decide) rfl ?_
  intro p e s m args below meth c s₁ B hml hv
  obtain ⟨hargs, hP, hK⟩ := hv
  have hx := B.exec
  have hb := B.bytes
  have hr := B.returns
  have hts : ∀ w ∈ qW, w.before args s = true := fun w h => atoms_spec (ws := wkX2_holdsAnywhere) B.pre w (List.mem_cons_of_mem _ h)
  have hown : s.vm.findClass RX2 = some m.cls := findClass_of_methodNamed B.named
  have hlocks := B.notSynchronized
  refine q_named (fun Q hQ => ?_)
  refine q_entry hargs (Nat.le_of_ble_eq_true rfl) (fun ls hl => ?_)
  have hl : lv_has ls 4 [(0, .ref n0)] := hl
  refine lv_iconst (v := (nI (0))) hx hb dX2_holdsAnywhere_0 (by decide) ?_
  refine lv_istore_n (lv' := [(1, .int (nI (0))), (0, .ref n0)]) hx hb dX2_holdsAnywhere_1 rfl hl (by decide) rfl (fun ls hl => ?_)
  have L2 : ∀ (fu : Nat) (i : Nat) (ls : Array Slot), n - i < fu → (i ≤ n) → (∀ j, j < i → f_ne nm mb sta j) → lv_has ls 4 [(1, .int (nI (i))), (0, .ref n0)] → W p l e (headSpec wkX2_holdsAnywhere rm_c_Finder_holdsAnywhere).room s m args below meth c s.heap [] 0 0 Q (F0 m 2 ls []) := by
    intro fu
    induction fu with
    | zero => intro i ls hmu; exact absurd hmu (Nat.not_lt_zero _)
    | succ fu ih2 =>
      intro i ls hmu hi ha hl
      refine lv_iload_n hx hb dX2_holdsAnywhere_2 rfl (lv_at hl 0 rfl) ?_
      refine lv_aload_n hx hb dX2_holdsAnywhere_3 rfl (lv_at hl 1 rfl) ?_
      refine va_get (D := (dC, dI)) (ci := 2) (v := .ref fm0) (C := RX2) (T := TX2) (N := 3) hx hb hts uX2 hown hK hP 0 rfl rfl 1 (by decide) (hts _ kfX2_12) (fun _ h9 => h9) rfl dX2_holdsAnywhere_4 ?_
      refine va_get (D := (dC, dI)) (ci := 3) (v := .int (nI (n))) (C := RX3) (T := TX3) (N := 4) hx hb hts uX3 hown hK hP 8 rfl rfl 2 (by decide) (hts _ kfX2_68) (fun _ h9 => h9) rfl dX2_holdsAnywhere_7 ?_
      refine q_icmp_ge (x := i) (y := n) (tgt := 66) hx hb dX2_holdsAnywhere_10 (by decide) (by omega) (by omega) (fun c10_1 => ?_) (fun c10_1 => ?_)
      · refine lv_iconst (v := (nI (1))) hx hb dX2_holdsAnywhere_66 (by decide) ?_
        subst hQ
        exact W.zret (v := (nI (1))) hx hb hr (by decide) (fun t9 h9 _ => ⟨_, rfl, show ∃ b9 : Bool, (nI (1)) = bI b9 ∧ (b9 = true ↔ ∀ q7, q7 < n → f_ne nm mb sta q7) from by (exact ⟨true, rfl, fun _ j hj => ha j (by omega), fun _ => rfl⟩), h9⟩) (fun q hq => by cases hq) dX2_holdsAnywhere_67
      · have hn9 := hnm i (by omega)
        refine lv_aload_n hx hb dX2_holdsAnywhere_13 rfl (lv_at hl 1 rfl) ?_
        refine va_get (D := (dC, dI)) (ci := 2) (v := .ref fm0) (C := RX2) (T := TX2) (N := 3) hx hb hts uX2 hown hK hP 0 rfl rfl 1 (by decide) (hts _ kfX2_12) (fun _ h9 => h9) rfl dX2_holdsAnywhere_14 ?_
        refine va_get (D := (dC, dI)) (ci := 3) (v := .ref a1) (C := RX3) (T := TX3) (N := 4) hx hb hts uX3 hown hK hP 8 rfl rfl 0 (by decide) (hts _ kfX2_69) (fun _ h9 => h9) rfl dX2_holdsAnywhere_17 ?_
        refine lv_iload_n hx hb dX2_holdsAnywhere_20 rfl (lv_at hl 0 rfl) ?_
        refine q_ialdN hx hb hK hP 9 0 rfl rfl (j := i) (by omega) (by omega) dX2_holdsAnywhere_21 ?_
        refine lv_istore_n (lv' := [(2, .int (nI (nm i))), (1, .int (nI (i))), (0, .ref n0)]) hx hb dX2_holdsAnywhere_22 rfl hl (by decide) rfl (fun ls hl => ?_)
        refine lv_iload_n hx hb dX2_holdsAnywhere_23 rfl (lv_at hl 0 rfl) ?_
        refine lv_bipush (v := (nI (32))) hx hb dX2_holdsAnywhere_24 (by decide) ?_
        refine q_icmp_ge (x := nm i) (y := 32) (tgt := 41) hx hb dX2_holdsAnywhere_26 (by decide) (by omega) (by omega) (fun c26_2 => ?_) (fun c26_2 => ?_)
        · refine lv_aload_n hx hb dX2_holdsAnywhere_41 rfl (lv_at hl 2 rfl) ?_
          refine va_get (D := (dC, dI)) (ci := 2) (v := .ref fc0) (C := RX2) (T := TX2) (N := 3) hx hb hts uX2 hown hK hP 0 rfl rfl 0 (by decide) (hts _ kfX2_22) (fun _ h9 => h9) rfl dX2_holdsAnywhere_42 ?_
          refine va_get (D := (dC, dI)) (ci := 1) (v := .ref st1) (C := RX1) (T := TX1) (N := 6) hx hb hts uX1 hown hK hP 2 rfl rfl 3 (by decide) (hts _ kfX2_77) (fun _ h9 => h9) rfl dX2_holdsAnywhere_45 ?_
          refine lv_iload_n hx hb dX2_holdsAnywhere_48 rfl (lv_at hl 0 rfl) ?_
          refine lv_bipush (v := (nI (32))) hx hb dX2_holdsAnywhere_49 (by decide) ?_
          refine q_isub (x := nm i) (y := 32) hx hb (by omega) dX2_holdsAnywhere_51 ?_
          refine q_ialdN hx hb hK hP 6 0 rfl rfl (j := (nm i) - 32) (by omega) (by omega) dX2_holdsAnywhere_52 ?_
          have bd3 := hsta ((nm i) - 32)
          refine lv_istore_n (lv' := [(3, .int (nI (sta ((nm i) - 32)))), (2, .int (nI (nm i))), (1, .int (nI (i))), (0, .ref n0)]) hx hb dX2_holdsAnywhere_53 rfl hl (by decide) rfl (fun ls hl => ?_)
          refine lv_iload_n hx hb dX2_holdsAnywhere_54 rfl (lv_at hl 0 rfl) ?_
          refine q_if_ne (x := sta ((nm i) - 32)) (tgt := 60) hx hb dX2_holdsAnywhere_55 (by decide) (by omega) (fun c55_4 => ?_) (fun c55_4 => ?_)
          · refine lv_iinc (v := (nI (i + 1))) (lv' := [(1, .int (nI (i + 1))), (3, .int (nI (sta ((nm i) - 32)))), (2, .int (nI (nm i))), (0, .ref n0)]) hx hb dX2_holdsAnywhere_60 hl (k := 2) rfl (q_inc _) (by decide) rfl (fun ls hl => ?_)
            refine lv_goto (tgt := 2) hx hb dX2_holdsAnywhere_63 (by decide) ?_
            exact ih2 (i + 1) ls (by omega) (show (i + 1) ≤ n from by omega) (show ∀ j, j < (i + 1) → f_ne nm mb sta j from by (exact lt_s ha (by first | (rw [f_ne, if_pos (by omega)]; omega) | (rw [f_ne, if_neg (by omega)]; omega)))) (lv_sub hl [0, 3] rfl)
          · refine lv_iconst (v := (nI (0))) hx hb dX2_holdsAnywhere_58 (by decide) ?_
            subst hQ
            exact W.zret (v := (nI (0))) hx hb hr (by decide) (fun t9 h9 _ => ⟨_, rfl, show ∃ b9 : Bool, (nI (0)) = bI b9 ∧ (b9 = true ↔ ∀ q7, q7 < n → f_ne nm mb sta q7) from by (refine ⟨false, rfl, fun h => (by cases h), fun h9 => ?_⟩; have h8 := h9 i (by omega); unfold f_ne at h8; split at h8 <;> omega), h9⟩) (fun q hq => by cases hq) dX2_holdsAnywhere_59
        · refine lv_aload_n hx hb dX2_holdsAnywhere_29 rfl (lv_at hl 2 rfl) ?_
          refine va_get (D := (dC, dI)) (ci := 2) (v := .ref fc0) (C := RX2) (T := TX2) (N := 3) hx hb hts uX2 hown hK hP 0 rfl rfl 0 (by decide) (hts _ kfX2_22) (fun _ h9 => h9) rfl dX2_holdsAnywhere_30 ?_
          refine va_get (D := (dC, dI)) (ci := 1) (v := .ref m1) (C := RX1) (T := TX1) (N := 6) hx hb hts uX1 hown hK hP 2 rfl rfl 0 (by decide) (hts _ kfX2_72) (fun _ h9 => h9) rfl dX2_holdsAnywhere_33 ?_
          refine lv_iload_n hx hb dX2_holdsAnywhere_36 rfl (lv_at hl 0 rfl) ?_
          refine q_ialdN hx hb hK hP 3 0 rfl rfl (j := nm i) (by omega) (by omega) dX2_holdsAnywhere_37 ?_
          have bd5 := hmb (nm i)
          refine lv_goto (tgt := 53) hx hb dX2_holdsAnywhere_38 (by decide) ?_
          refine lv_istore_n (lv' := [(3, .int (nI (mb (nm i)))), (2, .int (nI (nm i))), (1, .int (nI (i))), (0, .ref n0)]) hx hb dX2_holdsAnywhere_53 rfl hl (by decide) rfl (fun ls hl => ?_)
          refine lv_iload_n hx hb dX2_holdsAnywhere_54 rfl (lv_at hl 0 rfl) ?_
          refine q_if_ne (x := mb (nm i)) (tgt := 60) hx hb dX2_holdsAnywhere_55 (by decide) (by omega) (fun c55_6 => ?_) (fun c55_6 => ?_)
          · refine lv_iinc (v := (nI (i + 1))) (lv' := [(1, .int (nI (i + 1))), (3, .int (nI (mb (nm i)))), (2, .int (nI (nm i))), (0, .ref n0)]) hx hb dX2_holdsAnywhere_60 hl (k := 2) rfl (q_inc _) (by decide) rfl (fun ls hl => ?_)
            refine lv_goto (tgt := 2) hx hb dX2_holdsAnywhere_63 (by decide) ?_
            exact ih2 (i + 1) ls (by omega) (show (i + 1) ≤ n from by omega) (show ∀ j, j < (i + 1) → f_ne nm mb sta j from by (exact lt_s ha (by first | (rw [f_ne, if_pos (by omega)]; omega) | (rw [f_ne, if_neg (by omega)]; omega)))) (lv_sub hl [0, 3] rfl)
          · refine lv_iconst (v := (nI (0))) hx hb dX2_holdsAnywhere_58 (by decide) ?_
            subst hQ
            exact W.zret (v := (nI (0))) hx hb hr (by decide) (fun t9 h9 _ => ⟨_, rfl, show ∃ b9 : Bool, (nI (0)) = bI b9 ∧ (b9 = true ↔ ∀ q7, q7 < n → f_ne nm mb sta q7) from by (refine ⟨false, rfl, fun h => (by cases h), fun h9 => ?_⟩; have h8 := h9 i (by omega); unfold f_ne at h8; split at h8 <;> omega), h9⟩) (fun q hq => by cases hq) dX2_holdsAnywhere_59
  exact L2 _ 0 ls (by exact Nat.lt_succ_self _) (show 0 ≤ n from by omega) (show ∀ j, j < 0 → f_ne nm mb sta j from by (intro j hj; omega)) (lv_sub hl [0, 1] rfl)
abbrev rm_c_Finder_fitting : Room := { frames := 1, cells := 0, slots := 0, locals := 23 }
set_option maxHeartbeats 4000000 in
set_option maxRecDepth 100000 in
theorem c_Finder_fitting (l : Launch) (dC : Nat → ClassId) (dI : Nat → Nat → Nat) (cI cL cQ cZ : ClassId) (n0 : Nat) (fc0 : Nat) (fm0 : Nat) (th : Nat) (m1 : Nat) (t1 : Nat) (s1 : Nat) (st1 : Nat) (e1 : Nat) (fs : Nat) (mb : Nat → Nat) (tg : Nat → Nat) (sr : Nat → Nat) (sta : Nat → Nat) (en : Nat → Nat) (a1 : Nat) (a2 : Nat) (n : Nat) (jn : Bool) (nm : Nat → Nat) (pl : Nat → Nat) (tv : Nat → Option Nat) (v : Nat) (hmb : ∀ j, mb j < 4096) (htg : ∀ j, tg j < 4096) (hsr : ∀ j, sr j < 4096) (hsta : ∀ j, sta j < 4096) (hen : ∀ j, en j < 4096) (hn : n ≤ 4) (hnm : f_nok nm n) (hpl : ∀ j, pl j < 16) (hv : v < 16) (htv : ∀ j k, tv j = some k → k < 12) : Met l yX2_fitting wkX2_fitting rm_c_Finder_fitting (q_R (dC, dI) qCl (qT cI cL cQ cZ) [(n0, .inr (2, [.ref fc0, .ref fm0, .ref th])), (th, .inl (cI, 6, .inl (oF tv))), (fc0, .inr (1, [.ref m1, .ref t1, .ref s1, .ref st1, .ref e1, .int (nI (fs))])), (m1, .inl (cI, 10, .inl (nF mb))), (t1, .inl (cI, 96, .inl (nF tg))), (s1, .inl (cI, 96, .inl (nF sr))), (st1, .inl (cI, 8, .inl (nF sta))), (e1, .inl (cI, 8, .inl (nF en))), (fm0, .inr (3, [.ref a1, .ref a2, .int (nI (n)), .int (bI (jn))])), (a1, .inl (cI, 4, .inl (nF nm))), (a2, .inl (cI, 8, .inl (nF pl)))] [.ref n0, .int (nI (v))]) (vp_Si (fun r => ∃ y9, r = nI y9 ∧ f_fits nm pl mb tg sr sta en tv v n y9)) 0 0 (fun _ => False) := by
  refine Met.ofW (cc := cX2_fitting) (maxL := 8) (ret := (some .int)) (by decide) rfl ?_
  intro p e s m args below meth c s₁ B hml hv
  obtain ⟨hargs, hP, hK⟩ := hv
  have hx := B.exec
  have hb := B.bytes
  have hr := B.returns
  have hts : ∀ w ∈ qW, w.before args s = true := fun w h => atoms_spec (ws := wkX2_fitting) B.pre w (List.mem_cons_of_mem _ h)
  have hown : s.vm.findClass RX2 = some m.cls := findClass_of_methodNamed B.named
  have hlocks := B.notSynchronized
  refine q_named (fun Q hQ => ?_)
  refine q_entry hargs (Nat.le_of_ble_eq_true rfl) (fun ls hl => ?_)
  have hl : lv_has ls 8 [(0, .ref n0), (1, .int (nI (v)))] := hl
  refine lv_sipush (v := (nI (4095))) hx hb dX2_fitting_0 (by decide) ?_
  refine lv_istore_n (lv' := [(2, .int (nI (4095))), (0, .ref n0), (1, .int (nI (v)))]) hx hb dX2_fitting_3 rfl hl (by decide) rfl (fun ls hl => ?_)
  refine lv_iconst (v := (nI (0))) hx hb dX2_fitting_4 (by decide) ?_
  refine lv_istore_n (lv' := [(3, .int (nI (0))), (2, .int (nI (4095))), (0, .ref n0), (1, .int (nI (v)))]) hx hb dX2_fitting_5 rfl hl (by decide) rfl (fun ls hl => ?_)
  have L6 : ∀ (fu : Nat) (y : Nat) (i : Nat) (ls : Array Slot), n - i < fu → (i ≤ n) → (f_fits nm pl mb tg sr sta en tv v i y) → lv_has ls 8 [(3, .int (nI (i))), (2, .int (nI (y))), (0, .ref n0), (1, .int (nI (v)))] → W p l e (headSpec wkX2_fitting rm_c_Finder_fitting).room s m args below meth c s.heap [] 0 0 Q (F0 m 6 ls []) := by
    intro fu
    induction fu with
    | zero => intro y i ls hmu; exact absurd hmu (Nat.not_lt_zero _)
    | succ fu ih6 =>
      intro y i ls hmu hi hy hl
      refine lv_iload_n hx hb dX2_fitting_6 rfl (lv_at hl 0 rfl) ?_
      refine lv_aload_n hx hb dX2_fitting_7 rfl (lv_at hl 2 rfl) ?_
      refine va_get (D := (dC, dI)) (ci := 2) (v := .ref fm0) (C := RX2) (T := TX2) (N := 3) hx hb hts uX2 hown hK hP 0 rfl rfl 1 (by decide) (hts _ kfX2_12) (fun _ h9 => h9) rfl dX2_fitting_8 ?_
      refine va_get (D := (dC, dI)) (ci := 3) (v := .int (nI (n))) (C := RX3) (T := TX3) (N := 4) hx hb hts uX3 hown hK hP 8 rfl rfl 2 (by decide) (hts _ kfX2_68) (fun _ h9 => h9) rfl dX2_fitting_11 ?_
      refine q_icmp_ge (x := i) (y := n) (tgt := 248) hx hb dX2_fitting_14 (by decide) (by omega) (by omega) (fun c14_1 => ?_) (fun c14_1 => ?_)
      · refine lv_iload_n hx hb dX2_fitting_248 rfl (lv_at hl 1 rfl) ?_
        subst hQ
        exact W.iret (v := (nI (y))) hx hb hr (fun t9 h9 _ => ⟨_, rfl, show ∃ y9, (nI (y)) = nI y9 ∧ f_fits nm pl mb tg sr sta en tv v n y9 from by (exact ⟨y, rfl, by rw [show n = i by omega]; exact hy⟩), h9⟩) (fun q hq => by cases hq) dX2_fitting_249
      · have hn9 := hnm i (by omega)
        refine lv_aload_n hx hb dX2_fitting_17 rfl (lv_at hl 2 rfl) ?_
        refine va_get (D := (dC, dI)) (ci := 2) (v := .ref fm0) (C := RX2) (T := TX2) (N := 3) hx hb hts uX2 hown hK hP 0 rfl rfl 1 (by decide) (hts _ kfX2_12) (fun _ h9 => h9) rfl dX2_fitting_18 ?_
        refine va_get (D := (dC, dI)) (ci := 3) (v := .ref a2) (C := RX3) (T := TX3) (N := 4) hx hb hts uX3 hown hK hP 8 rfl rfl 1 (by decide) (hts _ kfX2_94) (fun _ h9 => h9) rfl dX2_fitting_21 ?_
        refine lv_iconst (v := (nI (2))) hx hb dX2_fitting_24 (by decide) ?_
        refine lv_iload_n hx hb dX2_fitting_25 rfl (lv_at hl 0 rfl) ?_
        refine q_imul (x := 2) (y := i) hx hb dX2_fitting_26 ?_
        refine q_ialdN hx hb hK hP 10 0 rfl rfl (j := 2 * i) (by omega) (by omega) dX2_fitting_27 ?_
        have bd2 := hpl (2 * i)
        refine lv_istore (lv' := [(4, .int (nI (pl (2 * i)))), (3, .int (nI (i))), (2, .int (nI (y))), (0, .ref n0), (1, .int (nI (v)))]) hx hb dX2_fitting_28 hl (by decide) rfl (fun ls hl => ?_)
        refine lv_aload_n hx hb dX2_fitting_30 rfl (lv_at hl 3 rfl) ?_
        refine va_get (D := (dC, dI)) (ci := 2) (v := .ref fm0) (C := RX2) (T := TX2) (N := 3) hx hb hts uX2 hown hK hP 0 rfl rfl 1 (by decide) (hts _ kfX2_12) (fun _ h9 => h9) rfl dX2_fitting_31 ?_
        refine va_get (D := (dC, dI)) (ci := 3) (v := .ref a2) (C := RX3) (T := TX3) (N := 4) hx hb hts uX3 hown hK hP 8 rfl rfl 1 (by decide) (hts _ kfX2_94) (fun _ h9 => h9) rfl dX2_fitting_34 ?_
        refine lv_iconst (v := (nI (2))) hx hb dX2_fitting_37 (by decide) ?_
        refine lv_iload_n hx hb dX2_fitting_38 rfl (lv_at hl 1 rfl) ?_
        refine q_imul (x := 2) (y := i) hx hb dX2_fitting_39 ?_
        refine lv_iconst (v := (nI (1))) hx hb dX2_fitting_40 (by decide) ?_
        refine q_iadd (x := 2 * i) (y := 1) hx hb dX2_fitting_41 ?_
        refine q_ialdN hx hb hK hP 10 0 rfl rfl (j := (2 * i) + 1) (by omega) (by omega) dX2_fitting_42 ?_
        have bd3 := hpl ((2 * i) + 1)
        refine lv_istore (lv' := [(5, .int (nI (pl ((2 * i) + 1)))), (4, .int (nI (pl (2 * i)))), (3, .int (nI (i))), (2, .int (nI (y))), (0, .ref n0), (1, .int (nI (v)))]) hx hb dX2_fitting_43 hl (by decide) rfl (fun ls hl => ?_)
        refine lv_aload_n hx hb dX2_fitting_45 rfl (lv_at hl 4 rfl) ?_
        refine va_get (D := (dC, dI)) (ci := 2) (v := .ref fm0) (C := RX2) (T := TX2) (N := 3) hx hb hts uX2 hown hK hP 0 rfl rfl 1 (by decide) (hts _ kfX2_12) (fun _ h9 => h9) rfl dX2_fitting_46 ?_
        refine va_get (D := (dC, dI)) (ci := 3) (v := .ref a1) (C := RX3) (T := TX3) (N := 4) hx hb hts uX3 hown hK hP 8 rfl rfl 0 (by decide) (hts _ kfX2_69) (fun _ h9 => h9) rfl dX2_fitting_49 ?_
        refine lv_iload_n hx hb dX2_fitting_52 rfl (lv_at hl 2 rfl) ?_
        refine q_ialdN hx hb hK hP 9 0 rfl rfl (j := i) (by omega) (by omega) dX2_fitting_53 ?_
        refine lv_bipush (v := (nI (32))) hx hb dX2_fitting_54 (by decide) ?_
        refine q_icmp_ge (x := nm i) (y := 32) (tgt := 94) hx hb dX2_fitting_56 (by decide) (by omega) (by omega) (fun c56_4 => ?_) (fun c56_4 => ?_)
        · refine lv_aload_n hx hb dX2_fitting_94 rfl (lv_at hl 4 rfl) ?_
          refine va_get (D := (dC, dI)) (ci := 2) (v := .ref fm0) (C := RX2) (T := TX2) (N := 3) hx hb hts uX2 hown hK hP 0 rfl rfl 1 (by decide) (hts _ kfX2_12) (fun _ h9 => h9) rfl dX2_fitting_95 ?_
          refine va_get (D := (dC, dI)) (ci := 3) (v := .ref a1) (C := RX3) (T := TX3) (N := 4) hx hb hts uX3 hown hK hP 8 rfl rfl 0 (by decide) (hts _ kfX2_69) (fun _ h9 => h9) rfl dX2_fitting_98 ?_
          refine lv_iload_n hx hb dX2_fitting_101 rfl (lv_at hl 2 rfl) ?_
          refine q_ialdN hx hb hK hP 9 0 rfl rfl (j := i) (by omega) (by omega) dX2_fitting_102 ?_
          refine lv_bipush (v := (nI (32))) hx hb dX2_fitting_103 (by decide) ?_
          refine q_isub (x := nm i) (y := 32) hx hb (by omega) dX2_fitting_105 ?_
          refine lv_istore (lv' := [(6, .int (nI ((nm i) - 32))), (5, .int (nI (pl ((2 * i) + 1)))), (4, .int (nI (pl (2 * i)))), (3, .int (nI (i))), (2, .int (nI (y))), (0, .ref n0), (1, .int (nI (v)))]) hx hb dX2_fitting_106 hl (by decide) rfl (fun ls hl => ?_)
          refine lv_iload hx hb dX2_fitting_108 (lv_at hl 2 rfl) ?_
          refine lv_iload_n hx hb dX2_fitting_110 rfl (lv_at hl 6 rfl) ?_
          refine q_icmp_ne (x := pl (2 * i)) (y := v) (tgt := 135) hx hb dX2_fitting_111 (by decide) (by omega) (by omega) (fun c111_5 => ?_) (fun c111_5 => ?_)
          · refine lv_iload hx hb dX2_fitting_135 (lv_at hl 2 rfl) ?_
            refine lv_iload_n hx hb dX2_fitting_137 rfl (lv_at hl 6 rfl) ?_
            refine q_icmp_ne (x := pl (2 * i)) (y := v) (tgt := 190) hx hb dX2_fitting_138 (by decide) (by omega) (by omega) (fun c138_6 => ?_) (fun c138_6 => ?_)
            · refine lv_iload hx hb dX2_fitting_190 (lv_at hl 1 rfl) ?_
              refine lv_iload_n hx hb dX2_fitting_192 rfl (lv_at hl 6 rfl) ?_
              refine q_icmp_ne (x := pl ((2 * i) + 1)) (y := v) (tgt := 242) hx hb dX2_fitting_193 (by decide) (by omega) (by omega) (fun c193_7 => ?_) (fun c193_7 => ?_)
              · refine lv_iinc (v := (nI (i + 1))) (lv' := [(3, .int (nI (i + 1))), (6, .int (nI ((nm i) - 32))), (5, .int (nI (pl ((2 * i) + 1)))), (4, .int (nI (pl (2 * i)))), (2, .int (nI (y))), (0, .ref n0), (1, .int (nI (v)))]) hx hb dX2_fitting_242 hl (k := 3) rfl (q_inc _) (by decide) rfl (fun ls hl => ?_)
                refine lv_goto (tgt := 6) hx hb dX2_fitting_245 (by decide) ?_
                exact ih6 y (i + 1) ls (by omega) (show (i + 1) ≤ n from by omega) (show f_fits nm pl mb tg sr sta en tv v (i + 1) y from by (first | (exact f_fits_s hy (hmb _) (fun t9 ht9 => by rw [f_fit, if_pos (by omega), if_pos (by omega)])) | (exact f_fits_s hy (by omega) (fun t9 ht9 => by rw [f_fit, if_pos (by omega), if_neg (by omega)]; exact all_bit ht9)) | (exact f_fits_s hy hl9.1 (fun t9 ht9 => by rw [f_fit, if_neg (by omega), if_pos (by omega), hl9.2 t9]; simp [ht9])) | (exact f_fits_s hy (hsta _) (fun t9 ht9 => by rw [f_fit, if_neg (by omega), if_neg (by omega), if_pos (by omega), et9]; rfl)) | (exact f_fits_s hy (hsr _) (fun t9 ht9 => by rw [f_fit, if_neg (by omega), if_neg (by omega), if_pos (by omega), et9]; rfl)) | (exact f_fits_s hy (hen _) (fun t9 ht9 => by rw [f_fit, if_neg (by omega), if_neg (by omega), if_neg (by omega), if_pos (by omega), et9]; rfl)) | (exact f_fits_s hy (htg _) (fun t9 ht9 => by rw [f_fit, if_neg (by omega), if_neg (by omega), if_neg (by omega), if_pos (by omega), et9]; rfl)) | (exact f_fits_n hy (fun t9 ht9 => by rw [f_fit, if_neg (by omega), if_neg (by omega), if_neg (by omega), if_neg (by omega)])))) (lv_sub hl [0, 4, 5, 6] rfl)
              · refine lv_aload_n hx hb dX2_fitting_196 rfl (lv_at hl 5 rfl) ?_
                refine lv_iload hx hb dX2_fitting_197 (lv_at hl 2 rfl) ?_
                refine vp_callSi (va_Run.run (va_runV (As := [.int (nI (pl (2 * i)))]) (rest := []) ⟨hx, hb, hml, hown, hts⟩ (c_Finder_thingOf l dC dI cI cL cQ cZ n0 fc0 fm0 th tv (pl (2 * i)) (show (pl (2 * i)) < 16 from by first | assumption | omega)) (q_cwV 1 hts gkX2_thingOf kmX2_100 knX2_thingOf klX2_thingOf kiX2 rfl rfl rfl (by decide +kernel) ⟨Nat.le_of_ble_eq_true rfl, Nat.le_of_ble_eq_true rfl⟩) (q_preV hK hP [0, 1] rfl 0 (ci := 2) (r := (RX2, TX2, 3)) rfl rfl) rfl rfl hl.1 rfl (lv_room (Nat.le_of_ble_eq_true rfl)) dX2_fitting_199 ⟨Nat.zero_le _, Nat.zero_le _⟩)) (fun r8 hr8 => ?_)
                subst hr8
                refine lv_istore (lv' := [(7, .int (oI (f_th tv (pl (2 * i))))), (6, .int (nI ((nm i) - 32))), (5, .int (nI (pl ((2 * i) + 1)))), (4, .int (nI (pl (2 * i)))), (3, .int (nI (i))), (2, .int (nI (y))), (0, .ref n0), (1, .int (nI (v)))]) hx hb dX2_fitting_202 hl (by decide) rfl (fun ls hl => ?_)
                refine lv_iload_n hx hb dX2_fitting_204 rfl (lv_at hl 5 rfl) ?_
                refine lv_iload hx hb dX2_fitting_205 (lv_at hl 0 rfl) ?_
                refine lv_iconst (v := (oI (none))) hx hb dX2_fitting_207 (by decide) ?_
                refine q_icmpO_ne (x := f_th tv (pl (2 * i))) (tgt := 224) hx hb dX2_fitting_208 (by decide) (by (intro k9 h9; have := f_th_lt htv h9; omega)) (fun c208_9 => ?_) (fun c208_9 => ?_)
                · obtain ⟨u9, et9⟩ : ∃ u9, f_th tv (pl (2 * i)) = some u9 := Option.ne_none_iff_exists'.mp (by assumption)
                  have hu9 : u9 < 12 := f_th_lt htv et9
                  have hl := lv_updv hl 0 rfl (show (.int (oI (f_th tv (pl (2 * i)))) : Value) = .int (nI (u9)) from (by rw [et9]; rfl))
                  have hl : lv_has ls 8 [(7, .int (nI (u9))), (6, .int (nI ((nm i) - 32))), (5, .int (nI (pl ((2 * i) + 1)))), (4, .int (nI (pl (2 * i)))), (3, .int (nI (i))), (2, .int (nI (y))), (0, .ref n0), (1, .int (nI (v)))] := hl
                  refine lv_aload_n hx hb dX2_fitting_224 rfl (lv_at hl 6 rfl) ?_
                  refine va_get (D := (dC, dI)) (ci := 2) (v := .ref fc0) (C := RX2) (T := TX2) (N := 3) hx hb hts uX2 hown hK hP 0 rfl rfl 0 (by decide) (hts _ kfX2_22) (fun _ h9 => h9) rfl dX2_fitting_225 ?_
                  refine va_get (D := (dC, dI)) (ci := 1) (v := .ref t1) (C := RX1) (T := TX1) (N := 6) hx hb hts uX1 hown hK hP 2 rfl rfl 1 (by decide) (hts _ kfX2_109) (fun _ h9 => h9) rfl dX2_fitting_228 ?_
                  refine lv_iload hx hb dX2_fitting_231 (lv_at hl 1 rfl) ?_
                  refine lv_bipush (v := (nI (12))) hx hb dX2_fitting_233 (by decide) ?_
                  refine q_imul (x := (nm i) - 32) (y := 12) hx hb dX2_fitting_235 ?_
                  refine lv_iload hx hb dX2_fitting_236 (lv_at hl 0 rfl) ?_
                  refine q_iadd (x := ((nm i) - 32) * 12) (y := u9) hx hb dX2_fitting_238 ?_
                  refine q_ialdN hx hb hK hP 4 0 rfl rfl (j := (((nm i) - 32) * 12) + u9) (by omega) (by omega) dX2_fitting_239 ?_
                  have bd10 := htg ((((nm i) - 32) * 12) + u9)
                  refine lv_iand hx hb dX2_fitting_240 ?_
                  refine q_top (nI_and _ _) ?_
                  refine lv_istore_n (lv' := [(2, .int (nI (y &&& (tg ((((nm i) - 32) * 12) + u9))))), (7, .int (nI (u9))), (6, .int (nI ((nm i) - 32))), (5, .int (nI (pl ((2 * i) + 1)))), (4, .int (nI (pl (2 * i)))), (3, .int (nI (i))), (0, .ref n0), (1, .int (nI (v)))]) hx hb dX2_fitting_241 rfl hl (by decide) rfl (fun ls hl => ?_)
                  refine lv_iinc (v := (nI (i + 1))) (lv' := [(3, .int (nI (i + 1))), (2, .int (nI (y &&& (tg ((((nm i) - 32) * 12) + u9))))), (7, .int (nI (u9))), (6, .int (nI ((nm i) - 32))), (5, .int (nI (pl ((2 * i) + 1)))), (4, .int (nI (pl (2 * i)))), (0, .ref n0), (1, .int (nI (v)))]) hx hb dX2_fitting_242 hl (k := 5) rfl (q_inc _) (by decide) rfl (fun ls hl => ?_)
                  refine lv_goto (tgt := 6) hx hb dX2_fitting_245 (by decide) ?_
                  exact ih6 (y &&& (tg ((((nm i) - 32) * 12) + u9))) (i + 1) ls (by omega) (show (i + 1) ≤ n from by omega) (show f_fits nm pl mb tg sr sta en tv v (i + 1) (y &&& (tg ((((nm i) - 32) * 12) + u9))) from by (first | (exact f_fits_s hy (hmb _) (fun t9 ht9 => by rw [f_fit, if_pos (by omega), if_pos (by omega)])) | (exact f_fits_s hy (by omega) (fun t9 ht9 => by rw [f_fit, if_pos (by omega), if_neg (by omega)]; exact all_bit ht9)) | (exact f_fits_s hy hl9.1 (fun t9 ht9 => by rw [f_fit, if_neg (by omega), if_pos (by omega), hl9.2 t9]; simp [ht9])) | (exact f_fits_s hy (hsta _) (fun t9 ht9 => by rw [f_fit, if_neg (by omega), if_neg (by omega), if_pos (by omega), et9]; rfl)) | (exact f_fits_s hy (hsr _) (fun t9 ht9 => by rw [f_fit, if_neg (by omega), if_neg (by omega), if_pos (by omega), et9]; rfl)) | (exact f_fits_s hy (hen _) (fun t9 ht9 => by rw [f_fit, if_neg (by omega), if_neg (by omega), if_neg (by omega), if_pos (by omega), et9]; rfl)) | (exact f_fits_s hy (htg _) (fun t9 ht9 => by rw [f_fit, if_neg (by omega), if_neg (by omega), if_neg (by omega), if_pos (by omega), et9]; rfl)) | (exact f_fits_n hy (fun t9 ht9 => by rw [f_fit, if_neg (by omega), if_neg (by omega), if_neg (by omega), if_neg (by omega)])))) (lv_sub hl [0, 1, 6, 7] rfl)
                · have et9 := ‹f_th tv (pl (2 * i)) = none›
                  refine lv_aload_n hx hb dX2_fitting_211 rfl (lv_at hl 6 rfl) ?_
                  refine va_get (D := (dC, dI)) (ci := 2) (v := .ref fc0) (C := RX2) (T := TX2) (N := 3) hx hb hts uX2 hown hK hP 0 rfl rfl 0 (by decide) (hts _ kfX2_22) (fun _ h9 => h9) rfl dX2_fitting_212 ?_
                  refine va_get (D := (dC, dI)) (ci := 1) (v := .ref e1) (C := RX1) (T := TX1) (N := 6) hx hb hts uX1 hown hK hP 2 rfl rfl 4 (by decide) (hts _ kfX2_106) (fun _ h9 => h9) rfl dX2_fitting_215 ?_
                  refine lv_iload hx hb dX2_fitting_218 (lv_at hl 1 rfl) ?_
                  refine q_ialdN hx hb hK hP 7 0 rfl rfl (j := (nm i) - 32) (by omega) (by omega) dX2_fitting_220 ?_
                  have bd11 := hen ((nm i) - 32)
                  refine lv_goto (tgt := 240) hx hb dX2_fitting_221 (by decide) ?_
                  refine lv_iand hx hb dX2_fitting_240 ?_
                  refine q_top (nI_and _ _) ?_
                  refine lv_istore_n (lv' := [(2, .int (nI (y &&& (en ((nm i) - 32))))), (7, .int (oI (f_th tv (pl (2 * i))))), (6, .int (nI ((nm i) - 32))), (5, .int (nI (pl ((2 * i) + 1)))), (4, .int (nI (pl (2 * i)))), (3, .int (nI (i))), (0, .ref n0), (1, .int (nI (v)))]) hx hb dX2_fitting_241 rfl hl (by decide) rfl (fun ls hl => ?_)
                  refine lv_iinc (v := (nI (i + 1))) (lv' := [(3, .int (nI (i + 1))), (2, .int (nI (y &&& (en ((nm i) - 32))))), (7, .int (oI (f_th tv (pl (2 * i))))), (6, .int (nI ((nm i) - 32))), (5, .int (nI (pl ((2 * i) + 1)))), (4, .int (nI (pl (2 * i)))), (0, .ref n0), (1, .int (nI (v)))]) hx hb dX2_fitting_242 hl (k := 5) rfl (q_inc _) (by decide) rfl (fun ls hl => ?_)
                  refine lv_goto (tgt := 6) hx hb dX2_fitting_245 (by decide) ?_
                  exact ih6 (y &&& (en ((nm i) - 32))) (i + 1) ls (by omega) (show (i + 1) ≤ n from by omega) (show f_fits nm pl mb tg sr sta en tv v (i + 1) (y &&& (en ((nm i) - 32))) from by (first | (exact f_fits_s hy (hmb _) (fun t9 ht9 => by rw [f_fit, if_pos (by omega), if_pos (by omega)])) | (exact f_fits_s hy (by omega) (fun t9 ht9 => by rw [f_fit, if_pos (by omega), if_neg (by omega)]; exact all_bit ht9)) | (exact f_fits_s hy hl9.1 (fun t9 ht9 => by rw [f_fit, if_neg (by omega), if_pos (by omega), hl9.2 t9]; simp [ht9])) | (exact f_fits_s hy (hsta _) (fun t9 ht9 => by rw [f_fit, if_neg (by omega), if_neg (by omega), if_pos (by omega), et9]; rfl)) | (exact f_fits_s hy (hsr _) (fun t9 ht9 => by rw [f_fit, if_neg (by omega), if_neg (by omega), if_pos (by omega), et9]; rfl)) | (exact f_fits_s hy (hen _) (fun t9 ht9 => by rw [f_fit, if_neg (by omega), if_neg (by omega), if_neg (by omega), if_pos (by omega), et9]; rfl)) | (exact f_fits_s hy (htg _) (fun t9 ht9 => by rw [f_fit, if_neg (by omega), if_neg (by omega), if_neg (by omega), if_pos (by omega), et9]; rfl)) | (exact f_fits_n hy (fun t9 ht9 => by rw [f_fit, if_neg (by omega), if_neg (by omega), if_neg (by omega), if_neg (by omega)])))) (lv_sub hl [0, 1, 6, 7] rfl)
            · refine lv_aload_n hx hb dX2_fitting_141 rfl (lv_at hl 5 rfl) ?_
              refine lv_iload hx hb dX2_fitting_142 (lv_at hl 1 rfl) ?_
              refine vp_callSi (va_Run.run (va_runV (As := [.int (nI (pl ((2 * i) + 1)))]) (rest := []) ⟨hx, hb, hml, hown, hts⟩ (c_Finder_thingOf l dC dI cI cL cQ cZ n0 fc0 fm0 th tv (pl ((2 * i) + 1)) (show (pl ((2 * i) + 1)) < 16 from by first | assumption | omega)) (q_cwV 1 hts gkX2_thingOf kmX2_100 knX2_thingOf klX2_thingOf kiX2 rfl rfl rfl (by decide +kernel) ⟨Nat.le_of_ble_eq_true rfl, Nat.le_of_ble_eq_true rfl⟩) (q_preV hK hP [0, 1] rfl 0 (ci := 2) (r := (RX2, TX2, 3)) rfl rfl) rfl rfl hl.1 rfl (lv_room (Nat.le_of_ble_eq_true rfl)) dX2_fitting_144 ⟨Nat.zero_le _, Nat.zero_le _⟩)) (fun r12 hr12 => ?_)
              subst hr12
              refine lv_istore (lv' := [(7, .int (oI (f_th tv (pl ((2 * i) + 1))))), (6, .int (nI ((nm i) - 32))), (5, .int (nI (pl ((2 * i) + 1)))), (4, .int (nI (pl (2 * i)))), (3, .int (nI (i))), (2, .int (nI (y))), (0, .ref n0), (1, .int (nI (v)))]) hx hb dX2_fitting_147 hl (by decide) rfl (fun ls hl => ?_)
              refine lv_iload_n hx hb dX2_fitting_149 rfl (lv_at hl 5 rfl) ?_
              refine lv_iload hx hb dX2_fitting_150 (lv_at hl 0 rfl) ?_
              refine lv_iconst (v := (oI (none))) hx hb dX2_fitting_152 (by decide) ?_
              refine q_icmpO_ne (x := f_th tv (pl ((2 * i) + 1))) (tgt := 169) hx hb dX2_fitting_153 (by decide) (by (intro k9 h9; have := f_th_lt htv h9; omega)) (fun c153_13 => ?_) (fun c153_13 => ?_)
              · obtain ⟨u9, et9⟩ : ∃ u9, f_th tv (pl (2 * i + 1)) = some u9 := Option.ne_none_iff_exists'.mp (by assumption)
                have hu9 : u9 < 12 := f_th_lt htv et9
                have hl := lv_updv hl 0 rfl (show (.int (oI (f_th tv (pl ((2 * i) + 1)))) : Value) = .int (nI (u9)) from (by rw [et9]; rfl))
                have hl : lv_has ls 8 [(7, .int (nI (u9))), (6, .int (nI ((nm i) - 32))), (5, .int (nI (pl ((2 * i) + 1)))), (4, .int (nI (pl (2 * i)))), (3, .int (nI (i))), (2, .int (nI (y))), (0, .ref n0), (1, .int (nI (v)))] := hl
                refine lv_aload_n hx hb dX2_fitting_169 rfl (lv_at hl 6 rfl) ?_
                refine va_get (D := (dC, dI)) (ci := 2) (v := .ref fc0) (C := RX2) (T := TX2) (N := 3) hx hb hts uX2 hown hK hP 0 rfl rfl 0 (by decide) (hts _ kfX2_22) (fun _ h9 => h9) rfl dX2_fitting_170 ?_
                refine va_get (D := (dC, dI)) (ci := 1) (v := .ref s1) (C := RX1) (T := TX1) (N := 6) hx hb hts uX1 hown hK hP 2 rfl rfl 2 (by decide) (hts _ kfX2_103) (fun _ h9 => h9) rfl dX2_fitting_173 ?_
                refine lv_iload hx hb dX2_fitting_176 (lv_at hl 1 rfl) ?_
                refine lv_bipush (v := (nI (12))) hx hb dX2_fitting_178 (by decide) ?_
                refine q_imul (x := (nm i) - 32) (y := 12) hx hb dX2_fitting_180 ?_
                refine lv_iload hx hb dX2_fitting_181 (lv_at hl 0 rfl) ?_
                refine q_iadd (x := ((nm i) - 32) * 12) (y := u9) hx hb dX2_fitting_183 ?_
                refine q_ialdN hx hb hK hP 5 0 rfl rfl (j := (((nm i) - 32) * 12) + u9) (by omega) (by omega) dX2_fitting_184 ?_
                have bd14 := hsr ((((nm i) - 32) * 12) + u9)
                refine lv_iand hx hb dX2_fitting_185 ?_
                refine q_top (nI_and _ _) ?_
                refine lv_istore_n (lv' := [(2, .int (nI (y &&& (sr ((((nm i) - 32) * 12) + u9))))), (7, .int (nI (u9))), (6, .int (nI ((nm i) - 32))), (5, .int (nI (pl ((2 * i) + 1)))), (4, .int (nI (pl (2 * i)))), (3, .int (nI (i))), (0, .ref n0), (1, .int (nI (v)))]) hx hb dX2_fitting_186 rfl hl (by decide) rfl (fun ls hl => ?_)
                refine lv_goto (tgt := 242) hx hb dX2_fitting_187 (by decide) ?_
                refine lv_iinc (v := (nI (i + 1))) (lv' := [(3, .int (nI (i + 1))), (2, .int (nI (y &&& (sr ((((nm i) - 32) * 12) + u9))))), (7, .int (nI (u9))), (6, .int (nI ((nm i) - 32))), (5, .int (nI (pl ((2 * i) + 1)))), (4, .int (nI (pl (2 * i)))), (0, .ref n0), (1, .int (nI (v)))]) hx hb dX2_fitting_242 hl (k := 5) rfl (q_inc _) (by decide) rfl (fun ls hl => ?_)
                refine lv_goto (tgt := 6) hx hb dX2_fitting_245 (by decide) ?_
                exact ih6 (y &&& (sr ((((nm i) - 32) * 12) + u9))) (i + 1) ls (by omega) (show (i + 1) ≤ n from by omega) (show f_fits nm pl mb tg sr sta en tv v (i + 1) (y &&& (sr ((((nm i) - 32) * 12) + u9))) from by (first | (exact f_fits_s hy (hmb _) (fun t9 ht9 => by rw [f_fit, if_pos (by omega), if_pos (by omega)])) | (exact f_fits_s hy (by omega) (fun t9 ht9 => by rw [f_fit, if_pos (by omega), if_neg (by omega)]; exact all_bit ht9)) | (exact f_fits_s hy hl9.1 (fun t9 ht9 => by rw [f_fit, if_neg (by omega), if_pos (by omega), hl9.2 t9]; simp [ht9])) | (exact f_fits_s hy (hsta _) (fun t9 ht9 => by rw [f_fit, if_neg (by omega), if_neg (by omega), if_pos (by omega), et9]; rfl)) | (exact f_fits_s hy (hsr _) (fun t9 ht9 => by rw [f_fit, if_neg (by omega), if_neg (by omega), if_pos (by omega), et9]; rfl)) | (exact f_fits_s hy (hen _) (fun t9 ht9 => by rw [f_fit, if_neg (by omega), if_neg (by omega), if_neg (by omega), if_pos (by omega), et9]; rfl)) | (exact f_fits_s hy (htg _) (fun t9 ht9 => by rw [f_fit, if_neg (by omega), if_neg (by omega), if_neg (by omega), if_pos (by omega), et9]; rfl)) | (exact f_fits_n hy (fun t9 ht9 => by rw [f_fit, if_neg (by omega), if_neg (by omega), if_neg (by omega), if_neg (by omega)])))) (lv_sub hl [0, 1, 6, 7] rfl)
              · have et9 := ‹f_th tv (pl (2 * i + 1)) = none›
                refine lv_aload_n hx hb dX2_fitting_156 rfl (lv_at hl 6 rfl) ?_
                refine va_get (D := (dC, dI)) (ci := 2) (v := .ref fc0) (C := RX2) (T := TX2) (N := 3) hx hb hts uX2 hown hK hP 0 rfl rfl 0 (by decide) (hts _ kfX2_22) (fun _ h9 => h9) rfl dX2_fitting_157 ?_
                refine va_get (D := (dC, dI)) (ci := 1) (v := .ref st1) (C := RX1) (T := TX1) (N := 6) hx hb hts uX1 hown hK hP 2 rfl rfl 3 (by decide) (hts _ kfX2_77) (fun _ h9 => h9) rfl dX2_fitting_160 ?_
                refine lv_iload hx hb dX2_fitting_163 (lv_at hl 1 rfl) ?_
                refine q_ialdN hx hb hK hP 6 0 rfl rfl (j := (nm i) - 32) (by omega) (by omega) dX2_fitting_165 ?_
                have bd15 := hsta ((nm i) - 32)
                refine lv_goto (tgt := 185) hx hb dX2_fitting_166 (by decide) ?_
                refine lv_iand hx hb dX2_fitting_185 ?_
                refine q_top (nI_and _ _) ?_
                refine lv_istore_n (lv' := [(2, .int (nI (y &&& (sta ((nm i) - 32))))), (7, .int (oI (f_th tv (pl ((2 * i) + 1))))), (6, .int (nI ((nm i) - 32))), (5, .int (nI (pl ((2 * i) + 1)))), (4, .int (nI (pl (2 * i)))), (3, .int (nI (i))), (0, .ref n0), (1, .int (nI (v)))]) hx hb dX2_fitting_186 rfl hl (by decide) rfl (fun ls hl => ?_)
                refine lv_goto (tgt := 242) hx hb dX2_fitting_187 (by decide) ?_
                refine lv_iinc (v := (nI (i + 1))) (lv' := [(3, .int (nI (i + 1))), (2, .int (nI (y &&& (sta ((nm i) - 32))))), (7, .int (oI (f_th tv (pl ((2 * i) + 1))))), (6, .int (nI ((nm i) - 32))), (5, .int (nI (pl ((2 * i) + 1)))), (4, .int (nI (pl (2 * i)))), (0, .ref n0), (1, .int (nI (v)))]) hx hb dX2_fitting_242 hl (k := 5) rfl (q_inc _) (by decide) rfl (fun ls hl => ?_)
                refine lv_goto (tgt := 6) hx hb dX2_fitting_245 (by decide) ?_
                exact ih6 (y &&& (sta ((nm i) - 32))) (i + 1) ls (by omega) (show (i + 1) ≤ n from by omega) (show f_fits nm pl mb tg sr sta en tv v (i + 1) (y &&& (sta ((nm i) - 32))) from by (first | (exact f_fits_s hy (hmb _) (fun t9 ht9 => by rw [f_fit, if_pos (by omega), if_pos (by omega)])) | (exact f_fits_s hy (by omega) (fun t9 ht9 => by rw [f_fit, if_pos (by omega), if_neg (by omega)]; exact all_bit ht9)) | (exact f_fits_s hy hl9.1 (fun t9 ht9 => by rw [f_fit, if_neg (by omega), if_pos (by omega), hl9.2 t9]; simp [ht9])) | (exact f_fits_s hy (hsta _) (fun t9 ht9 => by rw [f_fit, if_neg (by omega), if_neg (by omega), if_pos (by omega), et9]; rfl)) | (exact f_fits_s hy (hsr _) (fun t9 ht9 => by rw [f_fit, if_neg (by omega), if_neg (by omega), if_pos (by omega), et9]; rfl)) | (exact f_fits_s hy (hen _) (fun t9 ht9 => by rw [f_fit, if_neg (by omega), if_neg (by omega), if_neg (by omega), if_pos (by omega), et9]; rfl)) | (exact f_fits_s hy (htg _) (fun t9 ht9 => by rw [f_fit, if_neg (by omega), if_neg (by omega), if_neg (by omega), if_pos (by omega), et9]; rfl)) | (exact f_fits_n hy (fun t9 ht9 => by rw [f_fit, if_neg (by omega), if_neg (by omega), if_neg (by omega), if_neg (by omega)])))) (lv_sub hl [0, 1, 6, 7] rfl)
          · refine lv_iload hx hb dX2_fitting_114 (lv_at hl 1 rfl) ?_
            refine lv_iload_n hx hb dX2_fitting_116 rfl (lv_at hl 6 rfl) ?_
            refine q_icmp_ne (x := pl ((2 * i) + 1)) (y := v) (tgt := 135) hx hb dX2_fitting_117 (by decide) (by omega) (by omega) (fun c117_16 => ?_) (fun c117_16 => ?_)
            · refine lv_iload hx hb dX2_fitting_135 (lv_at hl 2 rfl) ?_
              refine lv_iload_n hx hb dX2_fitting_137 rfl (lv_at hl 6 rfl) ?_
              refine q_icmp_ne (x := pl (2 * i)) (y := v) (tgt := 190) hx hb dX2_fitting_138 (by decide) (by omega) (by omega) (fun c138_17 => ?_) (fun c138_17 => ?_)
              · refine lv_iload hx hb dX2_fitting_190 (lv_at hl 1 rfl) ?_
                refine lv_iload_n hx hb dX2_fitting_192 rfl (lv_at hl 6 rfl) ?_
                refine q_icmp_ne (x := pl ((2 * i) + 1)) (y := v) (tgt := 242) hx hb dX2_fitting_193 (by decide) (by omega) (by omega) (fun c193_18 => ?_) (fun c193_18 => ?_)
                · refine lv_iinc (v := (nI (i + 1))) (lv' := [(3, .int (nI (i + 1))), (6, .int (nI ((nm i) - 32))), (5, .int (nI (pl ((2 * i) + 1)))), (4, .int (nI (pl (2 * i)))), (2, .int (nI (y))), (0, .ref n0), (1, .int (nI (v)))]) hx hb dX2_fitting_242 hl (k := 3) rfl (q_inc _) (by decide) rfl (fun ls hl => ?_)
                  refine lv_goto (tgt := 6) hx hb dX2_fitting_245 (by decide) ?_
                  exact ih6 y (i + 1) ls (by omega) (show (i + 1) ≤ n from by omega) (show f_fits nm pl mb tg sr sta en tv v (i + 1) y from by (first | (exact f_fits_s hy (hmb _) (fun t9 ht9 => by rw [f_fit, if_pos (by omega), if_pos (by omega)])) | (exact f_fits_s hy (by omega) (fun t9 ht9 => by rw [f_fit, if_pos (by omega), if_neg (by omega)]; exact all_bit ht9)) | (exact f_fits_s hy hl9.1 (fun t9 ht9 => by rw [f_fit, if_neg (by omega), if_pos (by omega), hl9.2 t9]; simp [ht9])) | (exact f_fits_s hy (hsta _) (fun t9 ht9 => by rw [f_fit, if_neg (by omega), if_neg (by omega), if_pos (by omega), et9]; rfl)) | (exact f_fits_s hy (hsr _) (fun t9 ht9 => by rw [f_fit, if_neg (by omega), if_neg (by omega), if_pos (by omega), et9]; rfl)) | (exact f_fits_s hy (hen _) (fun t9 ht9 => by rw [f_fit, if_neg (by omega), if_neg (by omega), if_neg (by omega), if_pos (by omega), et9]; rfl)) | (exact f_fits_s hy (htg _) (fun t9 ht9 => by rw [f_fit, if_neg (by omega), if_neg (by omega), if_neg (by omega), if_pos (by omega), et9]; rfl)) | (exact f_fits_n hy (fun t9 ht9 => by rw [f_fit, if_neg (by omega), if_neg (by omega), if_neg (by omega), if_neg (by omega)])))) (lv_sub hl [0, 4, 5, 6] rfl)
                · refine lv_aload_n hx hb dX2_fitting_196 rfl (lv_at hl 5 rfl) ?_
                  refine lv_iload hx hb dX2_fitting_197 (lv_at hl 2 rfl) ?_
                  refine vp_callSi (va_Run.run (va_runV (As := [.int (nI (pl (2 * i)))]) (rest := []) ⟨hx, hb, hml, hown, hts⟩ (c_Finder_thingOf l dC dI cI cL cQ cZ n0 fc0 fm0 th tv (pl (2 * i)) (show (pl (2 * i)) < 16 from by first | assumption | omega)) (q_cwV 1 hts gkX2_thingOf kmX2_100 knX2_thingOf klX2_thingOf kiX2 rfl rfl rfl (by decide +kernel) ⟨Nat.le_of_ble_eq_true rfl, Nat.le_of_ble_eq_true rfl⟩) (q_preV hK hP [0, 1] rfl 0 (ci := 2) (r := (RX2, TX2, 3)) rfl rfl) rfl rfl hl.1 rfl (lv_room (Nat.le_of_ble_eq_true rfl)) dX2_fitting_199 ⟨Nat.zero_le _, Nat.zero_le _⟩)) (fun r19 hr19 => ?_)
                  subst hr19
                  refine lv_istore (lv' := [(7, .int (oI (f_th tv (pl (2 * i))))), (6, .int (nI ((nm i) - 32))), (5, .int (nI (pl ((2 * i) + 1)))), (4, .int (nI (pl (2 * i)))), (3, .int (nI (i))), (2, .int (nI (y))), (0, .ref n0), (1, .int (nI (v)))]) hx hb dX2_fitting_202 hl (by decide) rfl (fun ls hl => ?_)
                  refine lv_iload_n hx hb dX2_fitting_204 rfl (lv_at hl 5 rfl) ?_
                  refine lv_iload hx hb dX2_fitting_205 (lv_at hl 0 rfl) ?_
                  refine lv_iconst (v := (oI (none))) hx hb dX2_fitting_207 (by decide) ?_
                  refine q_icmpO_ne (x := f_th tv (pl (2 * i))) (tgt := 224) hx hb dX2_fitting_208 (by decide) (by (intro k9 h9; have := f_th_lt htv h9; omega)) (fun c208_20 => ?_) (fun c208_20 => ?_)
                  · obtain ⟨u9, et9⟩ : ∃ u9, f_th tv (pl (2 * i)) = some u9 := Option.ne_none_iff_exists'.mp (by assumption)
                    have hu9 : u9 < 12 := f_th_lt htv et9
                    have hl := lv_updv hl 0 rfl (show (.int (oI (f_th tv (pl (2 * i)))) : Value) = .int (nI (u9)) from (by rw [et9]; rfl))
                    have hl : lv_has ls 8 [(7, .int (nI (u9))), (6, .int (nI ((nm i) - 32))), (5, .int (nI (pl ((2 * i) + 1)))), (4, .int (nI (pl (2 * i)))), (3, .int (nI (i))), (2, .int (nI (y))), (0, .ref n0), (1, .int (nI (v)))] := hl
                    refine lv_aload_n hx hb dX2_fitting_224 rfl (lv_at hl 6 rfl) ?_
                    refine va_get (D := (dC, dI)) (ci := 2) (v := .ref fc0) (C := RX2) (T := TX2) (N := 3) hx hb hts uX2 hown hK hP 0 rfl rfl 0 (by decide) (hts _ kfX2_22) (fun _ h9 => h9) rfl dX2_fitting_225 ?_
                    refine va_get (D := (dC, dI)) (ci := 1) (v := .ref t1) (C := RX1) (T := TX1) (N := 6) hx hb hts uX1 hown hK hP 2 rfl rfl 1 (by decide) (hts _ kfX2_109) (fun _ h9 => h9) rfl dX2_fitting_228 ?_
                    refine lv_iload hx hb dX2_fitting_231 (lv_at hl 1 rfl) ?_
                    refine lv_bipush (v := (nI (12))) hx hb dX2_fitting_233 (by decide) ?_
                    refine q_imul (x := (nm i) - 32) (y := 12) hx hb dX2_fitting_235 ?_
                    refine lv_iload hx hb dX2_fitting_236 (lv_at hl 0 rfl) ?_
                    refine q_iadd (x := ((nm i) - 32) * 12) (y := u9) hx hb dX2_fitting_238 ?_
                    refine q_ialdN hx hb hK hP 4 0 rfl rfl (j := (((nm i) - 32) * 12) + u9) (by omega) (by omega) dX2_fitting_239 ?_
                    have bd21 := htg ((((nm i) - 32) * 12) + u9)
                    refine lv_iand hx hb dX2_fitting_240 ?_
                    refine q_top (nI_and _ _) ?_
                    refine lv_istore_n (lv' := [(2, .int (nI (y &&& (tg ((((nm i) - 32) * 12) + u9))))), (7, .int (nI (u9))), (6, .int (nI ((nm i) - 32))), (5, .int (nI (pl ((2 * i) + 1)))), (4, .int (nI (pl (2 * i)))), (3, .int (nI (i))), (0, .ref n0), (1, .int (nI (v)))]) hx hb dX2_fitting_241 rfl hl (by decide) rfl (fun ls hl => ?_)
                    refine lv_iinc (v := (nI (i + 1))) (lv' := [(3, .int (nI (i + 1))), (2, .int (nI (y &&& (tg ((((nm i) - 32) * 12) + u9))))), (7, .int (nI (u9))), (6, .int (nI ((nm i) - 32))), (5, .int (nI (pl ((2 * i) + 1)))), (4, .int (nI (pl (2 * i)))), (0, .ref n0), (1, .int (nI (v)))]) hx hb dX2_fitting_242 hl (k := 5) rfl (q_inc _) (by decide) rfl (fun ls hl => ?_)
                    refine lv_goto (tgt := 6) hx hb dX2_fitting_245 (by decide) ?_
                    exact ih6 (y &&& (tg ((((nm i) - 32) * 12) + u9))) (i + 1) ls (by omega) (show (i + 1) ≤ n from by omega) (show f_fits nm pl mb tg sr sta en tv v (i + 1) (y &&& (tg ((((nm i) - 32) * 12) + u9))) from by (first | (exact f_fits_s hy (hmb _) (fun t9 ht9 => by rw [f_fit, if_pos (by omega), if_pos (by omega)])) | (exact f_fits_s hy (by omega) (fun t9 ht9 => by rw [f_fit, if_pos (by omega), if_neg (by omega)]; exact all_bit ht9)) | (exact f_fits_s hy hl9.1 (fun t9 ht9 => by rw [f_fit, if_neg (by omega), if_pos (by omega), hl9.2 t9]; simp [ht9])) | (exact f_fits_s hy (hsta _) (fun t9 ht9 => by rw [f_fit, if_neg (by omega), if_neg (by omega), if_pos (by omega), et9]; rfl)) | (exact f_fits_s hy (hsr _) (fun t9 ht9 => by rw [f_fit, if_neg (by omega), if_neg (by omega), if_pos (by omega), et9]; rfl)) | (exact f_fits_s hy (hen _) (fun t9 ht9 => by rw [f_fit, if_neg (by omega), if_neg (by omega), if_neg (by omega), if_pos (by omega), et9]; rfl)) | (exact f_fits_s hy (htg _) (fun t9 ht9 => by rw [f_fit, if_neg (by omega), if_neg (by omega), if_neg (by omega), if_pos (by omega), et9]; rfl)) | (exact f_fits_n hy (fun t9 ht9 => by rw [f_fit, if_neg (by omega), if_neg (by omega), if_neg (by omega), if_neg (by omega)])))) (lv_sub hl [0, 1, 6, 7] rfl)
                  · have et9 := ‹f_th tv (pl (2 * i)) = none›
                    refine lv_aload_n hx hb dX2_fitting_211 rfl (lv_at hl 6 rfl) ?_
                    refine va_get (D := (dC, dI)) (ci := 2) (v := .ref fc0) (C := RX2) (T := TX2) (N := 3) hx hb hts uX2 hown hK hP 0 rfl rfl 0 (by decide) (hts _ kfX2_22) (fun _ h9 => h9) rfl dX2_fitting_212 ?_
                    refine va_get (D := (dC, dI)) (ci := 1) (v := .ref e1) (C := RX1) (T := TX1) (N := 6) hx hb hts uX1 hown hK hP 2 rfl rfl 4 (by decide) (hts _ kfX2_106) (fun _ h9 => h9) rfl dX2_fitting_215 ?_
                    refine lv_iload hx hb dX2_fitting_218 (lv_at hl 1 rfl) ?_
                    refine q_ialdN hx hb hK hP 7 0 rfl rfl (j := (nm i) - 32) (by omega) (by omega) dX2_fitting_220 ?_
                    have bd22 := hen ((nm i) - 32)
                    refine lv_goto (tgt := 240) hx hb dX2_fitting_221 (by decide) ?_
                    refine lv_iand hx hb dX2_fitting_240 ?_
                    refine q_top (nI_and _ _) ?_
                    refine lv_istore_n (lv' := [(2, .int (nI (y &&& (en ((nm i) - 32))))), (7, .int (oI (f_th tv (pl (2 * i))))), (6, .int (nI ((nm i) - 32))), (5, .int (nI (pl ((2 * i) + 1)))), (4, .int (nI (pl (2 * i)))), (3, .int (nI (i))), (0, .ref n0), (1, .int (nI (v)))]) hx hb dX2_fitting_241 rfl hl (by decide) rfl (fun ls hl => ?_)
                    refine lv_iinc (v := (nI (i + 1))) (lv' := [(3, .int (nI (i + 1))), (2, .int (nI (y &&& (en ((nm i) - 32))))), (7, .int (oI (f_th tv (pl (2 * i))))), (6, .int (nI ((nm i) - 32))), (5, .int (nI (pl ((2 * i) + 1)))), (4, .int (nI (pl (2 * i)))), (0, .ref n0), (1, .int (nI (v)))]) hx hb dX2_fitting_242 hl (k := 5) rfl (q_inc _) (by decide) rfl (fun ls hl => ?_)
                    refine lv_goto (tgt := 6) hx hb dX2_fitting_245 (by decide) ?_
                    exact ih6 (y &&& (en ((nm i) - 32))) (i + 1) ls (by omega) (show (i + 1) ≤ n from by omega) (show f_fits nm pl mb tg sr sta en tv v (i + 1) (y &&& (en ((nm i) - 32))) from by (first | (exact f_fits_s hy (hmb _) (fun t9 ht9 => by rw [f_fit, if_pos (by omega), if_pos (by omega)])) | (exact f_fits_s hy (by omega) (fun t9 ht9 => by rw [f_fit, if_pos (by omega), if_neg (by omega)]; exact all_bit ht9)) | (exact f_fits_s hy hl9.1 (fun t9 ht9 => by rw [f_fit, if_neg (by omega), if_pos (by omega), hl9.2 t9]; simp [ht9])) | (exact f_fits_s hy (hsta _) (fun t9 ht9 => by rw [f_fit, if_neg (by omega), if_neg (by omega), if_pos (by omega), et9]; rfl)) | (exact f_fits_s hy (hsr _) (fun t9 ht9 => by rw [f_fit, if_neg (by omega), if_neg (by omega), if_pos (by omega), et9]; rfl)) | (exact f_fits_s hy (hen _) (fun t9 ht9 => by rw [f_fit, if_neg (by omega), if_neg (by omega), if_neg (by omega), if_pos (by omega), et9]; rfl)) | (exact f_fits_s hy (htg _) (fun t9 ht9 => by rw [f_fit, if_neg (by omega), if_neg (by omega), if_neg (by omega), if_pos (by omega), et9]; rfl)) | (exact f_fits_n hy (fun t9 ht9 => by rw [f_fit, if_neg (by omega), if_neg (by omega), if_neg (by omega), if_neg (by omega)])))) (lv_sub hl [0, 1, 6, 7] rfl)
              · refine lv_aload_n hx hb dX2_fitting_141 rfl (lv_at hl 5 rfl) ?_
                refine lv_iload hx hb dX2_fitting_142 (lv_at hl 1 rfl) ?_
                refine vp_callSi (va_Run.run (va_runV (As := [.int (nI (pl ((2 * i) + 1)))]) (rest := []) ⟨hx, hb, hml, hown, hts⟩ (c_Finder_thingOf l dC dI cI cL cQ cZ n0 fc0 fm0 th tv (pl ((2 * i) + 1)) (show (pl ((2 * i) + 1)) < 16 from by first | assumption | omega)) (q_cwV 1 hts gkX2_thingOf kmX2_100 knX2_thingOf klX2_thingOf kiX2 rfl rfl rfl (by decide +kernel) ⟨Nat.le_of_ble_eq_true rfl, Nat.le_of_ble_eq_true rfl⟩) (q_preV hK hP [0, 1] rfl 0 (ci := 2) (r := (RX2, TX2, 3)) rfl rfl) rfl rfl hl.1 rfl (lv_room (Nat.le_of_ble_eq_true rfl)) dX2_fitting_144 ⟨Nat.zero_le _, Nat.zero_le _⟩)) (fun r23 hr23 => ?_)
                subst hr23
                refine lv_istore (lv' := [(7, .int (oI (f_th tv (pl ((2 * i) + 1))))), (6, .int (nI ((nm i) - 32))), (5, .int (nI (pl ((2 * i) + 1)))), (4, .int (nI (pl (2 * i)))), (3, .int (nI (i))), (2, .int (nI (y))), (0, .ref n0), (1, .int (nI (v)))]) hx hb dX2_fitting_147 hl (by decide) rfl (fun ls hl => ?_)
                refine lv_iload_n hx hb dX2_fitting_149 rfl (lv_at hl 5 rfl) ?_
                refine lv_iload hx hb dX2_fitting_150 (lv_at hl 0 rfl) ?_
                refine lv_iconst (v := (oI (none))) hx hb dX2_fitting_152 (by decide) ?_
                refine q_icmpO_ne (x := f_th tv (pl ((2 * i) + 1))) (tgt := 169) hx hb dX2_fitting_153 (by decide) (by (intro k9 h9; have := f_th_lt htv h9; omega)) (fun c153_24 => ?_) (fun c153_24 => ?_)
                · obtain ⟨u9, et9⟩ : ∃ u9, f_th tv (pl (2 * i + 1)) = some u9 := Option.ne_none_iff_exists'.mp (by assumption)
                  have hu9 : u9 < 12 := f_th_lt htv et9
                  have hl := lv_updv hl 0 rfl (show (.int (oI (f_th tv (pl ((2 * i) + 1)))) : Value) = .int (nI (u9)) from (by rw [et9]; rfl))
                  have hl : lv_has ls 8 [(7, .int (nI (u9))), (6, .int (nI ((nm i) - 32))), (5, .int (nI (pl ((2 * i) + 1)))), (4, .int (nI (pl (2 * i)))), (3, .int (nI (i))), (2, .int (nI (y))), (0, .ref n0), (1, .int (nI (v)))] := hl
                  refine lv_aload_n hx hb dX2_fitting_169 rfl (lv_at hl 6 rfl) ?_
                  refine va_get (D := (dC, dI)) (ci := 2) (v := .ref fc0) (C := RX2) (T := TX2) (N := 3) hx hb hts uX2 hown hK hP 0 rfl rfl 0 (by decide) (hts _ kfX2_22) (fun _ h9 => h9) rfl dX2_fitting_170 ?_
                  refine va_get (D := (dC, dI)) (ci := 1) (v := .ref s1) (C := RX1) (T := TX1) (N := 6) hx hb hts uX1 hown hK hP 2 rfl rfl 2 (by decide) (hts _ kfX2_103) (fun _ h9 => h9) rfl dX2_fitting_173 ?_
                  refine lv_iload hx hb dX2_fitting_176 (lv_at hl 1 rfl) ?_
                  refine lv_bipush (v := (nI (12))) hx hb dX2_fitting_178 (by decide) ?_
                  refine q_imul (x := (nm i) - 32) (y := 12) hx hb dX2_fitting_180 ?_
                  refine lv_iload hx hb dX2_fitting_181 (lv_at hl 0 rfl) ?_
                  refine q_iadd (x := ((nm i) - 32) * 12) (y := u9) hx hb dX2_fitting_183 ?_
                  refine q_ialdN hx hb hK hP 5 0 rfl rfl (j := (((nm i) - 32) * 12) + u9) (by omega) (by omega) dX2_fitting_184 ?_
                  have bd25 := hsr ((((nm i) - 32) * 12) + u9)
                  refine lv_iand hx hb dX2_fitting_185 ?_
                  refine q_top (nI_and _ _) ?_
                  refine lv_istore_n (lv' := [(2, .int (nI (y &&& (sr ((((nm i) - 32) * 12) + u9))))), (7, .int (nI (u9))), (6, .int (nI ((nm i) - 32))), (5, .int (nI (pl ((2 * i) + 1)))), (4, .int (nI (pl (2 * i)))), (3, .int (nI (i))), (0, .ref n0), (1, .int (nI (v)))]) hx hb dX2_fitting_186 rfl hl (by decide) rfl (fun ls hl => ?_)
                  refine lv_goto (tgt := 242) hx hb dX2_fitting_187 (by decide) ?_
                  refine lv_iinc (v := (nI (i + 1))) (lv' := [(3, .int (nI (i + 1))), (2, .int (nI (y &&& (sr ((((nm i) - 32) * 12) + u9))))), (7, .int (nI (u9))), (6, .int (nI ((nm i) - 32))), (5, .int (nI (pl ((2 * i) + 1)))), (4, .int (nI (pl (2 * i)))), (0, .ref n0), (1, .int (nI (v)))]) hx hb dX2_fitting_242 hl (k := 5) rfl (q_inc _) (by decide) rfl (fun ls hl => ?_)
                  refine lv_goto (tgt := 6) hx hb dX2_fitting_245 (by decide) ?_
                  exact ih6 (y &&& (sr ((((nm i) - 32) * 12) + u9))) (i + 1) ls (by omega) (show (i + 1) ≤ n from by omega) (show f_fits nm pl mb tg sr sta en tv v (i + 1) (y &&& (sr ((((nm i) - 32) * 12) + u9))) from by (first | (exact f_fits_s hy (hmb _) (fun t9 ht9 => by rw [f_fit, if_pos (by omega), if_pos (by omega)])) | (exact f_fits_s hy (by omega) (fun t9 ht9 => by rw [f_fit, if_pos (by omega), if_neg (by omega)]; exact all_bit ht9)) | (exact f_fits_s hy hl9.1 (fun t9 ht9 => by rw [f_fit, if_neg (by omega), if_pos (by omega), hl9.2 t9]; simp [ht9])) | (exact f_fits_s hy (hsta _) (fun t9 ht9 => by rw [f_fit, if_neg (by omega), if_neg (by omega), if_pos (by omega), et9]; rfl)) | (exact f_fits_s hy (hsr _) (fun t9 ht9 => by rw [f_fit, if_neg (by omega), if_neg (by omega), if_pos (by omega), et9]; rfl)) | (exact f_fits_s hy (hen _) (fun t9 ht9 => by rw [f_fit, if_neg (by omega), if_neg (by omega), if_neg (by omega), if_pos (by omega), et9]; rfl)) | (exact f_fits_s hy (htg _) (fun t9 ht9 => by rw [f_fit, if_neg (by omega), if_neg (by omega), if_neg (by omega), if_pos (by omega), et9]; rfl)) | (exact f_fits_n hy (fun t9 ht9 => by rw [f_fit, if_neg (by omega), if_neg (by omega), if_neg (by omega), if_neg (by omega)])))) (lv_sub hl [0, 1, 6, 7] rfl)
                · have et9 := ‹f_th tv (pl (2 * i + 1)) = none›
                  refine lv_aload_n hx hb dX2_fitting_156 rfl (lv_at hl 6 rfl) ?_
                  refine va_get (D := (dC, dI)) (ci := 2) (v := .ref fc0) (C := RX2) (T := TX2) (N := 3) hx hb hts uX2 hown hK hP 0 rfl rfl 0 (by decide) (hts _ kfX2_22) (fun _ h9 => h9) rfl dX2_fitting_157 ?_
                  refine va_get (D := (dC, dI)) (ci := 1) (v := .ref st1) (C := RX1) (T := TX1) (N := 6) hx hb hts uX1 hown hK hP 2 rfl rfl 3 (by decide) (hts _ kfX2_77) (fun _ h9 => h9) rfl dX2_fitting_160 ?_
                  refine lv_iload hx hb dX2_fitting_163 (lv_at hl 1 rfl) ?_
                  refine q_ialdN hx hb hK hP 6 0 rfl rfl (j := (nm i) - 32) (by omega) (by omega) dX2_fitting_165 ?_
                  have bd26 := hsta ((nm i) - 32)
                  refine lv_goto (tgt := 185) hx hb dX2_fitting_166 (by decide) ?_
                  refine lv_iand hx hb dX2_fitting_185 ?_
                  refine q_top (nI_and _ _) ?_
                  refine lv_istore_n (lv' := [(2, .int (nI (y &&& (sta ((nm i) - 32))))), (7, .int (oI (f_th tv (pl ((2 * i) + 1))))), (6, .int (nI ((nm i) - 32))), (5, .int (nI (pl ((2 * i) + 1)))), (4, .int (nI (pl (2 * i)))), (3, .int (nI (i))), (0, .ref n0), (1, .int (nI (v)))]) hx hb dX2_fitting_186 rfl hl (by decide) rfl (fun ls hl => ?_)
                  refine lv_goto (tgt := 242) hx hb dX2_fitting_187 (by decide) ?_
                  refine lv_iinc (v := (nI (i + 1))) (lv' := [(3, .int (nI (i + 1))), (2, .int (nI (y &&& (sta ((nm i) - 32))))), (7, .int (oI (f_th tv (pl ((2 * i) + 1))))), (6, .int (nI ((nm i) - 32))), (5, .int (nI (pl ((2 * i) + 1)))), (4, .int (nI (pl (2 * i)))), (0, .ref n0), (1, .int (nI (v)))]) hx hb dX2_fitting_242 hl (k := 5) rfl (q_inc _) (by decide) rfl (fun ls hl => ?_)
                  refine lv_goto (tgt := 6) hx hb dX2_fitting_245 (by decide) ?_
                  exact ih6 (y &&& (sta ((nm i) - 32))) (i + 1) ls (by omega) (show (i + 1) ≤ n from by omega) (show f_fits nm pl mb tg sr sta en tv v (i + 1) (y &&& (sta ((nm i) - 32))) from by (first | (exact f_fits_s hy (hmb _) (fun t9 ht9 => by rw [f_fit, if_pos (by omega), if_pos (by omega)])) | (exact f_fits_s hy (by omega) (fun t9 ht9 => by rw [f_fit, if_pos (by omega), if_neg (by omega)]; exact all_bit ht9)) | (exact f_fits_s hy hl9.1 (fun t9 ht9 => by rw [f_fit, if_neg (by omega), if_pos (by omega), hl9.2 t9]; simp [ht9])) | (exact f_fits_s hy (hsta _) (fun t9 ht9 => by rw [f_fit, if_neg (by omega), if_neg (by omega), if_pos (by omega), et9]; rfl)) | (exact f_fits_s hy (hsr _) (fun t9 ht9 => by rw [f_fit, if_neg (by omega), if_neg (by omega), if_pos (by omega), et9]; rfl)) | (exact f_fits_s hy (hen _) (fun t9 ht9 => by rw [f_fit, if_neg (by omega), if_neg (by omega), if_neg (by omega), if_pos (by omega), et9]; rfl)) | (exact f_fits_s hy (htg _) (fun t9 ht9 => by rw [f_fit, if_neg (by omega), if_neg (by omega), if_neg (by omega), if_pos (by omega), et9]; rfl)) | (exact f_fits_n hy (fun t9 ht9 => by rw [f_fit, if_neg (by omega), if_neg (by omega), if_neg (by omega), if_neg (by omega)])))) (lv_sub hl [0, 1, 6, 7] rfl)
            · refine lv_iload_n hx hb dX2_fitting_120 rfl (lv_at hl 4 rfl) ?_
              refine lv_aload_n hx hb dX2_fitting_121 rfl (lv_at hl 5 rfl) ?_
              refine va_get (D := (dC, dI)) (ci := 2) (v := .ref fc0) (C := RX2) (T := TX2) (N := 3) hx hb hts uX2 hown hK hP 0 rfl rfl 0 (by decide) (hts _ kfX2_22) (fun _ h9 => h9) rfl dX2_fitting_122 ?_
              refine lv_iload hx hb dX2_fitting_125 (lv_at hl 0 rfl) ?_
              refine vp_callSi (va_Run.run (va_runV (As := [.int (nI ((nm i) - 32))]) (rest := [.int (nI (y))]) ⟨hx, hb, hml, hown, hts⟩ (c_Facts_loops l dC dI cI cL cQ cZ fc0 m1 t1 s1 st1 e1 fs mb tg sr sta en ((nm i) - 32) (show ((nm i) - 32) < 8 from by first | assumption | omega) (show ∀ j, mb j < 4096 from by first | assumption | omega) (show ∀ j, tg j < 4096 from by first | assumption | omega) (show ∀ j, sr j < 4096 from by first | assumption | omega) (show ∀ j, sta j < 4096 from by first | assumption | omega) (show ∀ j, en j < 4096 from by first | assumption | omega)) (q_cwV 1 hts gkX1_loops kmX2_97 knX1_loops klX1_loops kiX1 rfl rfl rfl (by decide +kernel) ⟨Nat.le_of_ble_eq_true rfl, Nat.le_of_ble_eq_true rfl⟩) (q_preV hK hP [2, 3, 4, 5, 6, 7] rfl 2 (ci := 1) (r := (RX1, TX1, 6)) rfl rfl) rfl rfl hl.1 rfl (lv_room (Nat.le_of_ble_eq_true rfl)) dX2_fitting_127 ⟨Nat.zero_le _, Nat.zero_le _⟩)) (fun r27 hr27 => ?_)
              have hr27 : ∃ y9, r27 = nI y9 ∧ f_lps tg ((nm i) - 32) y9 12 := hr27
              have hlast := hr27
              obtain ⟨y9, ey9, hl9⟩ := hlast
              refine q_top ey9 ?_
              refine lv_iand hx hb dX2_fitting_130 ?_
              refine q_top (nI_and _ _) ?_
              refine lv_istore_n (lv' := [(2, .int (nI (y &&& y9))), (6, .int (nI ((nm i) - 32))), (5, .int (nI (pl ((2 * i) + 1)))), (4, .int (nI (pl (2 * i)))), (3, .int (nI (i))), (0, .ref n0), (1, .int (nI (v)))]) hx hb dX2_fitting_131 rfl hl (by decide) rfl (fun ls hl => ?_)
              refine lv_goto (tgt := 242) hx hb dX2_fitting_132 (by decide) ?_
              refine lv_iinc (v := (nI (i + 1))) (lv' := [(3, .int (nI (i + 1))), (2, .int (nI (y &&& y9))), (6, .int (nI ((nm i) - 32))), (5, .int (nI (pl ((2 * i) + 1)))), (4, .int (nI (pl (2 * i)))), (0, .ref n0), (1, .int (nI (v)))]) hx hb dX2_fitting_242 hl (k := 4) rfl (q_inc _) (by decide) rfl (fun ls hl => ?_)
              refine lv_goto (tgt := 6) hx hb dX2_fitting_245 (by decide) ?_
              exact ih6 (y &&& y9) (i + 1) ls (by omega) (show (i + 1) ≤ n from by omega) (show f_fits nm pl mb tg sr sta en tv v (i + 1) (y &&& y9) from by (first | (exact f_fits_s hy (hmb _) (fun t9 ht9 => by rw [f_fit, if_pos (by omega), if_pos (by omega)])) | (exact f_fits_s hy (by omega) (fun t9 ht9 => by rw [f_fit, if_pos (by omega), if_neg (by omega)]; exact all_bit ht9)) | (exact f_fits_s hy hl9.1 (fun t9 ht9 => by rw [f_fit, if_neg (by omega), if_pos (by omega), hl9.2 t9]; simp [ht9])) | (exact f_fits_s hy (hsta _) (fun t9 ht9 => by rw [f_fit, if_neg (by omega), if_neg (by omega), if_pos (by omega), et9]; rfl)) | (exact f_fits_s hy (hsr _) (fun t9 ht9 => by rw [f_fit, if_neg (by omega), if_neg (by omega), if_pos (by omega), et9]; rfl)) | (exact f_fits_s hy (hen _) (fun t9 ht9 => by rw [f_fit, if_neg (by omega), if_neg (by omega), if_neg (by omega), if_pos (by omega), et9]; rfl)) | (exact f_fits_s hy (htg _) (fun t9 ht9 => by rw [f_fit, if_neg (by omega), if_neg (by omega), if_neg (by omega), if_pos (by omega), et9]; rfl)) | (exact f_fits_n hy (fun t9 ht9 => by rw [f_fit, if_neg (by omega), if_neg (by omega), if_neg (by omega), if_neg (by omega)])))) (lv_sub hl [0, 1, 5, 6] rfl)
        · refine lv_iload_n hx hb dX2_fitting_59 rfl (lv_at hl 3 rfl) ?_
          refine lv_iload hx hb dX2_fitting_60 (lv_at hl 1 rfl) ?_
          refine lv_iload_n hx hb dX2_fitting_62 rfl (lv_at hl 5 rfl) ?_
          refine q_icmp_ne (x := pl (2 * i)) (y := v) (tgt := 86) hx hb dX2_fitting_63 (by decide) (by omega) (by omega) (fun c63_28 => ?_) (fun c63_28 => ?_)
          · refine lv_sipush (v := (nI (4095))) hx hb dX2_fitting_86 (by decide) ?_
            refine lv_iand hx hb dX2_fitting_89 ?_
            refine q_top (nI_and _ _) ?_
            refine lv_istore_n (lv' := [(2, .int (nI (y &&& 4095))), (5, .int (nI (pl ((2 * i) + 1)))), (4, .int (nI (pl (2 * i)))), (3, .int (nI (i))), (0, .ref n0), (1, .int (nI (v)))]) hx hb dX2_fitting_90 rfl hl (by decide) rfl (fun ls hl => ?_)
            refine lv_goto (tgt := 242) hx hb dX2_fitting_91 (by decide) ?_
            refine lv_iinc (v := (nI (i + 1))) (lv' := [(3, .int (nI (i + 1))), (2, .int (nI (y &&& 4095))), (5, .int (nI (pl ((2 * i) + 1)))), (4, .int (nI (pl (2 * i)))), (0, .ref n0), (1, .int (nI (v)))]) hx hb dX2_fitting_242 hl (k := 3) rfl (q_inc _) (by decide) rfl (fun ls hl => ?_)
            refine lv_goto (tgt := 6) hx hb dX2_fitting_245 (by decide) ?_
            exact ih6 (y &&& 4095) (i + 1) ls (by omega) (show (i + 1) ≤ n from by omega) (show f_fits nm pl mb tg sr sta en tv v (i + 1) (y &&& 4095) from by (first | (exact f_fits_s hy (hmb _) (fun t9 ht9 => by rw [f_fit, if_pos (by omega), if_pos (by omega)])) | (exact f_fits_s hy (by omega) (fun t9 ht9 => by rw [f_fit, if_pos (by omega), if_neg (by omega)]; exact all_bit ht9)) | (exact f_fits_s hy hl9.1 (fun t9 ht9 => by rw [f_fit, if_neg (by omega), if_pos (by omega), hl9.2 t9]; simp [ht9])) | (exact f_fits_s hy (hsta _) (fun t9 ht9 => by rw [f_fit, if_neg (by omega), if_neg (by omega), if_pos (by omega), et9]; rfl)) | (exact f_fits_s hy (hsr _) (fun t9 ht9 => by rw [f_fit, if_neg (by omega), if_neg (by omega), if_pos (by omega), et9]; rfl)) | (exact f_fits_s hy (hen _) (fun t9 ht9 => by rw [f_fit, if_neg (by omega), if_neg (by omega), if_neg (by omega), if_pos (by omega), et9]; rfl)) | (exact f_fits_s hy (htg _) (fun t9 ht9 => by rw [f_fit, if_neg (by omega), if_neg (by omega), if_neg (by omega), if_pos (by omega), et9]; rfl)) | (exact f_fits_n hy (fun t9 ht9 => by rw [f_fit, if_neg (by omega), if_neg (by omega), if_neg (by omega), if_neg (by omega)])))) (lv_sub hl [0, 1, 4, 5] rfl)
          · refine lv_aload_n hx hb dX2_fitting_66 rfl (lv_at hl 4 rfl) ?_
            refine va_get (D := (dC, dI)) (ci := 2) (v := .ref fc0) (C := RX2) (T := TX2) (N := 3) hx hb hts uX2 hown hK hP 0 rfl rfl 0 (by decide) (hts _ kfX2_22) (fun _ h9 => h9) rfl dX2_fitting_67 ?_
            refine va_get (D := (dC, dI)) (ci := 1) (v := .ref m1) (C := RX1) (T := TX1) (N := 6) hx hb hts uX1 hown hK hP 2 rfl rfl 0 (by decide) (hts _ kfX2_72) (fun _ h9 => h9) rfl dX2_fitting_70 ?_
            refine lv_aload_n hx hb dX2_fitting_73 rfl (lv_at hl 4 rfl) ?_
            refine va_get (D := (dC, dI)) (ci := 2) (v := .ref fm0) (C := RX2) (T := TX2) (N := 3) hx hb hts uX2 hown hK hP 0 rfl rfl 1 (by decide) (hts _ kfX2_12) (fun _ h9 => h9) rfl dX2_fitting_74 ?_
            refine va_get (D := (dC, dI)) (ci := 3) (v := .ref a1) (C := RX3) (T := TX3) (N := 4) hx hb hts uX3 hown hK hP 8 rfl rfl 0 (by decide) (hts _ kfX2_69) (fun _ h9 => h9) rfl dX2_fitting_77 ?_
            refine lv_iload_n hx hb dX2_fitting_80 rfl (lv_at hl 2 rfl) ?_
            refine q_ialdN hx hb hK hP 9 0 rfl rfl (j := i) (by omega) (by omega) dX2_fitting_81 ?_
            refine q_ialdN hx hb hK hP 3 0 rfl rfl (j := nm i) (by omega) (by omega) dX2_fitting_82 ?_
            have bd29 := hmb (nm i)
            refine lv_goto (tgt := 89) hx hb dX2_fitting_83 (by decide) ?_
            refine lv_iand hx hb dX2_fitting_89 ?_
            refine q_top (nI_and _ _) ?_
            refine lv_istore_n (lv' := [(2, .int (nI (y &&& (mb (nm i))))), (5, .int (nI (pl ((2 * i) + 1)))), (4, .int (nI (pl (2 * i)))), (3, .int (nI (i))), (0, .ref n0), (1, .int (nI (v)))]) hx hb dX2_fitting_90 rfl hl (by decide) rfl (fun ls hl => ?_)
            refine lv_goto (tgt := 242) hx hb dX2_fitting_91 (by decide) ?_
            refine lv_iinc (v := (nI (i + 1))) (lv' := [(3, .int (nI (i + 1))), (2, .int (nI (y &&& (mb (nm i))))), (5, .int (nI (pl ((2 * i) + 1)))), (4, .int (nI (pl (2 * i)))), (0, .ref n0), (1, .int (nI (v)))]) hx hb dX2_fitting_242 hl (k := 3) rfl (q_inc _) (by decide) rfl (fun ls hl => ?_)
            refine lv_goto (tgt := 6) hx hb dX2_fitting_245 (by decide) ?_
            exact ih6 (y &&& (mb (nm i))) (i + 1) ls (by omega) (show (i + 1) ≤ n from by omega) (show f_fits nm pl mb tg sr sta en tv v (i + 1) (y &&& (mb (nm i))) from by (first | (exact f_fits_s hy (hmb _) (fun t9 ht9 => by rw [f_fit, if_pos (by omega), if_pos (by omega)])) | (exact f_fits_s hy (by omega) (fun t9 ht9 => by rw [f_fit, if_pos (by omega), if_neg (by omega)]; exact all_bit ht9)) | (exact f_fits_s hy hl9.1 (fun t9 ht9 => by rw [f_fit, if_neg (by omega), if_pos (by omega), hl9.2 t9]; simp [ht9])) | (exact f_fits_s hy (hsta _) (fun t9 ht9 => by rw [f_fit, if_neg (by omega), if_neg (by omega), if_pos (by omega), et9]; rfl)) | (exact f_fits_s hy (hsr _) (fun t9 ht9 => by rw [f_fit, if_neg (by omega), if_neg (by omega), if_pos (by omega), et9]; rfl)) | (exact f_fits_s hy (hen _) (fun t9 ht9 => by rw [f_fit, if_neg (by omega), if_neg (by omega), if_neg (by omega), if_pos (by omega), et9]; rfl)) | (exact f_fits_s hy (htg _) (fun t9 ht9 => by rw [f_fit, if_neg (by omega), if_neg (by omega), if_neg (by omega), if_pos (by omega), et9]; rfl)) | (exact f_fits_n hy (fun t9 ht9 => by rw [f_fit, if_neg (by omega), if_neg (by omega), if_neg (by omega), if_neg (by omega)])))) (lv_sub hl [0, 1, 4, 5] rfl)
  exact L6 _ 4095 0 ls (by exact Nat.lt_succ_self _) (show 0 ≤ n from by omega) (show f_fits nm pl mb tg sr sta en tv v 0 4095 from by (exact f_fits_0 _ _ _ _ _ _ _ _ _)) (lv_sub hl [0, 1, 2, 3] rfl)
