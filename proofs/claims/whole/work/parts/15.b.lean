abbrev cX0_replace : ByteArray := prog_2_method_5_code
def yX0_replace : MethodName := ⟨RX0, "replace", "(ILQlRewrite$Form;I)Z"⟩
def wkX0_replace : List Cond := .code yX0_replace cX0_replace 8 (some .boolean) :: qW
set_option maxRecDepth 40000 in
theorem gkX0_replace : GoodIn qW wkX0_replace := q_good (qw 447 rfl rfl)
set_option maxRecDepth 40000 in
theorem knX0_replace : Cond.instanceMethod yX0_replace ∈ qW := qw 445 rfl rfl
set_option maxRecDepth 40000 in
theorem klX0_replace : Cond.selects RX0 yX0_replace yX0_replace ∈ qW := qw 446 rfl rfl
theorem dX0_replace_0 : decode cX0_replace 0 = .ok (.aload_n 2, 1) := by decide +kernel
theorem dX0_replace_1 : decode cX0_replace 1 = .ok (.getfield 36, 3) := by decide +kernel
theorem dX0_replace_4 : decode cX0_replace 4 = .ok (.iload_n 3, 1) := by decide +kernel
theorem dX0_replace_5 : decode cX0_replace 5 = .ok (.iaload, 1) := by decide +kernel
theorem dX0_replace_6 : decode cX0_replace 6 = .ok (.istore 4, 2) := by decide +kernel
theorem dX0_replace_8 : decode cX0_replace 8 = .ok (.aload_n 2, 1) := by decide +kernel
theorem dX0_replace_9 : decode cX0_replace 9 = .ok (.getfield 39, 3) := by decide +kernel
theorem dX0_replace_12 : decode cX0_replace 12 = .ok (.iconst 2, 1) := by decide +kernel
theorem dX0_replace_13 : decode cX0_replace 13 = .ok (.iload_n 3, 1) := by decide +kernel
theorem dX0_replace_14 : decode cX0_replace 14 = .ok (.imul, 1) := by decide +kernel
theorem dX0_replace_15 : decode cX0_replace 15 = .ok (.iaload, 1) := by decide +kernel
theorem dX0_replace_16 : decode cX0_replace 16 = .ok (.istore 5, 2) := by decide +kernel
theorem dX0_replace_18 : decode cX0_replace 18 = .ok (.aload_n 2, 1) := by decide +kernel
theorem dX0_replace_19 : decode cX0_replace 19 = .ok (.getfield 39, 3) := by decide +kernel
theorem dX0_replace_22 : decode cX0_replace 22 = .ok (.iconst 2, 1) := by decide +kernel
theorem dX0_replace_23 : decode cX0_replace 23 = .ok (.iload_n 3, 1) := by decide +kernel
theorem dX0_replace_24 : decode cX0_replace 24 = .ok (.imul, 1) := by decide +kernel
theorem dX0_replace_25 : decode cX0_replace 25 = .ok (.iconst 1, 1) := by decide +kernel
theorem dX0_replace_26 : decode cX0_replace 26 = .ok (.iadd, 1) := by decide +kernel
theorem dX0_replace_27 : decode cX0_replace 27 = .ok (.iaload, 1) := by decide +kernel
theorem dX0_replace_28 : decode cX0_replace 28 = .ok (.istore 6, 2) := by decide +kernel
theorem dX0_replace_30 : decode cX0_replace 30 = .ok (.aload_n 0, 1) := by decide +kernel
theorem dX0_replace_31 : decode cX0_replace 31 = .ok (.getfield 9, 3) := by decide +kernel
theorem dX0_replace_34 : decode cX0_replace 34 = .ok (.iload_n 1, 1) := by decide +kernel
theorem dX0_replace_35 : decode cX0_replace 35 = .ok (.iaload, 1) := by decide +kernel
theorem dX0_replace_36 : decode cX0_replace 36 = .ok (.ifCond .ne 44, 3) := by decide +kernel
theorem dX0_replace_39 : decode cX0_replace 39 = .ok (.aload_n 0, 1) := by decide +kernel
theorem dX0_replace_40 : decode cX0_replace 40 = .ok (.getfield 18, 3) := by decide +kernel
theorem dX0_replace_43 : decode cX0_replace 43 = .ok (.iload_n 1, 1) := by decide +kernel
theorem dX0_replace_44 : decode cX0_replace 44 = .ok (.iaload, 1) := by decide +kernel
theorem dX0_replace_45 : decode cX0_replace 45 = .ok (.iload 4, 2) := by decide +kernel
theorem dX0_replace_47 : decode cX0_replace 47 = .ok (.iload 5, 2) := by decide +kernel
theorem dX0_replace_49 : decode cX0_replace 49 = .ok (.iload 6, 2) := by decide +kernel
theorem dX0_replace_51 : decode cX0_replace 51 = .ok (.invokestatic 42, 3) := by decide +kernel
theorem dX0_replace_54 : decode cX0_replace 54 = .ok (.istore 7, 2) := by decide +kernel
theorem dX0_replace_56 : decode cX0_replace 56 = .ok (.iload 7, 2) := by decide +kernel
theorem dX0_replace_58 : decode cX0_replace 58 = .ok (.bipush 7, 2) := by decide +kernel
theorem dX0_replace_60 : decode cX0_replace 60 = .ok (.if_icmp .ne 5, 3) := by decide +kernel
theorem dX0_replace_63 : decode cX0_replace 63 = .ok (.iconst 0, 1) := by decide +kernel
theorem dX0_replace_64 : decode cX0_replace 64 = .ok (.ireturn, 1) := by decide +kernel
theorem dX0_replace_65 : decode cX0_replace 65 = .ok (.aload_n 2, 1) := by decide +kernel
theorem dX0_replace_66 : decode cX0_replace 66 = .ok (.iload_n 3, 1) := by decide +kernel
theorem dX0_replace_67 : decode cX0_replace 67 = .ok (.aload_n 0, 1) := by decide +kernel
theorem dX0_replace_68 : decode cX0_replace 68 = .ok (.getfield 15, 3) := by decide +kernel
theorem dX0_replace_71 : decode cX0_replace 71 = .ok (.iload_n 1, 1) := by decide +kernel
theorem dX0_replace_72 : decode cX0_replace 72 = .ok (.iaload, 1) := by decide +kernel
theorem dX0_replace_73 : decode cX0_replace 73 = .ok (.iload 7, 2) := by decide +kernel
theorem dX0_replace_75 : decode cX0_replace 75 = .ok (.invokevirtual 28, 3) := by decide +kernel
theorem dX0_replace_78 : decode cX0_replace 78 = .ok (.iconst 1, 1) := by decide +kernel
theorem dX0_replace_79 : decode cX0_replace 79 = .ok (.ireturn, 1) := by decide +kernel
theorem dX0_replace_80 : decode cX0_replace 80 = .ok (.aload_n 0, 1) := by decide +kernel
theorem dX0_replace_81 : decode cX0_replace 81 = .ok (.getfield 9, 3) := by decide +kernel
theorem dX0_replace_84 : decode cX0_replace 84 = .ok (.iload_n 1, 1) := by decide +kernel
theorem dX0_replace_85 : decode cX0_replace 85 = .ok (.iaload, 1) := by decide +kernel
theorem dX0_replace_86 : decode cX0_replace 86 = .ok (.iconst 1, 1) := by decide +kernel
theorem dX0_replace_87 : decode cX0_replace 87 = .ok (.if_icmp .ne 19, 3) := by decide +kernel
theorem dX0_replace_90 : decode cX0_replace 90 = .ok (.iload 4, 2) := by decide +kernel
theorem dX0_replace_92 : decode cX0_replace 92 = .ok (.bipush 32, 2) := by decide +kernel
theorem dX0_replace_94 : decode cX0_replace 94 = .ok (.aload_n 0, 1) := by decide +kernel
theorem dX0_replace_95 : decode cX0_replace 95 = .ok (.getfield 18, 3) := by decide +kernel
theorem dX0_replace_98 : decode cX0_replace 98 = .ok (.iload_n 1, 1) := by decide +kernel
theorem dX0_replace_99 : decode cX0_replace 99 = .ok (.iaload, 1) := by decide +kernel
theorem dX0_replace_100 : decode cX0_replace 100 = .ok (.iconst 2, 1) := by decide +kernel
theorem dX0_replace_101 : decode cX0_replace 101 = .ok (.idiv, 1) := by decide +kernel
theorem dX0_replace_102 : decode cX0_replace 102 = .ok (.iadd, 1) := by decide +kernel
theorem dX0_replace_103 : decode cX0_replace 103 = .ok (.if_icmp .eq 5, 3) := by decide +kernel
theorem dX0_replace_106 : decode cX0_replace 106 = .ok (.iconst 0, 1) := by decide +kernel
theorem dX0_replace_107 : decode cX0_replace 107 = .ok (.ireturn, 1) := by decide +kernel
theorem dX0_replace_108 : decode cX0_replace 108 = .ok (.aload_n 0, 1) := by decide +kernel
theorem dX0_replace_109 : decode cX0_replace 109 = .ok (.getfield 18, 3) := by decide +kernel
theorem dX0_replace_112 : decode cX0_replace 112 = .ok (.iload_n 1, 1) := by decide +kernel
theorem dX0_replace_113 : decode cX0_replace 113 = .ok (.iaload, 1) := by decide +kernel
theorem dX0_replace_114 : decode cX0_replace 114 = .ok (.iconst 2, 1) := by decide +kernel
theorem dX0_replace_115 : decode cX0_replace 115 = .ok (.irem, 1) := by decide +kernel
theorem dX0_replace_116 : decode cX0_replace 116 = .ok (.ifCond .ne 21, 3) := by decide +kernel
theorem dX0_replace_119 : decode cX0_replace 119 = .ok (.aload_n 2, 1) := by decide +kernel
theorem dX0_replace_120 : decode cX0_replace 120 = .ok (.iload_n 3, 1) := by decide +kernel
theorem dX0_replace_121 : decode cX0_replace 121 = .ok (.aload_n 0, 1) := by decide +kernel
theorem dX0_replace_122 : decode cX0_replace 122 = .ok (.getfield 15, 3) := by decide +kernel
theorem dX0_replace_125 : decode cX0_replace 125 = .ok (.iload_n 1, 1) := by decide +kernel
theorem dX0_replace_126 : decode cX0_replace 126 = .ok (.iaload, 1) := by decide +kernel
theorem dX0_replace_127 : decode cX0_replace 127 = .ok (.iload 5, 2) := by decide +kernel
theorem dX0_replace_129 : decode cX0_replace 129 = .ok (.iload 6, 2) := by decide +kernel
theorem dX0_replace_131 : decode cX0_replace 131 = .ok (.invokevirtual 32, 3) := by decide +kernel
theorem dX0_replace_134 : decode cX0_replace 134 = .ok (.goto 18, 3) := by decide +kernel
theorem dX0_replace_137 : decode cX0_replace 137 = .ok (.aload_n 2, 1) := by decide +kernel
theorem dX0_replace_138 : decode cX0_replace 138 = .ok (.iload_n 3, 1) := by decide +kernel
theorem dX0_replace_139 : decode cX0_replace 139 = .ok (.aload_n 0, 1) := by decide +kernel
theorem dX0_replace_140 : decode cX0_replace 140 = .ok (.getfield 15, 3) := by decide +kernel
theorem dX0_replace_143 : decode cX0_replace 143 = .ok (.iload_n 1, 1) := by decide +kernel
theorem dX0_replace_144 : decode cX0_replace 144 = .ok (.iaload, 1) := by decide +kernel
theorem dX0_replace_145 : decode cX0_replace 145 = .ok (.iload 6, 2) := by decide +kernel
theorem dX0_replace_147 : decode cX0_replace 147 = .ok (.iload 5, 2) := by decide +kernel
theorem dX0_replace_149 : decode cX0_replace 149 = .ok (.invokevirtual 32, 3) := by decide +kernel
theorem dX0_replace_152 : decode cX0_replace 152 = .ok (.iconst 1, 1) := by decide +kernel
theorem dX0_replace_153 : decode cX0_replace 153 = .ok (.ireturn, 1) := by decide +kernel
abbrev cX0_fillForbidden : ByteArray := prog_2_method_4_code
def yX0_fillForbidden : MethodName := ⟨RX0, "fillForbidden", "(ILQlRewrite$Form;)V"⟩
def wkX0_fillForbidden : List Cond := .code yX0_fillForbidden cX0_fillForbidden 5 none :: qW
set_option maxRecDepth 40000 in
theorem gkX0_fillForbidden : GoodIn qW wkX0_fillForbidden := q_good (qw 555 rfl rfl)
set_option maxRecDepth 40000 in
theorem knX0_fillForbidden : Cond.instanceMethod yX0_fillForbidden ∈ qW := qw 553 rfl rfl
set_option maxRecDepth 40000 in
theorem klX0_fillForbidden : Cond.selects RX0 yX0_fillForbidden yX0_fillForbidden ∈ qW := qw 554 rfl rfl
theorem dX0_fillForbidden_0 : decode cX0_fillForbidden 0 = .ok (.bipush 8, 2) := by decide +kernel
theorem dX0_fillForbidden_2 : decode cX0_fillForbidden 2 = .ok (.istore_n 3, 1) := by decide +kernel
theorem dX0_fillForbidden_3 : decode cX0_fillForbidden 3 = .ok (.bipush 9, 2) := by decide +kernel
theorem dX0_fillForbidden_5 : decode cX0_fillForbidden 5 = .ok (.istore 4, 2) := by decide +kernel
theorem dX0_fillForbidden_7 : decode cX0_fillForbidden 7 = .ok (.aload_n 2, 1) := by decide +kernel
theorem dX0_fillForbidden_8 : decode cX0_fillForbidden 8 = .ok (.iconst 2, 1) := by decide +kernel
theorem dX0_fillForbidden_9 : decode cX0_fillForbidden 9 = .ok (.putfield 25, 3) := by decide +kernel
theorem dX0_fillForbidden_12 : decode cX0_fillForbidden 12 = .ok (.aload_n 0, 1) := by decide +kernel
theorem dX0_fillForbidden_13 : decode cX0_fillForbidden 13 = .ok (.getfield 9, 3) := by decide +kernel
theorem dX0_fillForbidden_16 : decode cX0_fillForbidden 16 = .ok (.iload_n 1, 1) := by decide +kernel
theorem dX0_fillForbidden_17 : decode cX0_fillForbidden 17 = .ok (.iaload, 1) := by decide +kernel
theorem dX0_fillForbidden_18 : decode cX0_fillForbidden 18 = .ok (.iconst 2, 1) := by decide +kernel
theorem dX0_fillForbidden_19 : decode cX0_fillForbidden 19 = .ok (.if_icmp .ne 30, 3) := by decide +kernel
theorem dX0_fillForbidden_22 : decode cX0_fillForbidden 22 = .ok (.aload_n 2, 1) := by decide +kernel
theorem dX0_fillForbidden_23 : decode cX0_fillForbidden 23 = .ok (.iconst 0, 1) := by decide +kernel
theorem dX0_fillForbidden_24 : decode cX0_fillForbidden 24 = .ok (.aload_n 0, 1) := by decide +kernel
theorem dX0_fillForbidden_25 : decode cX0_fillForbidden 25 = .ok (.getfield 15, 3) := by decide +kernel
theorem dX0_fillForbidden_28 : decode cX0_fillForbidden 28 = .ok (.iload_n 1, 1) := by decide +kernel
theorem dX0_fillForbidden_29 : decode cX0_fillForbidden 29 = .ok (.iaload, 1) := by decide +kernel
theorem dX0_fillForbidden_30 : decode cX0_fillForbidden 30 = .ok (.iload_n 3, 1) := by decide +kernel
theorem dX0_fillForbidden_31 : decode cX0_fillForbidden 31 = .ok (.invokevirtual 28, 3) := by decide +kernel
theorem dX0_fillForbidden_34 : decode cX0_fillForbidden 34 = .ok (.aload_n 2, 1) := by decide +kernel
theorem dX0_fillForbidden_35 : decode cX0_fillForbidden 35 = .ok (.iconst 1, 1) := by decide +kernel
theorem dX0_fillForbidden_36 : decode cX0_fillForbidden 36 = .ok (.aload_n 0, 1) := by decide +kernel
theorem dX0_fillForbidden_37 : decode cX0_fillForbidden 37 = .ok (.getfield 18, 3) := by decide +kernel
theorem dX0_fillForbidden_40 : decode cX0_fillForbidden 40 = .ok (.iload_n 1, 1) := by decide +kernel
theorem dX0_fillForbidden_41 : decode cX0_fillForbidden 41 = .ok (.iaload, 1) := by decide +kernel
theorem dX0_fillForbidden_42 : decode cX0_fillForbidden 42 = .ok (.iload_n 3, 1) := by decide +kernel
theorem dX0_fillForbidden_43 : decode cX0_fillForbidden 43 = .ok (.invokevirtual 28, 3) := by decide +kernel
theorem dX0_fillForbidden_46 : decode cX0_fillForbidden 46 = .ok (.goto 31, 3) := by decide +kernel
theorem dX0_fillForbidden_49 : decode cX0_fillForbidden 49 = .ok (.aload_n 2, 1) := by decide +kernel
theorem dX0_fillForbidden_50 : decode cX0_fillForbidden 50 = .ok (.iconst 0, 1) := by decide +kernel
theorem dX0_fillForbidden_51 : decode cX0_fillForbidden 51 = .ok (.aload_n 0, 1) := by decide +kernel
theorem dX0_fillForbidden_52 : decode cX0_fillForbidden 52 = .ok (.getfield 15, 3) := by decide +kernel
theorem dX0_fillForbidden_55 : decode cX0_fillForbidden 55 = .ok (.iload_n 1, 1) := by decide +kernel
theorem dX0_fillForbidden_56 : decode cX0_fillForbidden 56 = .ok (.iaload, 1) := by decide +kernel
theorem dX0_fillForbidden_57 : decode cX0_fillForbidden 57 = .ok (.iload_n 3, 1) := by decide +kernel
theorem dX0_fillForbidden_58 : decode cX0_fillForbidden 58 = .ok (.iload 4, 2) := by decide +kernel
theorem dX0_fillForbidden_60 : decode cX0_fillForbidden 60 = .ok (.invokevirtual 32, 3) := by decide +kernel
theorem dX0_fillForbidden_63 : decode cX0_fillForbidden 63 = .ok (.aload_n 2, 1) := by decide +kernel
theorem dX0_fillForbidden_64 : decode cX0_fillForbidden 64 = .ok (.iconst 1, 1) := by decide +kernel
theorem dX0_fillForbidden_65 : decode cX0_fillForbidden 65 = .ok (.aload_n 0, 1) := by decide +kernel
theorem dX0_fillForbidden_66 : decode cX0_fillForbidden 66 = .ok (.getfield 18, 3) := by decide +kernel
theorem dX0_fillForbidden_69 : decode cX0_fillForbidden 69 = .ok (.iload_n 1, 1) := by decide +kernel
theorem dX0_fillForbidden_70 : decode cX0_fillForbidden 70 = .ok (.iaload, 1) := by decide +kernel
theorem dX0_fillForbidden_71 : decode cX0_fillForbidden 71 = .ok (.iload_n 3, 1) := by decide +kernel
theorem dX0_fillForbidden_72 : decode cX0_fillForbidden 72 = .ok (.iload 4, 2) := by decide +kernel
theorem dX0_fillForbidden_74 : decode cX0_fillForbidden 74 = .ok (.invokevirtual 32, 3) := by decide +kernel
theorem dX0_fillForbidden_77 : decode cX0_fillForbidden 77 = .ok (.return_, 1) := by decide +kernel
abbrev cX5_begin : ByteArray := prog_7_method_2_code
def yX5_begin : MethodName := ⟨RX5, "begin", "(I)V"⟩
def wkX5_begin : List Cond := .code yX5_begin cX5_begin 2 none :: qW
set_option maxRecDepth 40000 in
theorem gkX5_begin : GoodIn qW wkX5_begin := q_good (qw 341 rfl rfl)
set_option maxRecDepth 40000 in
theorem knX5_begin : Cond.instanceMethod yX5_begin ∈ qW := qw 339 rfl rfl
set_option maxRecDepth 40000 in
theorem klX5_begin : Cond.selects RX5 yX5_begin yX5_begin ∈ qW := qw 340 rfl rfl
theorem dX5_begin_0 : decode cX5_begin 0 = .ok (.aload_n 0, 1) := by decide +kernel
theorem dX5_begin_1 : decode cX5_begin 1 = .ok (.iload_n 1, 1) := by decide +kernel
theorem dX5_begin_2 : decode cX5_begin 2 = .ok (.putfield 18, 3) := by decide +kernel
theorem dX5_begin_5 : decode cX5_begin 5 = .ok (.aload_n 0, 1) := by decide +kernel
theorem dX5_begin_6 : decode cX5_begin 6 = .ok (.getfield 12, 3) := by decide +kernel
theorem dX5_begin_9 : decode cX5_begin 9 = .ok (.iconst 0, 1) := by decide +kernel
theorem dX5_begin_10 : decode cX5_begin 10 = .ok (.putfield 43, 3) := by decide +kernel
theorem dX5_begin_13 : decode cX5_begin 13 = .ok (.aload_n 0, 1) := by decide +kernel
theorem dX5_begin_14 : decode cX5_begin 14 = .ok (.iconst 0, 1) := by decide +kernel
theorem dX5_begin_15 : decode cX5_begin 15 = .ok (.putfield 33, 3) := by decide +kernel
theorem dX5_begin_18 : decode cX5_begin 18 = .ok (.return_, 1) := by decide +kernel
abbrev cX5_variable : ByteArray := prog_7_method_3_code
def yX5_variable : MethodName := ⟨RX5, "variable", "(I)I"⟩
def wkX5_variable : List Cond := .code yX5_variable cX5_variable 2 (some .int) :: qW
set_option maxRecDepth 40000 in
theorem gkX5_variable : GoodIn qW wkX5_variable := q_good (qw 349 rfl rfl)
set_option maxRecDepth 40000 in
theorem knX5_variable : Cond.instanceMethod yX5_variable ∈ qW := qw 347 rfl rfl
set_option maxRecDepth 40000 in
theorem klX5_variable : Cond.selects RX5 yX5_variable yX5_variable ∈ qW := qw 348 rfl rfl
theorem dX5_variable_0 : decode cX5_variable 0 = .ok (.iload_n 1, 1) := by decide +kernel
theorem dX5_variable_1 : decode cX5_variable 1 = .ok (.aload_n 0, 1) := by decide +kernel
theorem dX5_variable_2 : decode cX5_variable 2 = .ok (.getfield 18, 3) := by decide +kernel
theorem dX5_variable_5 : decode cX5_variable 5 = .ok (.if_icmp .ge 7, 3) := by decide +kernel
theorem dX5_variable_8 : decode cX5_variable 8 = .ok (.iload_n 1, 1) := by decide +kernel
theorem dX5_variable_9 : decode cX5_variable 9 = .ok (.goto 7, 3) := by decide +kernel
theorem dX5_variable_12 : decode cX5_variable 12 = .ok (.bipush 8, 2) := by decide +kernel
theorem dX5_variable_14 : decode cX5_variable 14 = .ok (.iload_n 1, 1) := by decide +kernel
theorem dX5_variable_15 : decode cX5_variable 15 = .ok (.iadd, 1) := by decide +kernel
theorem dX5_variable_16 : decode cX5_variable 16 = .ok (.ireturn, 1) := by decide +kernel
abbrev cX5_found : ByteArray := prog_7_method_4_code
def yX5_found : MethodName := ⟨RX5, "found", "()I"⟩
def wkX5_found : List Cond := .code yX5_found cX5_found 3 (some .int) :: qW
set_option maxRecDepth 40000 in
theorem gkX5_found : GoodIn qW wkX5_found := q_good (qw 527 rfl rfl)
set_option maxRecDepth 40000 in
theorem knX5_found : Cond.instanceMethod yX5_found ∈ qW := qw 525 rfl rfl
set_option maxRecDepth 40000 in
theorem klX5_found : Cond.selects RX5 yX5_found yX5_found ∈ qW := qw 526 rfl rfl
theorem dX5_found_0 : decode cX5_found 0 = .ok (.iconst 0, 1) := by decide +kernel
theorem dX5_found_1 : decode cX5_found 1 = .ok (.istore_n 1, 1) := by decide +kernel
theorem dX5_found_2 : decode cX5_found 2 = .ok (.iconst 0, 1) := by decide +kernel
theorem dX5_found_3 : decode cX5_found 3 = .ok (.istore_n 2, 1) := by decide +kernel
theorem dX5_found_4 : decode cX5_found 4 = .ok (.iload_n 2, 1) := by decide +kernel
theorem dX5_found_5 : decode cX5_found 5 = .ok (.sipush 192, 3) := by decide +kernel
theorem dX5_found_8 : decode cX5_found 8 = .ok (.if_icmp .ge 22, 3) := by decide +kernel
theorem dX5_found_11 : decode cX5_found 11 = .ok (.aload_n 0, 1) := by decide +kernel
theorem dX5_found_12 : decode cX5_found 12 = .ok (.getfield 36, 3) := by decide +kernel
theorem dX5_found_15 : decode cX5_found 15 = .ok (.iload_n 2, 1) := by decide +kernel
theorem dX5_found_16 : decode cX5_found 16 = .ok (.iaload, 1) := by decide +kernel
theorem dX5_found_17 : decode cX5_found 17 = .ok (.iconst (-1), 1) := by decide +kernel
theorem dX5_found_18 : decode cX5_found 18 = .ok (.if_icmp .eq 6, 3) := by decide +kernel
theorem dX5_found_21 : decode cX5_found 21 = .ok (.iinc 1 1, 3) := by decide +kernel
theorem dX5_found_24 : decode cX5_found 24 = .ok (.iinc 2 1, 3) := by decide +kernel
theorem dX5_found_27 : decode cX5_found 27 = .ok (.goto (-23), 3) := by decide +kernel
theorem dX5_found_30 : decode cX5_found 30 = .ok (.iload_n 1, 1) := by decide +kernel
theorem dX5_found_31 : decode cX5_found 31 = .ok (.ireturn, 1) := by decide +kernel
abbrev cX5_number : ByteArray := prog_7_method_5_code
def yX5_number : MethodName := ⟨RX5, "number", "(I)I"⟩
def wkX5_number : List Cond := .code yX5_number cX5_number 4 (some .int) :: qW
set_option maxRecDepth 40000 in
theorem gkX5_number : GoodIn qW wkX5_number := q_good (qw 535 rfl rfl)
set_option maxRecDepth 40000 in
theorem knX5_number : Cond.instanceMethod yX5_number ∈ qW := qw 533 rfl rfl
set_option maxRecDepth 40000 in
theorem klX5_number : Cond.selects RX5 yX5_number yX5_number ∈ qW := qw 534 rfl rfl
theorem dX5_number_0 : decode cX5_number 0 = .ok (.iconst 0, 1) := by decide +kernel
theorem dX5_number_1 : decode cX5_number 1 = .ok (.istore_n 2, 1) := by decide +kernel
theorem dX5_number_2 : decode cX5_number 2 = .ok (.iconst 0, 1) := by decide +kernel
theorem dX5_number_3 : decode cX5_number 3 = .ok (.istore_n 3, 1) := by decide +kernel
theorem dX5_number_4 : decode cX5_number 4 = .ok (.iload_n 3, 1) := by decide +kernel
theorem dX5_number_5 : decode cX5_number 5 = .ok (.sipush 192, 3) := by decide +kernel
theorem dX5_number_8 : decode cX5_number 8 = .ok (.if_icmp .ge 29, 3) := by decide +kernel
theorem dX5_number_11 : decode cX5_number 11 = .ok (.aload_n 0, 1) := by decide +kernel
theorem dX5_number_12 : decode cX5_number 12 = .ok (.getfield 36, 3) := by decide +kernel
theorem dX5_number_15 : decode cX5_number 15 = .ok (.iload_n 3, 1) := by decide +kernel
theorem dX5_number_16 : decode cX5_number 16 = .ok (.iaload, 1) := by decide +kernel
theorem dX5_number_17 : decode cX5_number 17 = .ok (.iconst (-1), 1) := by decide +kernel
theorem dX5_number_18 : decode cX5_number 18 = .ok (.if_icmp .eq 13, 3) := by decide +kernel
theorem dX5_number_21 : decode cX5_number 21 = .ok (.iload_n 2, 1) := by decide +kernel
theorem dX5_number_22 : decode cX5_number 22 = .ok (.iload_n 1, 1) := by decide +kernel
theorem dX5_number_23 : decode cX5_number 23 = .ok (.if_icmp .ne 5, 3) := by decide +kernel
theorem dX5_number_26 : decode cX5_number 26 = .ok (.iload_n 3, 1) := by decide +kernel
theorem dX5_number_27 : decode cX5_number 27 = .ok (.ireturn, 1) := by decide +kernel
theorem dX5_number_28 : decode cX5_number 28 = .ok (.iinc 2 1, 3) := by decide +kernel
theorem dX5_number_31 : decode cX5_number 31 = .ok (.iinc 3 1, 3) := by decide +kernel
theorem dX5_number_34 : decode cX5_number 34 = .ok (.goto (-30), 3) := by decide +kernel
theorem dX5_number_37 : decode cX5_number 37 = .ok (.iconst (-1), 1) := by decide +kernel
theorem dX5_number_38 : decode cX5_number 38 = .ok (.ireturn, 1) := by decide +kernel
abbrev cX1_has : ByteArray := prog_3_method_2_code
def yX1_has : MethodName := ⟨RX1, "has", "(ZIII)Z"⟩
def wkX1_has : List Cond := .code yX1_has cX1_has 5 (some .boolean) :: qW
set_option maxRecDepth 40000 in
theorem gkX1_has : GoodIn qW wkX1_has := q_good (qw 319 rfl rfl)
set_option maxRecDepth 40000 in
theorem knX1_has : Cond.instanceMethod yX1_has ∈ qW := qw 317 rfl rfl
set_option maxRecDepth 40000 in
theorem klX1_has : Cond.selects RX1 yX1_has yX1_has ∈ qW := qw 318 rfl rfl
theorem dX1_has_0 : decode cX1_has 0 = .ok (.iload_n 1, 1) := by decide +kernel
theorem dX1_has_1 : decode cX1_has 1 = .ok (.ifCond .eq 22, 3) := by decide +kernel
theorem dX1_has_4 : decode cX1_has 4 = .ok (.iload 4, 2) := by decide +kernel
theorem dX1_has_6 : decode cX1_has 6 = .ok (.aload_n 0, 1) := by decide +kernel
theorem dX1_has_7 : decode cX1_has 7 = .ok (.getfield 15, 3) := by decide +kernel
theorem dX1_has_10 : decode cX1_has 10 = .ok (.iload_n 2, 1) := by decide +kernel
theorem dX1_has_11 : decode cX1_has 11 = .ok (.bipush 12, 2) := by decide +kernel
theorem dX1_has_13 : decode cX1_has 13 = .ok (.imul, 1) := by decide +kernel
theorem dX1_has_14 : decode cX1_has 14 = .ok (.iload_n 3, 1) := by decide +kernel
theorem dX1_has_15 : decode cX1_has 15 = .ok (.iadd, 1) := by decide +kernel
theorem dX1_has_16 : decode cX1_has 16 = .ok (.iaload, 1) := by decide +kernel
theorem dX1_has_17 : decode cX1_has 17 = .ok (.invokestatic 31, 3) := by decide +kernel
theorem dX1_has_20 : decode cX1_has 20 = .ok (.goto 13, 3) := by decide +kernel
theorem dX1_has_23 : decode cX1_has 23 = .ok (.iload_n 3, 1) := by decide +kernel
theorem dX1_has_24 : decode cX1_has 24 = .ok (.aload_n 0, 1) := by decide +kernel
theorem dX1_has_25 : decode cX1_has 25 = .ok (.getfield 9, 3) := by decide +kernel
theorem dX1_has_28 : decode cX1_has 28 = .ok (.iload_n 2, 1) := by decide +kernel
theorem dX1_has_29 : decode cX1_has 29 = .ok (.iaload, 1) := by decide +kernel
theorem dX1_has_30 : decode cX1_has 30 = .ok (.invokestatic 31, 3) := by decide +kernel
theorem dX1_has_33 : decode cX1_has 33 = .ok (.ireturn, 1) := by decide +kernel
abbrev cX1_loops : ByteArray := prog_3_method_4_code
def yX1_loops : MethodName := ⟨RX1, "loops", "(I)I"⟩
def wkX1_loops : List Cond := .code yX1_loops cX1_loops 4 (some .int) :: qW
set_option maxRecDepth 40000 in
theorem gkX1_loops : GoodIn qW wkX1_loops := q_good (qw 514 rfl rfl)
set_option maxRecDepth 40000 in
theorem knX1_loops : Cond.instanceMethod yX1_loops ∈ qW := qw 512 rfl rfl
set_option maxRecDepth 40000 in
theorem klX1_loops : Cond.selects RX1 yX1_loops yX1_loops ∈ qW := qw 513 rfl rfl
theorem dX1_loops_0 : decode cX1_loops 0 = .ok (.iconst 0, 1) := by decide +kernel
theorem dX1_loops_1 : decode cX1_loops 1 = .ok (.istore_n 2, 1) := by decide +kernel
theorem dX1_loops_2 : decode cX1_loops 2 = .ok (.iconst 0, 1) := by decide +kernel
theorem dX1_loops_3 : decode cX1_loops 3 = .ok (.istore_n 3, 1) := by decide +kernel
theorem dX1_loops_4 : decode cX1_loops 4 = .ok (.iload_n 3, 1) := by decide +kernel
theorem dX1_loops_5 : decode cX1_loops 5 = .ok (.bipush 12, 2) := by decide +kernel
theorem dX1_loops_7 : decode cX1_loops 7 = .ok (.if_icmp .ge 27, 3) := by decide +kernel
theorem dX1_loops_10 : decode cX1_loops 10 = .ok (.iload_n 2, 1) := by decide +kernel
theorem dX1_loops_11 : decode cX1_loops 11 = .ok (.aload_n 0, 1) := by decide +kernel
theorem dX1_loops_12 : decode cX1_loops 12 = .ok (.getfield 15, 3) := by decide +kernel
theorem dX1_loops_15 : decode cX1_loops 15 = .ok (.iload_n 1, 1) := by decide +kernel
theorem dX1_loops_16 : decode cX1_loops 16 = .ok (.bipush 12, 2) := by decide +kernel
theorem dX1_loops_18 : decode cX1_loops 18 = .ok (.imul, 1) := by decide +kernel
theorem dX1_loops_19 : decode cX1_loops 19 = .ok (.iload_n 3, 1) := by decide +kernel
theorem dX1_loops_20 : decode cX1_loops 20 = .ok (.iadd, 1) := by decide +kernel
theorem dX1_loops_21 : decode cX1_loops 21 = .ok (.iaload, 1) := by decide +kernel
theorem dX1_loops_22 : decode cX1_loops 22 = .ok (.iconst 1, 1) := by decide +kernel
theorem dX1_loops_23 : decode cX1_loops 23 = .ok (.iload_n 3, 1) := by decide +kernel
theorem dX1_loops_24 : decode cX1_loops 24 = .ok (.ishl, 1) := by decide +kernel
theorem dX1_loops_25 : decode cX1_loops 25 = .ok (.iand, 1) := by decide +kernel
theorem dX1_loops_26 : decode cX1_loops 26 = .ok (.ior, 1) := by decide +kernel
theorem dX1_loops_27 : decode cX1_loops 27 = .ok (.istore_n 2, 1) := by decide +kernel
theorem dX1_loops_28 : decode cX1_loops 28 = .ok (.iinc 3 1, 3) := by decide +kernel
theorem dX1_loops_31 : decode cX1_loops 31 = .ok (.goto (-27), 3) := by decide +kernel
theorem dX1_loops_34 : decode cX1_loops 34 = .ok (.iload_n 2, 1) := by decide +kernel
theorem dX1_loops_35 : decode cX1_loops 35 = .ok (.ireturn, 1) := by decide +kernel
set_option maxRecDepth 40000 in
theorem kfX0_36 : Cond.fieldLink RX0 36 "QlRewrite$Form" "names" "[I" ∈ qW := qw 133 rfl rfl
set_option maxRecDepth 40000 in
theorem kfX0_39 : Cond.fieldLink RX0 39 "QlRewrite$Form" "places" "[I" ∈ qW := qw 137 rfl rfl
set_option maxRecDepth 40000 in
theorem kmX0_32 : Cond.methodLink RX0 32 yX3_putWay ∈ qW := qw 459 rfl rfl
set_option maxRecDepth 40000 in
theorem kmX0_42 : Cond.methodLink RX0 42 yX0_memberOf ∈ qW := qw 448 rfl rfl
set_option maxRecDepth 40000 in
theorem kmX0_28 : Cond.methodLink RX0 28 yX3_putSort ∈ qW := qw 451 rfl rfl
set_option maxRecDepth 40000 in
theorem kfX0_25 : Cond.fieldLink RX0 25 "QlRewrite$Form" "size" "I" ∈ qW := qw 144 rfl rfl
set_option maxRecDepth 40000 in
theorem kfX5_18 : Cond.fieldLink RX5 18 "QlRewrite$Question" "answers" "I" ∈ qW := qw 160 rfl rfl
set_option maxRecDepth 40000 in
theorem kfX5_12 : Cond.fieldLink RX5 12 "QlRewrite$Question" "own" "LQlRewrite$Form;" ∈ qW := qw 157 rfl rfl
set_option maxRecDepth 40000 in
theorem kfX5_43 : Cond.fieldLink RX5 43 "QlRewrite$Form" "size" "I" ∈ qW := qw 140 rfl rfl
set_option maxRecDepth 40000 in
theorem kfX5_33 : Cond.fieldLink RX5 33 "QlRewrite$Question" "rewritten" "Z" ∈ qW := qw 174 rfl rfl
set_option maxRecDepth 40000 in
theorem kfX5_36 : Cond.fieldLink RX5 36 "QlRewrite$Question" "finders" "[I" ∈ qW := qw 177 rfl rfl
set_option maxRecDepth 40000 in
theorem kfX1_9 : Cond.fieldLink RX1 9 "QlRewrite$Facts" "members" "[I" ∈ qW := qw 92 rfl rfl
set_option maxRecDepth 40000 in
theorem kmX1_31 : Cond.methodLink RX1 31 yX1_isIn ∈ qW := qw 320 rfl rfl
set_option maxRecDepth 40000 in
theorem kfX1_15 : Cond.fieldLink RX1 15 "QlRewrite$Facts" "targets" "[I" ∈ qW := qw 94 rfl rfl
abbrev rm_c_Axioms_replace : Room := { frames := 3, cells := 0, slots := 0, locals := 71 }
set_option maxHeartbeats 4000000 in
set_option maxRecDepth 100000 in
theorem c_Axioms_replace (l : Launch) (dC : Nat → ClassId) (dI : Nat → Nat → Nat) (cI cL cQ cZ : ClassId) (h0 : Nat) (k1 : Nat) (k2 : Nat) (k3 : Nat) (na : Nat) (kd : Nat → Nat) (lf : Nat → Nat) (rg : Nat → Nat) (f0 : Nat) (a1 : Nat) (a2 : Nat) (n : Nat) (jn : Bool) (nm : Nat → Nat) (pl : Nat → Nat) (i : Nat) (k : Nat) (hi : i < 16) (hk : k < 4) (hnm : ∀ j, nm j < 64) (hpl : ∀ j, pl j < 16) (hkd : ∀ j, kd j < 4) (hlf : ∀ j, lf j < 64) (hrg : ∀ j, rg j < 64) : Met l yX0_replace wkX0_replace rm_c_Axioms_replace (q_W (dC, dI) qCl (qT cI cL cQ cZ) [(h0, .inr (0, [.ref k1, .ref k2, .ref k3, .int (nI (na))])), (k1, .inl (cI, 16, .inl (nF kd))), (k2, .inl (cI, 16, .inl (nF lf))), (k3, .inl (cI, 16, .inl (nF rg))), (f0, .inr (3, [.ref a1, .ref a2, .int (nI (n)), .int (bI (jn))])), (a1, .inl (cI, 4, .inl (nF nm))), (a2, .inl (cI, 8, .inl (nF pl)))] [.ref h0, .int (nI (i)), .ref f0, .int (nI (k))]) (va_Qi (fun (r : Int32) (u : Bool × (Nat → Nat) × (Nat → Nat)) => (r = (bI (u.1))) ∧ (f_rpl (f_rw (kd i) (lf i) (rg i) (nm k) (pl (2 * k)) (pl (2 * k + 1))) nm pl k u.1 u.2.1 u.2.2)) (fun (u : Bool × (Nat → Nat) × (Nat → Nat)) t => va_P (dC, dI) qCl [(h0, .inr (0, [.ref k1, .ref k2, .ref k3, .int (nI (na))])), (k1, .inl (cI, 16, .inl (nF kd))), (k2, .inl (cI, 16, .inl (nF lf))), (k3, .inl (cI, 16, .inl (nF rg))), (f0, .inr (3, [.ref a1, .ref a2, .int (nI (n)), .int (bI (jn))])), (a1, .inl (cI, 4, .inl (nF u.2.1))), (a2, .inl (cI, 8, .inl (nF u.2.2)))] t.heap) (q_A [(h0, .inr (0, [.ref k1, .ref k2, .ref k3, .int (nI (na))])), (k1, .inl (cI, 16, .inl (nF kd))), (k2, .inl (cI, 16, .inl (nF lf))), (k3, .inl (cI, 16, .inl (nF rg))), (f0, .inr (3, [.ref a1, .ref a2, .int (nI (n)), .int (bI (jn))])), (a1, .inl (cI, 4, .inl (nF nm))), (a2, .inl (cI, 8, .inl (nF pl)))])) 0 0 (q_A [(h0, .inr (0, [.ref k1, .ref k2, .ref k3, .int (nI (na))])), (k1, .inl (cI, 16, .inl (nF kd))), (k2, .inl (cI, 16, .inl (nF lf))), (k3, .inl (cI, 16, .inl (nF rg))), (f0, .inr (3, [.ref a1, .ref a2, .int (nI (n)), .int (bI (jn))])), (a1, .inl (cI, 4, .inl (nF nm))), (a2, .inl (cI, 8, .inl (nF pl)))]) := by
  refine Met.ofW (cc := cX0_replace) (maxL := 8) (ret := (some .boolean)) (by decide) rfl ?_
  intro p e s m args below meth c s₁ B hml hv
  obtain ⟨hargs, hP, hK, hD0⟩ := hv
  have hx := B.exec
  have hb := B.bytes
  have hr := B.returns
  have hts : ∀ w ∈ qW, w.before args s = true := fun w h => atoms_spec (ws := wkX0_replace) B.pre w (List.mem_cons_of_mem _ h)
  have hown : s.vm.findClass RX0 = some m.cls := findClass_of_methodNamed B.named
  have hlocks := B.notSynchronized
  refine q_named (fun Q hQ => ?_)
  have hD : va_D (q_A [(h0, .inr (0, [.ref k1, .ref k2, .ref k3, .int (nI (na))])), (k1, .inl (cI, 16, .inl (nF kd))), (k2, .inl (cI, 16, .inl (nF lf))), (k3, .inl (cI, 16, .inl (nF rg))), (f0, .inr (3, [.ref a1, .ref a2, .int (nI (n)), .int (bI (jn))])), (a1, .inl (cI, 4, .inl (nF nm))), (a2, .inl (cI, 8, .inl (nF pl)))]) [(h0, .inr (0, [.ref k1, .ref k2, .ref k3, .int (nI (na))])), (k1, .inl (cI, 16, .inl (nF kd))), (k2, .inl (cI, 16, .inl (nF lf))), (k3, .inl (cI, 16, .inl (nF rg))), (f0, .inr (3, [.ref a1, .ref a2, .int (nI (n)), .int (bI (jn))])), (a1, .inl (cI, 4, .inl (nF nm))), (a2, .inl (cI, 8, .inl (nF pl)))] := ⟨hD0.1, fun k q h => ⟨k, q.2, h⟩⟩
  generalize hAe : q_A [(h0, .inr (0, [.ref k1, .ref k2, .ref k3, .int (nI (na))])), (k1, .inl (cI, 16, .inl (nF kd))), (k2, .inl (cI, 16, .inl (nF lf))), (k3, .inl (cI, 16, .inl (nF rg))), (f0, .inr (3, [.ref a1, .ref a2, .int (nI (n)), .int (bI (jn))])), (a1, .inl (cI, 4, .inl (nF nm))), (a2, .inl (cI, 8, .inl (nF pl)))] = A at hD
  have hS : va_S A s.heap s.heap [] := va_S.rf
  refine q_entry hargs (Nat.le_of_ble_eq_true rfl) (fun ls hl => ?_)
  have hl : lv_has ls 8 [(0, .ref h0), (1, .int (nI (i))), (2, .ref f0), (3, .int (nI (k)))] := hl
  obtain ⟨H, locs, eH, eL⟩ : ∃ (H : Heap) (locs : List Loc), s.heap = H ∧ ([] : List Loc) = locs := ⟨_, _, rfl, rfl⟩
  have hS : va_S A s.heap H locs := by rw [← eH, ← eL]; exact hS
  have hP : va_P (dC, dI) qCl [(h0, .inr (0, [.ref k1, .ref k2, .ref k3, .int (nI (na))])), (k1, .inl (cI, 16, .inl (nF kd))), (k2, .inl (cI, 16, .inl (nF lf))), (k3, .inl (cI, 16, .inl (nF rg))), (f0, .inr (3, [.ref a1, .ref a2, .int (nI (n)), .int (bI (jn))])), (a1, .inl (cI, 4, .inl (nF nm))), (a2, .inl (cI, 8, .inl (nF pl)))] H := by rw [← eH]; exact hP
  refine W_at eH eL ?_
  refine lv_aload_n hx hb dX0_replace_0 rfl (lv_at hl 2 rfl) ?_
  refine va_get (D := (dC, dI)) (ci := 3) (v := .ref a1) (C := RX3) (T := TX3) (N := 4) hx hb hts uX3 hown hK hP 4 rfl rfl 0 (by decide) (hts _ kfX0_36) (fun _ h9 => h9) rfl dX0_replace_1 ?_
  refine lv_iload_n hx hb dX0_replace_4 rfl (lv_at hl 3 rfl) ?_
  refine q_ialdN hx hb hK hP 5 0 rfl rfl (j := k) (by omega) (by omega) dX0_replace_5 ?_
  have bd1 := hnm k
  refine lv_istore (lv' := [(4, .int (nI (nm k))), (0, .ref h0), (1, .int (nI (i))), (2, .ref f0), (3, .int (nI (k)))]) hx hb dX0_replace_6 hl (by decide) rfl (fun ls hl => ?_)
  refine lv_aload_n hx hb dX0_replace_8 rfl (lv_at hl 3 rfl) ?_
  refine va_get (D := (dC, dI)) (ci := 3) (v := .ref a2) (C := RX3) (T := TX3) (N := 4) hx hb hts uX3 hown hK hP 4 rfl rfl 1 (by decide) (hts _ kfX0_39) (fun _ h9 => h9) rfl dX0_replace_9 ?_
  refine lv_iconst (v := (nI (2))) hx hb dX0_replace_12 (by decide) ?_
  refine lv_iload_n hx hb dX0_replace_13 rfl (lv_at hl 4 rfl) ?_
  refine q_imul (x := 2) (y := k) hx hb dX0_replace_14 ?_
  refine q_ialdN hx hb hK hP 6 0 rfl rfl (j := 2 * k) (by omega) (by omega) dX0_replace_15 ?_
  have bd2 := hpl (2 * k)
  refine lv_istore (lv' := [(5, .int (nI (pl (2 * k)))), (4, .int (nI (nm k))), (0, .ref h0), (1, .int (nI (i))), (2, .ref f0), (3, .int (nI (k)))]) hx hb dX0_replace_16 hl (by decide) rfl (fun ls hl => ?_)
  refine lv_aload_n hx hb dX0_replace_18 rfl (lv_at hl 4 rfl) ?_
  refine va_get (D := (dC, dI)) (ci := 3) (v := .ref a2) (C := RX3) (T := TX3) (N := 4) hx hb hts uX3 hown hK hP 4 rfl rfl 1 (by decide) (hts _ kfX0_39) (fun _ h9 => h9) rfl dX0_replace_19 ?_
  refine lv_iconst (v := (nI (2))) hx hb dX0_replace_22 (by decide) ?_
  refine lv_iload_n hx hb dX0_replace_23 rfl (lv_at hl 5 rfl) ?_
  refine q_imul (x := 2) (y := k) hx hb dX0_replace_24 ?_
  refine lv_iconst (v := (nI (1))) hx hb dX0_replace_25 (by decide) ?_
  refine q_iadd (x := 2 * k) (y := 1) hx hb dX0_replace_26 ?_
  refine q_ialdN hx hb hK hP 6 0 rfl rfl (j := (2 * k) + 1) (by omega) (by omega) dX0_replace_27 ?_
  have bd3 := hpl ((2 * k) + 1)
  refine lv_istore (lv' := [(6, .int (nI (pl ((2 * k) + 1)))), (5, .int (nI (pl (2 * k)))), (4, .int (nI (nm k))), (0, .ref h0), (1, .int (nI (i))), (2, .ref f0), (3, .int (nI (k)))]) hx hb dX0_replace_28 hl (by decide) rfl (fun ls hl => ?_)
  refine lv_aload_n hx hb dX0_replace_30 rfl (lv_at hl 3 rfl) ?_
  refine va_get (D := (dC, dI)) (ci := 0) (v := .ref k1) (C := RX0) (T := TX0) (N := 4) hx hb hts uX0 hown hK hP 0 rfl rfl 0 (by decide) (hts _ kfX0_9) (fun _ h9 => h9) rfl dX0_replace_31 ?_
  refine lv_iload_n hx hb dX0_replace_34 rfl (lv_at hl 4 rfl) ?_
  refine q_ialdN hx hb hK hP 1 0 rfl rfl (j := i) (by omega) (by omega) dX0_replace_35 ?_
  have bd4 := hkd i
  refine q_if_ne (x := kd i) (tgt := 80) hx hb dX0_replace_36 (by decide) (by omega) (fun c36_5 => ?_) (fun c36_5 => ?_)
  · refine lv_aload_n hx hb dX0_replace_80 rfl (lv_at hl 3 rfl) ?_
    refine va_get (D := (dC, dI)) (ci := 0) (v := .ref k1) (C := RX0) (T := TX0) (N := 4) hx hb hts uX0 hown hK hP 0 rfl rfl 0 (by decide) (hts _ kfX0_9) (fun _ h9 => h9) rfl dX0_replace_81 ?_
    refine lv_iload_n hx hb dX0_replace_84 rfl (lv_at hl 4 rfl) ?_
    refine q_ialdN hx hb hK hP 1 0 rfl rfl (j := i) (by omega) (by omega) dX0_replace_85 ?_
    have bd6 := hkd i
    refine lv_iconst (v := (nI (1))) hx hb dX0_replace_86 (by decide) ?_
    refine q_icmp_ne (x := kd i) (y := 1) (tgt := 106) hx hb dX0_replace_87 (by decide) (by omega) (by omega) (fun c87_7 => ?_) (fun c87_7 => ?_)
    · refine lv_iconst (v := (nI (0))) hx hb dX0_replace_106 (by decide) ?_
      subst hQ
      subst hAe
      have hP9 := hP.sub (ws' := [(h0, .inr (0, [.ref k1, .ref k2, .ref k3, .int (nI (na))])), (k1, .inl (cI, 16, .inl (nF kd))), (k2, .inl (cI, 16, .inl (nF lf))), (k3, .inl (cI, 16, .inl (nF rg))), (f0, .inr (3, [.ref a1, .ref a2, .int (nI (n)), .int (bI (jn))])), (a1, .inl (cI, 4, .inl (nF nm))), (a2, .inl (cI, 8, .inl (nF pl)))]) [0, 1, 2, 3, 4, 5, 6] rfl
      exact W.zret (v := (nI (0))) hx hb hr (by decide) (fun t9 h9 _ => ⟨⟨(nI (0)), (false, nm, pl), rfl, ⟨bI_0 rfl, (show f_rpl (f_rw (kd i) (lf i) (rg i) (nm k) (pl (2 * k)) (pl (2 * k + 1))) nm pl k false nm pl from by (first | (rw [f_rw, if_pos (by omega), if_pos (by omega)]; exact And.intro rfl (And.intro rfl rfl)) | (rw [f_rw, if_pos (by omega), if_neg (by omega)]; exact And.intro rfl (And.intro rfl rfl)) | (rw [f_rw, if_neg (by omega), if_neg (by omega)]; exact And.intro rfl (And.intro rfl rfl)) | (rw [f_rw, if_neg (by omega), if_pos (by omega), if_pos (by omega)]; exact And.intro rfl (And.intro rfl rfl)) | (rw [f_rw, if_neg (by omega), if_pos (by omega), if_neg (by omega)]; exact And.intro rfl (And.intro rfl rfl))))⟩, by show va_P _ _ _ t9.heap; rw [h9]; exact hP9⟩, hS.F h9⟩) hS.2.2 dX0_replace_107
    · refine lv_iload hx hb dX0_replace_90 (lv_at hl 2 rfl) ?_
      refine lv_bipush (v := (nI (32))) hx hb dX0_replace_92 (by decide) ?_
      refine lv_aload_n hx hb dX0_replace_94 rfl (lv_at hl 3 rfl) ?_
      refine va_get (D := (dC, dI)) (ci := 0) (v := .ref k3) (C := RX0) (T := TX0) (N := 4) hx hb hts uX0 hown hK hP 0 rfl rfl 2 (by decide) (hts _ kfX0_18) (fun _ h9 => h9) rfl dX0_replace_95 ?_
      refine lv_iload_n hx hb dX0_replace_98 rfl (lv_at hl 4 rfl) ?_
      refine q_ialdN hx hb hK hP 3 0 rfl rfl (j := i) (by omega) (by omega) dX0_replace_99 ?_
      have bd8 := hrg i
      refine lv_iconst (v := (nI (2))) hx hb dX0_replace_100 (by decide) ?_
      refine q_idiv (x := rg i) (y := 2) hx hb (by omega) (by omega) (by omega) dX0_replace_101 ?_
      refine q_iadd (x := 32) (y := (rg i) / 2) hx hb dX0_replace_102 ?_
      refine q_icmp_eq (x := nm k) (y := 32 + ((rg i) / 2)) (tgt := 108) hx hb dX0_replace_103 (by decide) (by omega) (by omega) (fun c103_9 => ?_) (fun c103_9 => ?_)
      · refine lv_aload_n hx hb dX0_replace_108 rfl (lv_at hl 3 rfl) ?_
        refine va_get (D := (dC, dI)) (ci := 0) (v := .ref k3) (C := RX0) (T := TX0) (N := 4) hx hb hts uX0 hown hK hP 0 rfl rfl 2 (by decide) (hts _ kfX0_18) (fun _ h9 => h9) rfl dX0_replace_109 ?_
        refine lv_iload_n hx hb dX0_replace_112 rfl (lv_at hl 4 rfl) ?_
        refine q_ialdN hx hb hK hP 3 0 rfl rfl (j := i) (by omega) (by omega) dX0_replace_113 ?_
        have bd10 := hrg i
        refine lv_iconst (v := (nI (2))) hx hb dX0_replace_114 (by decide) ?_
        refine q_irem (x := rg i) (y := 2) hx hb (by omega) (by omega) (by omega) dX0_replace_115 ?_
        refine q_if_ne (x := (rg i) % 2) (tgt := 137) hx hb dX0_replace_116 (by decide) (by omega) (fun c116_11 => ?_) (fun c116_11 => ?_)
        · refine lv_aload_n hx hb dX0_replace_137 rfl (lv_at hl 5 rfl) ?_
          refine lv_iload_n hx hb dX0_replace_138 rfl (lv_at hl 6 rfl) ?_
          refine lv_aload_n hx hb dX0_replace_139 rfl (lv_at hl 3 rfl) ?_
          refine va_get (D := (dC, dI)) (ci := 0) (v := .ref k2) (C := RX0) (T := TX0) (N := 4) hx hb hts uX0 hown hK hP 0 rfl rfl 1 (by decide) (hts _ kfX0_15) (fun _ h9 => h9) rfl dX0_replace_140 ?_
          refine lv_iload_n hx hb dX0_replace_143 rfl (lv_at hl 4 rfl) ?_
          refine q_ialdN hx hb hK hP 2 0 rfl rfl (j := i) (by omega) (by omega) dX0_replace_144 ?_
          have bd12 := hlf i
          refine lv_iload hx hb dX0_replace_145 (lv_at hl 0 rfl) ?_
          refine lv_iload hx hb dX0_replace_147 (lv_at hl 1 rfl) ?_
          refine q_joinv (wr := [(h0, .inr (0, [.ref k1, .ref k2, .ref k3, .int (nI (na))])), (k1, .inl (cI, 16, .inl (nF kd))), (k2, .inl (cI, 16, .inl (nF lf))), (k3, .inl (cI, 16, .inl (nF rg)))]) (va_runV (As := [.int (nI (k)), .int (nI (lf i)), .int (nI (pl ((2 * k) + 1))), .int (nI (pl (2 * k)))]) (rest := []) ⟨hx, hb, hml, hown, hts⟩ (c_Form_putWay l dC dI cI cL cQ cZ f0 a1 a2 n jn nm pl k (lf i) (pl ((2 * k) + 1)) (pl (2 * k)) (show k < 4 from by first | assumption | omega) (show (lf i) < 64 from by first | assumption | omega)) (q_cwV 4 hts gkX3_putWay kmX0_32 knX3_putWay klX3_putWay kiX3 rfl rfl rfl (by decide +kernel) ⟨Nat.le_of_ble_eq_true rfl, Nat.le_of_ble_eq_true rfl⟩) (q_preVW hK hP hD [4, 5, 6] rfl (by decide) 4 (ci := 3) (r := (RX3, TX3, 4)) rfl rfl) rfl rfl hl.1 rfl (lv_room (Nat.le_of_ble_eq_true rfl)) dX0_replace_149 ⟨Nat.zero_le _, Nat.zero_le _⟩) hP hD hS [4, 5, 6] [0, 1, 2, 3] rfl rfl (by decide) (fun _ => rfl) (fun _ H locs hq14 hP hD hS => ?_)
          have hP : va_P (dC, dI) qCl [(h0, .inr (0, [.ref k1, .ref k2, .ref k3, .int (nI (na))])), (k1, .inl (cI, 16, .inl (nF kd))), (k2, .inl (cI, 16, .inl (nF lf))), (k3, .inl (cI, 16, .inl (nF rg))), (f0, .inr (3, [.ref a1, .ref a2, .int (nI (n)), .int (bI (jn))])), (a1, .inl (cI, 4, .inl (nF (va_up nm k (f_wayn (lf i)))))), (a2, .inl (cI, 8, .inl (nF (f_put pl k (f_way1 (lf i) (pl ((2 * k) + 1)) (pl (2 * k))) (f_way2 (lf i) (pl ((2 * k) + 1)) (pl (2 * k)))))))] H := hP
          have hD : va_D A [(h0, .inr (0, [.ref k1, .ref k2, .ref k3, .int (nI (na))])), (k1, .inl (cI, 16, .inl (nF kd))), (k2, .inl (cI, 16, .inl (nF lf))), (k3, .inl (cI, 16, .inl (nF rg))), (f0, .inr (3, [.ref a1, .ref a2, .int (nI (n)), .int (bI (jn))])), (a1, .inl (cI, 4, .inl (nF (va_up nm k (f_wayn (lf i)))))), (a2, .inl (cI, 8, .inl (nF (f_put pl k (f_way1 (lf i) (pl ((2 * k) + 1)) (pl (2 * k))) (f_way2 (lf i) (pl ((2 * k) + 1)) (pl (2 * k)))))))] := hD
          refine lv_iconst (v := (nI (1))) hx hb dX0_replace_152 (by decide) ?_
          subst hQ
          subst hAe
          have hP9 := hP.sub (ws' := [(h0, .inr (0, [.ref k1, .ref k2, .ref k3, .int (nI (na))])), (k1, .inl (cI, 16, .inl (nF kd))), (k2, .inl (cI, 16, .inl (nF lf))), (k3, .inl (cI, 16, .inl (nF rg))), (f0, .inr (3, [.ref a1, .ref a2, .int (nI (n)), .int (bI (jn))])), (a1, .inl (cI, 4, .inl (nF (va_up nm k (f_wayn (lf i)))))), (a2, .inl (cI, 8, .inl (nF (f_put pl k (f_way1 (lf i) (pl ((2 * k) + 1)) (pl (2 * k))) (f_way2 (lf i) (pl ((2 * k) + 1)) (pl (2 * k)))))))]) [0, 1, 2, 3, 4, 5, 6] rfl
          exact W.zret (v := (nI (1))) hx hb hr (by decide) (fun t9 h9 _ => ⟨⟨(nI (1)), (true, va_up nm k (f_wayn (lf i)), f_put pl k (f_way1 (lf i) (pl ((2 * k) + 1)) (pl (2 * k))) (f_way2 (lf i) (pl ((2 * k) + 1)) (pl (2 * k)))), rfl, ⟨bI_1 rfl, (show f_rpl (f_rw (kd i) (lf i) (rg i) (nm k) (pl (2 * k)) (pl (2 * k + 1))) nm pl k true (va_up nm k (f_wayn (lf i))) (f_put pl k (f_way1 (lf i) (pl ((2 * k) + 1)) (pl (2 * k))) (f_way2 (lf i) (pl ((2 * k) + 1)) (pl (2 * k)))) from by (first | (rw [f_rw, if_pos (by omega), if_pos (by omega)]; exact And.intro rfl (And.intro rfl rfl)) | (rw [f_rw, if_pos (by omega), if_neg (by omega)]; exact And.intro rfl (And.intro rfl rfl)) | (rw [f_rw, if_neg (by omega), if_neg (by omega)]; exact And.intro rfl (And.intro rfl rfl)) | (rw [f_rw, if_neg (by omega), if_pos (by omega), if_pos (by omega)]; exact And.intro rfl (And.intro rfl rfl)) | (rw [f_rw, if_neg (by omega), if_pos (by omega), if_neg (by omega)]; exact And.intro rfl (And.intro rfl rfl))))⟩, by show va_P _ _ _ t9.heap; rw [h9]; exact hP9⟩, hS.F h9⟩) hS.2.2 dX0_replace_153
        · refine lv_aload_n hx hb dX0_replace_119 rfl (lv_at hl 5 rfl) ?_
          refine lv_iload_n hx hb dX0_replace_120 rfl (lv_at hl 6 rfl) ?_
          refine lv_aload_n hx hb dX0_replace_121 rfl (lv_at hl 3 rfl) ?_
          refine va_get (D := (dC, dI)) (ci := 0) (v := .ref k2) (C := RX0) (T := TX0) (N := 4) hx hb hts uX0 hown hK hP 0 rfl rfl 1 (by decide) (hts _ kfX0_15) (fun _ h9 => h9) rfl dX0_replace_122 ?_
          refine lv_iload_n hx hb dX0_replace_125 rfl (lv_at hl 4 rfl) ?_
          refine q_ialdN hx hb hK hP 2 0 rfl rfl (j := i) (by omega) (by omega) dX0_replace_126 ?_
          have bd15 := hlf i
          refine lv_iload hx hb dX0_replace_127 (lv_at hl 1 rfl) ?_
          refine lv_iload hx hb dX0_replace_129 (lv_at hl 0 rfl) ?_
          refine q_joinv (wr := [(h0, .inr (0, [.ref k1, .ref k2, .ref k3, .int (nI (na))])), (k1, .inl (cI, 16, .inl (nF kd))), (k2, .inl (cI, 16, .inl (nF lf))), (k3, .inl (cI, 16, .inl (nF rg)))]) (va_runV (As := [.int (nI (k)), .int (nI (lf i)), .int (nI (pl (2 * k))), .int (nI (pl ((2 * k) + 1)))]) (rest := []) ⟨hx, hb, hml, hown, hts⟩ (c_Form_putWay l dC dI cI cL cQ cZ f0 a1 a2 n jn nm pl k (lf i) (pl (2 * k)) (pl ((2 * k) + 1)) (show k < 4 from by first | assumption | omega) (show (lf i) < 64 from by first | assumption | omega)) (q_cwV 4 hts gkX3_putWay kmX0_32 knX3_putWay klX3_putWay kiX3 rfl rfl rfl (by decide +kernel) ⟨Nat.le_of_ble_eq_true rfl, Nat.le_of_ble_eq_true rfl⟩) (q_preVW hK hP hD [4, 5, 6] rfl (by decide) 4 (ci := 3) (r := (RX3, TX3, 4)) rfl rfl) rfl rfl hl.1 rfl (lv_room (Nat.le_of_ble_eq_true rfl)) dX0_replace_131 ⟨Nat.zero_le _, Nat.zero_le _⟩) hP hD hS [4, 5, 6] [0, 1, 2, 3] rfl rfl (by decide) (fun _ => rfl) (fun _ H locs hq17 hP hD hS => ?_)
          have hP : va_P (dC, dI) qCl [(h0, .inr (0, [.ref k1, .ref k2, .ref k3, .int (nI (na))])), (k1, .inl (cI, 16, .inl (nF kd))), (k2, .inl (cI, 16, .inl (nF lf))), (k3, .inl (cI, 16, .inl (nF rg))), (f0, .inr (3, [.ref a1, .ref a2, .int (nI (n)), .int (bI (jn))])), (a1, .inl (cI, 4, .inl (nF (va_up nm k (f_wayn (lf i)))))), (a2, .inl (cI, 8, .inl (nF (f_put pl k (f_way1 (lf i) (pl (2 * k)) (pl ((2 * k) + 1))) (f_way2 (lf i) (pl (2 * k)) (pl ((2 * k) + 1)))))))] H := hP
          have hD : va_D A [(h0, .inr (0, [.ref k1, .ref k2, .ref k3, .int (nI (na))])), (k1, .inl (cI, 16, .inl (nF kd))), (k2, .inl (cI, 16, .inl (nF lf))), (k3, .inl (cI, 16, .inl (nF rg))), (f0, .inr (3, [.ref a1, .ref a2, .int (nI (n)), .int (bI (jn))])), (a1, .inl (cI, 4, .inl (nF (va_up nm k (f_wayn (lf i)))))), (a2, .inl (cI, 8, .inl (nF (f_put pl k (f_way1 (lf i) (pl (2 * k)) (pl ((2 * k) + 1))) (f_way2 (lf i) (pl (2 * k)) (pl ((2 * k) + 1)))))))] := hD
          refine lv_goto (tgt := 152) hx hb dX0_replace_134 (by decide) ?_
          refine lv_iconst (v := (nI (1))) hx hb dX0_replace_152 (by decide) ?_
          subst hQ
          subst hAe
          have hP9 := hP.sub (ws' := [(h0, .inr (0, [.ref k1, .ref k2, .ref k3, .int (nI (na))])), (k1, .inl (cI, 16, .inl (nF kd))), (k2, .inl (cI, 16, .inl (nF lf))), (k3, .inl (cI, 16, .inl (nF rg))), (f0, .inr (3, [.ref a1, .ref a2, .int (nI (n)), .int (bI (jn))])), (a1, .inl (cI, 4, .inl (nF (va_up nm k (f_wayn (lf i)))))), (a2, .inl (cI, 8, .inl (nF (f_put pl k (f_way1 (lf i) (pl (2 * k)) (pl ((2 * k) + 1))) (f_way2 (lf i) (pl (2 * k)) (pl ((2 * k) + 1)))))))]) [0, 1, 2, 3, 4, 5, 6] rfl
          exact W.zret (v := (nI (1))) hx hb hr (by decide) (fun t9 h9 _ => ⟨⟨(nI (1)), (true, va_up nm k (f_wayn (lf i)), f_put pl k (f_way1 (lf i) (pl (2 * k)) (pl ((2 * k) + 1))) (f_way2 (lf i) (pl (2 * k)) (pl ((2 * k) + 1)))), rfl, ⟨bI_1 rfl, (show f_rpl (f_rw (kd i) (lf i) (rg i) (nm k) (pl (2 * k)) (pl (2 * k + 1))) nm pl k true (va_up nm k (f_wayn (lf i))) (f_put pl k (f_way1 (lf i) (pl (2 * k)) (pl ((2 * k) + 1))) (f_way2 (lf i) (pl (2 * k)) (pl ((2 * k) + 1)))) from by (first | (rw [f_rw, if_pos (by omega), if_pos (by omega)]; exact And.intro rfl (And.intro rfl rfl)) | (rw [f_rw, if_pos (by omega), if_neg (by omega)]; exact And.intro rfl (And.intro rfl rfl)) | (rw [f_rw, if_neg (by omega), if_neg (by omega)]; exact And.intro rfl (And.intro rfl rfl)) | (rw [f_rw, if_neg (by omega), if_pos (by omega), if_pos (by omega)]; exact And.intro rfl (And.intro rfl rfl)) | (rw [f_rw, if_neg (by omega), if_pos (by omega), if_neg (by omega)]; exact And.intro rfl (And.intro rfl rfl))))⟩, by show va_P _ _ _ t9.heap; rw [h9]; exact hP9⟩, hS.F h9⟩) hS.2.2 dX0_replace_153
      · refine lv_iconst (v := (nI (0))) hx hb dX0_replace_106 (by decide) ?_
        subst hQ
        subst hAe
        have hP9 := hP.sub (ws' := [(h0, .inr (0, [.ref k1, .ref k2, .ref k3, .int (nI (na))])), (k1, .inl (cI, 16, .inl (nF kd))), (k2, .inl (cI, 16, .inl (nF lf))), (k3, .inl (cI, 16, .inl (nF rg))), (f0, .inr (3, [.ref a1, .ref a2, .int (nI (n)), .int (bI (jn))])), (a1, .inl (cI, 4, .inl (nF nm))), (a2, .inl (cI, 8, .inl (nF pl)))]) [0, 1, 2, 3, 4, 5, 6] rfl
        exact W.zret (v := (nI (0))) hx hb hr (by decide) (fun t9 h9 _ => ⟨⟨(nI (0)), (false, nm, pl), rfl, ⟨bI_0 rfl, (show f_rpl (f_rw (kd i) (lf i) (rg i) (nm k) (pl (2 * k)) (pl (2 * k + 1))) nm pl k false nm pl from by (first | (rw [f_rw, if_pos (by omega), if_pos (by omega)]; exact And.intro rfl (And.intro rfl rfl)) | (rw [f_rw, if_pos (by omega), if_neg (by omega)]; exact And.intro rfl (And.intro rfl rfl)) | (rw [f_rw, if_neg (by omega), if_neg (by omega)]; exact And.intro rfl (And.intro rfl rfl)) | (rw [f_rw, if_neg (by omega), if_pos (by omega), if_pos (by omega)]; exact And.intro rfl (And.intro rfl rfl)) | (rw [f_rw, if_neg (by omega), if_pos (by omega), if_neg (by omega)]; exact And.intro rfl (And.intro rfl rfl))))⟩, by show va_P _ _ _ t9.heap; rw [h9]; exact hP9⟩, hS.F h9⟩) hS.2.2 dX0_replace_107
  · refine lv_aload_n hx hb dX0_replace_39 rfl (lv_at hl 3 rfl) ?_
    refine va_get (D := (dC, dI)) (ci := 0) (v := .ref k3) (C := RX0) (T := TX0) (N := 4) hx hb hts uX0 hown hK hP 0 rfl rfl 2 (by decide) (hts _ kfX0_18) (fun _ h9 => h9) rfl dX0_replace_40 ?_
    refine lv_iload_n hx hb dX0_replace_43 rfl (lv_at hl 4 rfl) ?_
    refine q_ialdN hx hb hK hP 3 0 rfl rfl (j := i) (by omega) (by omega) dX0_replace_44 ?_
    have bd18 := hrg i
    refine lv_iload hx hb dX0_replace_45 (lv_at hl 2 rfl) ?_
    refine lv_iload hx hb dX0_replace_47 (lv_at hl 1 rfl) ?_
    refine lv_iload hx hb dX0_replace_49 (lv_at hl 0 rfl) ?_
    refine vp_callSi (va_Run.run (va_runS (As := [.int (nI (rg i)), .int (nI (nm k)), .int (nI (pl (2 * k))), .int (nI (pl ((2 * k) + 1)))]) (rest := []) ⟨hx, hb, hml, hown, hts⟩ (c_Axioms_memberOf l dC dI cI cL cQ cZ (rg i) (nm k) (pl (2 * k)) (pl ((2 * k) + 1)) (show (rg i) < 64 from by first | assumption | omega) (show (nm k) < 64 from by first | assumption | omega) (show (pl (2 * k)) < 16 from by first | assumption | omega) (show (pl ((2 * k) + 1)) < 16 from by first | assumption | omega)) (q_cwS 4 hts gkX0_memberOf kmX0_42 ksX0_memberOf kiX0 rfl rfl rfl (by decide +kernel) ⟨Nat.le_of_ble_eq_true rfl, Nat.le_of_ble_eq_true rfl⟩) (q_preS hK hP [] rfl) rfl rfl hl.1 rfl (lv_room (Nat.le_of_ble_eq_true rfl)) dX0_replace_51 ⟨Nat.zero_le _, Nat.zero_le _⟩)) (fun r19 hr19 => ?_)
    subst hr19
    refine lv_istore (lv' := [(7, .int (nI (f_mem (rg i) (nm k) (pl (2 * k)) (pl ((2 * k) + 1))))), (6, .int (nI (pl ((2 * k) + 1)))), (5, .int (nI (pl (2 * k)))), (4, .int (nI (nm k))), (0, .ref h0), (1, .int (nI (i))), (2, .ref f0), (3, .int (nI (k)))]) hx hb dX0_replace_54 hl (by decide) rfl (fun ls hl => ?_)
    refine lv_iload hx hb dX0_replace_56 (lv_at hl 0 rfl) ?_
    refine lv_bipush (v := (nI (7))) hx hb dX0_replace_58 (by decide) ?_
    refine q_icmp_ne (x := f_mem (rg i) (nm k) (pl (2 * k)) (pl ((2 * k) + 1))) (y := 7) (tgt := 65) hx hb dX0_replace_60 (by decide) (by (have h9 := f_mem_lt (rg i) (nm k) (show pl (2 * k) < 16 by omega) (show pl (2 * k + 1) < 16 by omega); omega)) (by omega) (fun c60_20 => ?_) (fun c60_20 => ?_)
    · refine lv_aload_n hx hb dX0_replace_65 rfl (lv_at hl 6 rfl) ?_
      refine lv_iload_n hx hb dX0_replace_66 rfl (lv_at hl 7 rfl) ?_
      refine lv_aload_n hx hb dX0_replace_67 rfl (lv_at hl 4 rfl) ?_
      refine va_get (D := (dC, dI)) (ci := 0) (v := .ref k2) (C := RX0) (T := TX0) (N := 4) hx hb hts uX0 hown hK hP 0 rfl rfl 1 (by decide) (hts _ kfX0_15) (fun _ h9 => h9) rfl dX0_replace_68 ?_
      refine lv_iload_n hx hb dX0_replace_71 rfl (lv_at hl 5 rfl) ?_
      refine q_ialdN hx hb hK hP 2 0 rfl rfl (j := i) (by omega) (by omega) dX0_replace_72 ?_
      have bd21 := hlf i
      refine lv_iload hx hb dX0_replace_73 (lv_at hl 0 rfl) ?_
      refine q_joinv (wr := [(h0, .inr (0, [.ref k1, .ref k2, .ref k3, .int (nI (na))])), (k1, .inl (cI, 16, .inl (nF kd))), (k2, .inl (cI, 16, .inl (nF lf))), (k3, .inl (cI, 16, .inl (nF rg)))]) (va_runV (As := [.int (nI (k)), .int (nI (lf i)), .int (nI (f_mem (rg i) (nm k) (pl (2 * k)) (pl ((2 * k) + 1))))]) (rest := []) ⟨hx, hb, hml, hown, hts⟩ (c_Form_putSort l dC dI cI cL cQ cZ f0 a1 a2 n jn nm pl k (lf i) (f_mem (rg i) (nm k) (pl (2 * k)) (pl ((2 * k) + 1))) (show k < 4 from by first | assumption | omega) (show (lf i) < 64 from by first | assumption | omega)) (q_cwV 3 hts gkX3_putSort kmX0_28 knX3_putSort klX3_putSort kiX3 rfl rfl rfl (by decide +kernel) ⟨Nat.le_of_ble_eq_true rfl, Nat.le_of_ble_eq_true rfl⟩) (q_preVW hK hP hD [4, 5, 6] rfl (by decide) 4 (ci := 3) (r := (RX3, TX3, 4)) rfl rfl) rfl rfl hl.1 rfl (lv_room (Nat.le_of_ble_eq_true rfl)) dX0_replace_75 ⟨Nat.zero_le _, Nat.zero_le _⟩) hP hD hS [4, 5, 6] [0, 1, 2, 3] rfl rfl (by decide) (fun _ => rfl) (fun _ H locs hq23 hP hD hS => ?_)
      have hP : va_P (dC, dI) qCl [(h0, .inr (0, [.ref k1, .ref k2, .ref k3, .int (nI (na))])), (k1, .inl (cI, 16, .inl (nF kd))), (k2, .inl (cI, 16, .inl (nF lf))), (k3, .inl (cI, 16, .inl (nF rg))), (f0, .inr (3, [.ref a1, .ref a2, .int (nI (n)), .int (bI (jn))])), (a1, .inl (cI, 4, .inl (nF (va_up nm k (f_sortn (lf i)))))), (a2, .inl (cI, 8, .inl (nF (f_put pl k (f_sort1 (lf i) (f_mem (rg i) (nm k) (pl (2 * k)) (pl ((2 * k) + 1)))) (f_sort2 (lf i) (f_mem (rg i) (nm k) (pl (2 * k)) (pl ((2 * k) + 1))))))))] H := hP
      have hD : va_D A [(h0, .inr (0, [.ref k1, .ref k2, .ref k3, .int (nI (na))])), (k1, .inl (cI, 16, .inl (nF kd))), (k2, .inl (cI, 16, .inl (nF lf))), (k3, .inl (cI, 16, .inl (nF rg))), (f0, .inr (3, [.ref a1, .ref a2, .int (nI (n)), .int (bI (jn))])), (a1, .inl (cI, 4, .inl (nF (va_up nm k (f_sortn (lf i)))))), (a2, .inl (cI, 8, .inl (nF (f_put pl k (f_sort1 (lf i) (f_mem (rg i) (nm k) (pl (2 * k)) (pl ((2 * k) + 1)))) (f_sort2 (lf i) (f_mem (rg i) (nm k) (pl (2 * k)) (pl ((2 * k) + 1))))))))] := hD
      refine lv_iconst (v := (nI (1))) hx hb dX0_replace_78 (by decide) ?_
      subst hQ
      subst hAe
      have hP9 := hP.sub (ws' := [(h0, .inr (0, [.ref k1, .ref k2, .ref k3, .int (nI (na))])), (k1, .inl (cI, 16, .inl (nF kd))), (k2, .inl (cI, 16, .inl (nF lf))), (k3, .inl (cI, 16, .inl (nF rg))), (f0, .inr (3, [.ref a1, .ref a2, .int (nI (n)), .int (bI (jn))])), (a1, .inl (cI, 4, .inl (nF (va_up nm k (f_sortn (lf i)))))), (a2, .inl (cI, 8, .inl (nF (f_put pl k (f_sort1 (lf i) (f_mem (rg i) (nm k) (pl (2 * k)) (pl ((2 * k) + 1)))) (f_sort2 (lf i) (f_mem (rg i) (nm k) (pl (2 * k)) (pl ((2 * k) + 1))))))))]) [0, 1, 2, 3, 4, 5, 6] rfl
      exact W.zret (v := (nI (1))) hx hb hr (by decide) (fun t9 h9 _ => ⟨⟨(nI (1)), (true, va_up nm k (f_sortn (lf i)), f_put pl k (f_sort1 (lf i) (f_mem (rg i) (nm k) (pl (2 * k)) (pl ((2 * k) + 1)))) (f_sort2 (lf i) (f_mem (rg i) (nm k) (pl (2 * k)) (pl ((2 * k) + 1))))), rfl, ⟨bI_1 rfl, (show f_rpl (f_rw (kd i) (lf i) (rg i) (nm k) (pl (2 * k)) (pl (2 * k + 1))) nm pl k true (va_up nm k (f_sortn (lf i))) (f_put pl k (f_sort1 (lf i) (f_mem (rg i) (nm k) (pl (2 * k)) (pl ((2 * k) + 1)))) (f_sort2 (lf i) (f_mem (rg i) (nm k) (pl (2 * k)) (pl ((2 * k) + 1))))) from by (first | (rw [f_rw, if_pos (by omega), if_pos (by omega)]; exact And.intro rfl (And.intro rfl rfl)) | (rw [f_rw, if_pos (by omega), if_neg (by omega)]; exact And.intro rfl (And.intro rfl rfl)) | (rw [f_rw, if_neg (by omega), if_neg (by omega)]; exact And.intro rfl (And.intro rfl rfl)) | (rw [f_rw, if_neg (by omega), if_pos (by omega), if_pos (by omega)]; exact And.intro rfl (And.intro rfl rfl)) | (rw [f_rw, if_neg (by omega), if_pos (by omega), if_neg (by omega)]; exact And.intro rfl (And.intro rfl rfl))))⟩, by show va_P _ _ _ t9.heap; rw [h9]; exact hP9⟩, hS.F h9⟩) hS.2.2 dX0_replace_79
    · refine lv_iconst (v := (nI (0))) hx hb dX0_replace_63 (by decide) ?_
      subst hQ
      subst hAe
      have hP9 := hP.sub (ws' := [(h0, .inr (0, [.ref k1, .ref k2, .ref k3, .int (nI (na))])), (k1, .inl (cI, 16, .inl (nF kd))), (k2, .inl (cI, 16, .inl (nF lf))), (k3, .inl (cI, 16, .inl (nF rg))), (f0, .inr (3, [.ref a1, .ref a2, .int (nI (n)), .int (bI (jn))])), (a1, .inl (cI, 4, .inl (nF nm))), (a2, .inl (cI, 8, .inl (nF pl)))]) [0, 1, 2, 3, 4, 5, 6] rfl
      exact W.zret (v := (nI (0))) hx hb hr (by decide) (fun t9 h9 _ => ⟨⟨(nI (0)), (false, nm, pl), rfl, ⟨bI_0 rfl, (show f_rpl (f_rw (kd i) (lf i) (rg i) (nm k) (pl (2 * k)) (pl (2 * k + 1))) nm pl k false nm pl from by (first | (rw [f_rw, if_pos (by omega), if_pos (by omega)]; exact And.intro rfl (And.intro rfl rfl)) | (rw [f_rw, if_pos (by omega), if_neg (by omega)]; exact And.intro rfl (And.intro rfl rfl)) | (rw [f_rw, if_neg (by omega), if_neg (by omega)]; exact And.intro rfl (And.intro rfl rfl)) | (rw [f_rw, if_neg (by omega), if_pos (by omega), if_pos (by omega)]; exact And.intro rfl (And.intro rfl rfl)) | (rw [f_rw, if_neg (by omega), if_pos (by omega), if_neg (by omega)]; exact And.intro rfl (And.intro rfl rfl))))⟩, by show va_P _ _ _ t9.heap; rw [h9]; exact hP9⟩, hS.F h9⟩) hS.2.2 dX0_replace_64
abbrev rm_c_Axioms_fillForbidden : Room := { frames := 3, cells := 0, slots := 0, locals := 71 }
set_option maxHeartbeats 4000000 in
set_option maxRecDepth 100000 in
theorem c_Axioms_fillForbidden (l : Launch) (dC : Nat → ClassId) (dI : Nat → Nat → Nat) (cI cL cQ cZ : ClassId) (h0 : Nat) (k1 : Nat) (k2 : Nat) (k3 : Nat) (na : Nat) (kd : Nat → Nat) (lf : Nat → Nat) (rg : Nat → Nat) (f0 : Nat) (a1 : Nat) (a2 : Nat) (n : Nat) (jn : Bool) (nm : Nat → Nat) (pl : Nat → Nat) (i : Nat) (hi : i < 16) (hkd : ∀ j, kd j < 4) (hlf : ∀ j, lf j < 64) (hrg : ∀ j, rg j < 64) : Met l yX0_fillForbidden wkX0_fillForbidden rm_c_Axioms_fillForbidden (q_W (dC, dI) qCl (qT cI cL cQ cZ) [(h0, .inr (0, [.ref k1, .ref k2, .ref k3, .int (nI (na))])), (k1, .inl (cI, 16, .inl (nF kd))), (k2, .inl (cI, 16, .inl (nF lf))), (k3, .inl (cI, 16, .inl (nF rg))), (f0, .inr (3, [.ref a1, .ref a2, .int (nI (n)), .int (bI (jn))])), (a1, .inl (cI, 4, .inl (nF nm))), (a2, .inl (cI, 8, .inl (nF pl)))] [.ref h0, .int (nI (i)), .ref f0]) (va_Qv (fun (u : (Nat → Nat) × (Nat → Nat)) => (f_ff (kd i) (lf i) (rg i) nm pl u.1 u.2)) (fun (u : (Nat → Nat) × (Nat → Nat)) t => va_P (dC, dI) qCl [(h0, .inr (0, [.ref k1, .ref k2, .ref k3, .int (nI (na))])), (k1, .inl (cI, 16, .inl (nF kd))), (k2, .inl (cI, 16, .inl (nF lf))), (k3, .inl (cI, 16, .inl (nF rg))), (f0, .inr (3, [.ref a1, .ref a2, .int (nI (2)), .int (bI (jn))])), (a1, .inl (cI, 4, .inl (nF u.1))), (a2, .inl (cI, 8, .inl (nF u.2)))] t.heap) (q_A [(h0, .inr (0, [.ref k1, .ref k2, .ref k3, .int (nI (na))])), (k1, .inl (cI, 16, .inl (nF kd))), (k2, .inl (cI, 16, .inl (nF lf))), (k3, .inl (cI, 16, .inl (nF rg))), (f0, .inr (3, [.ref a1, .ref a2, .int (nI (n)), .int (bI (jn))])), (a1, .inl (cI, 4, .inl (nF nm))), (a2, .inl (cI, 8, .inl (nF pl)))])) 0 0 (q_A [(h0, .inr (0, [.ref k1, .ref k2, .ref k3, .int (nI (na))])), (k1, .inl (cI, 16, .inl (nF kd))), (k2, .inl (cI, 16, .inl (nF lf))), (k3, .inl (cI, 16, .inl (nF rg))), (f0, .inr (3, [.ref a1, .ref a2, .int (nI (n)), .int (bI (jn))])), (a1, .inl (cI, 4, .inl (nF nm))), (a2, .inl (cI, 8, .inl (nF pl)))]) := by
  refine Met.ofW (cc := cX0_fillForbidden) (maxL := 5) (ret := none) (by decide) rfl ?_
  intro p e s m args below meth c s₁ B hml hv
  obtain ⟨hargs, hP, hK, hD0⟩ := hv
  have hx := B.exec
  have hb := B.bytes
  have hr := B.returns
  have hts : ∀ w ∈ qW, w.before args s = true := fun w h => atoms_spec (ws := wkX0_fillForbidden) B.pre w (List.mem_cons_of_mem _ h)
  have hown : s.vm.findClass RX0 = some m.cls := findClass_of_methodNamed B.named
  have hlocks := B.notSynchronized
  refine q_named (fun Q hQ => ?_)
  have hD : va_D (q_A [(h0, .inr (0, [.ref k1, .ref k2, .ref k3, .int (nI (na))])), (k1, .inl (cI, 16, .inl (nF kd))), (k2, .inl (cI, 16, .inl (nF lf))), (k3, .inl (cI, 16, .inl (nF rg))), (f0, .inr (3, [.ref a1, .ref a2, .int (nI (n)), .int (bI (jn))])), (a1, .inl (cI, 4, .inl (nF nm))), (a2, .inl (cI, 8, .inl (nF pl)))]) [(h0, .inr (0, [.ref k1, .ref k2, .ref k3, .int (nI (na))])), (k1, .inl (cI, 16, .inl (nF kd))), (k2, .inl (cI, 16, .inl (nF lf))), (k3, .inl (cI, 16, .inl (nF rg))), (f0, .inr (3, [.ref a1, .ref a2, .int (nI (n)), .int (bI (jn))])), (a1, .inl (cI, 4, .inl (nF nm))), (a2, .inl (cI, 8, .inl (nF pl)))] := ⟨hD0.1, fun k q h => ⟨k, q.2, h⟩⟩
  generalize hAe : q_A [(h0, .inr (0, [.ref k1, .ref k2, .ref k3, .int (nI (na))])), (k1, .inl (cI, 16, .inl (nF kd))), (k2, .inl (cI, 16, .inl (nF lf))), (k3, .inl (cI, 16, .inl (nF rg))), (f0, .inr (3, [.ref a1, .ref a2, .int (nI (n)), .int (bI (jn))])), (a1, .inl (cI, 4, .inl (nF nm))), (a2, .inl (cI, 8, .inl (nF pl)))] = A at hD
  have hS : va_S A s.heap s.heap [] := va_S.rf
  refine q_entry hargs (Nat.le_of_ble_eq_true rfl) (fun ls hl => ?_)
  have hl : lv_has ls 5 [(0, .ref h0), (1, .int (nI (i))), (2, .ref f0)] := hl
  obtain ⟨H, locs, eH, eL⟩ : ∃ (H : Heap) (locs : List Loc), s.heap = H ∧ ([] : List Loc) = locs := ⟨_, _, rfl, rfl⟩
  have hS : va_S A s.heap H locs := by rw [← eH, ← eL]; exact hS
  have hP : va_P (dC, dI) qCl [(h0, .inr (0, [.ref k1, .ref k2, .ref k3, .int (nI (na))])), (k1, .inl (cI, 16, .inl (nF kd))), (k2, .inl (cI, 16, .inl (nF lf))), (k3, .inl (cI, 16, .inl (nF rg))), (f0, .inr (3, [.ref a1, .ref a2, .int (nI (n)), .int (bI (jn))])), (a1, .inl (cI, 4, .inl (nF nm))), (a2, .inl (cI, 8, .inl (nF pl)))] H := by rw [← eH]; exact hP
  refine W_at eH eL ?_
  refine lv_bipush (v := (nI (8))) hx hb dX0_fillForbidden_0 (by decide) ?_
  refine lv_istore_n (lv' := [(3, .int (nI (8))), (0, .ref h0), (1, .int (nI (i))), (2, .ref f0)]) hx hb dX0_fillForbidden_2 rfl hl (by decide) rfl (fun ls hl => ?_)
  refine lv_bipush (v := (nI (9))) hx hb dX0_fillForbidden_3 (by decide) ?_
  refine lv_istore (lv' := [(4, .int (nI (9))), (3, .int (nI (8))), (0, .ref h0), (1, .int (nI (i))), (2, .ref f0)]) hx hb dX0_fillForbidden_5 hl (by decide) rfl (fun ls hl => ?_)
  refine lv_aload_n hx hb dX0_fillForbidden_7 rfl (lv_at hl 4 rfl) ?_
  refine lv_iconst (v := (nI (2))) hx hb dX0_fillForbidden_8 (by decide) ?_
  refine va_put (D := (dC, dI)) (ci := 3) (v := .int (nI (2))) (ty := .int) (C := RX3) (T := TX3) (N := 4) hx hb hts uX3 tyX3 tyX3_ok nmX3 hown hK hP hD hS 4 rfl rfl 2 (by decide) (hts _ kfX0_25) (fun _ h9 => h9) rfl (by decide +kernel) (rfl) (rfl) (Nat.le_of_ble_eq_true rfl) dX0_fillForbidden_9 (fun H locs hP hD hS => ?_)
  have hP : va_P (dC, dI) qCl [(h0, .inr (0, [.ref k1, .ref k2, .ref k3, .int (nI (na))])), (k1, .inl (cI, 16, .inl (nF kd))), (k2, .inl (cI, 16, .inl (nF lf))), (k3, .inl (cI, 16, .inl (nF rg))), (f0, .inr (3, [.ref a1, .ref a2, .int (nI (2)), .int (bI (jn))])), (a1, .inl (cI, 4, .inl (nF nm))), (a2, .inl (cI, 8, .inl (nF pl)))] H := hP
  have hD : va_D A [(h0, .inr (0, [.ref k1, .ref k2, .ref k3, .int (nI (na))])), (k1, .inl (cI, 16, .inl (nF kd))), (k2, .inl (cI, 16, .inl (nF lf))), (k3, .inl (cI, 16, .inl (nF rg))), (f0, .inr (3, [.ref a1, .ref a2, .int (nI (2)), .int (bI (jn))])), (a1, .inl (cI, 4, .inl (nF nm))), (a2, .inl (cI, 8, .inl (nF pl)))] := hD
  refine lv_aload_n hx hb dX0_fillForbidden_12 rfl (lv_at hl 2 rfl) ?_
  refine va_get (D := (dC, dI)) (ci := 0) (v := .ref k1) (C := RX0) (T := TX0) (N := 4) hx hb hts uX0 hown hK hP 0 rfl rfl 0 (by decide) (hts _ kfX0_9) (fun _ h9 => h9) rfl dX0_fillForbidden_13 ?_
  refine lv_iload_n hx hb dX0_fillForbidden_16 rfl (lv_at hl 3 rfl) ?_
  refine q_ialdN hx hb hK hP 1 0 rfl rfl (j := i) (by omega) (by omega) dX0_fillForbidden_17 ?_
  have bd1 := hkd i
  refine lv_iconst (v := (nI (2))) hx hb dX0_fillForbidden_18 (by decide) ?_
  refine q_icmp_ne (x := kd i) (y := 2) (tgt := 49) hx hb dX0_fillForbidden_19 (by decide) (by omega) (by omega) (fun c19_2 => ?_) (fun c19_2 => ?_)
  · refine lv_aload_n hx hb dX0_fillForbidden_49 rfl (lv_at hl 4 rfl) ?_
    refine lv_iconst (v := (nI (0))) hx hb dX0_fillForbidden_50 (by decide) ?_
    refine lv_aload_n hx hb dX0_fillForbidden_51 rfl (lv_at hl 2 rfl) ?_
    refine va_get (D := (dC, dI)) (ci := 0) (v := .ref k2) (C := RX0) (T := TX0) (N := 4) hx hb hts uX0 hown hK hP 0 rfl rfl 1 (by decide) (hts _ kfX0_15) (fun _ h9 => h9) rfl dX0_fillForbidden_52 ?_
    refine lv_iload_n hx hb dX0_fillForbidden_55 rfl (lv_at hl 3 rfl) ?_
    refine q_ialdN hx hb hK hP 2 0 rfl rfl (j := i) (by omega) (by omega) dX0_fillForbidden_56 ?_
    have bd3 := hlf i
    refine lv_iload_n hx hb dX0_fillForbidden_57 rfl (lv_at hl 1 rfl) ?_
    refine lv_iload hx hb dX0_fillForbidden_58 (lv_at hl 0 rfl) ?_
    refine q_joinv (wr := [(h0, .inr (0, [.ref k1, .ref k2, .ref k3, .int (nI (na))])), (k1, .inl (cI, 16, .inl (nF kd))), (k2, .inl (cI, 16, .inl (nF lf))), (k3, .inl (cI, 16, .inl (nF rg)))]) (va_runV (As := [.int (nI (0)), .int (nI (lf i)), .int (nI (8)), .int (nI (9))]) (rest := []) ⟨hx, hb, hml, hown, hts⟩ (c_Form_putWay l dC dI cI cL cQ cZ f0 a1 a2 2 jn nm pl 0 (lf i) 8 9 (show 0 < 4 from by first | assumption | omega) (show (lf i) < 64 from by first | assumption | omega)) (q_cwV 4 hts gkX3_putWay kmX0_32 knX3_putWay klX3_putWay kiX3 rfl rfl rfl (by decide +kernel) ⟨Nat.le_of_ble_eq_true rfl, Nat.le_of_ble_eq_true rfl⟩) (q_preVW hK hP hD [4, 5, 6] rfl (by decide) 4 (ci := 3) (r := (RX3, TX3, 4)) rfl rfl) rfl rfl hl.1 rfl (lv_room (Nat.le_of_ble_eq_true rfl)) dX0_fillForbidden_60 ⟨Nat.zero_le _, Nat.zero_le _⟩) hP hD hS [4, 5, 6] [0, 1, 2, 3] rfl rfl (by decide) (fun _ => rfl) (fun _ H locs hq5 hP hD hS => ?_)
    have hP : va_P (dC, dI) qCl [(h0, .inr (0, [.ref k1, .ref k2, .ref k3, .int (nI (na))])), (k1, .inl (cI, 16, .inl (nF kd))), (k2, .inl (cI, 16, .inl (nF lf))), (k3, .inl (cI, 16, .inl (nF rg))), (f0, .inr (3, [.ref a1, .ref a2, .int (nI (2)), .int (bI (jn))])), (a1, .inl (cI, 4, .inl (nF (va_up nm 0 (f_wayn (lf i)))))), (a2, .inl (cI, 8, .inl (nF (f_put pl 0 (f_way1 (lf i) 8 9) (f_way2 (lf i) 8 9)))))] H := hP
    have hD : va_D A [(h0, .inr (0, [.ref k1, .ref k2, .ref k3, .int (nI (na))])), (k1, .inl (cI, 16, .inl (nF kd))), (k2, .inl (cI, 16, .inl (nF lf))), (k3, .inl (cI, 16, .inl (nF rg))), (f0, .inr (3, [.ref a1, .ref a2, .int (nI (2)), .int (bI (jn))])), (a1, .inl (cI, 4, .inl (nF (va_up nm 0 (f_wayn (lf i)))))), (a2, .inl (cI, 8, .inl (nF (f_put pl 0 (f_way1 (lf i) 8 9) (f_way2 (lf i) 8 9)))))] := hD
    refine lv_aload_n hx hb dX0_fillForbidden_63 rfl (lv_at hl 4 rfl) ?_
    refine lv_iconst (v := (nI (1))) hx hb dX0_fillForbidden_64 (by decide) ?_
    refine lv_aload_n hx hb dX0_fillForbidden_65 rfl (lv_at hl 2 rfl) ?_
    refine va_get (D := (dC, dI)) (ci := 0) (v := .ref k3) (C := RX0) (T := TX0) (N := 4) hx hb hts uX0 hown hK hP 0 rfl rfl 2 (by decide) (hts _ kfX0_18) (fun _ h9 => h9) rfl dX0_fillForbidden_66 ?_
    refine lv_iload_n hx hb dX0_fillForbidden_69 rfl (lv_at hl 3 rfl) ?_
    refine q_ialdN hx hb hK hP 3 0 rfl rfl (j := i) (by omega) (by omega) dX0_fillForbidden_70 ?_
    have bd6 := hrg i
    refine lv_iload_n hx hb dX0_fillForbidden_71 rfl (lv_at hl 1 rfl) ?_
    refine lv_iload hx hb dX0_fillForbidden_72 (lv_at hl 0 rfl) ?_
    refine q_joinv (wr := [(h0, .inr (0, [.ref k1, .ref k2, .ref k3, .int (nI (na))])), (k1, .inl (cI, 16, .inl (nF kd))), (k2, .inl (cI, 16, .inl (nF lf))), (k3, .inl (cI, 16, .inl (nF rg)))]) (va_runV (As := [.int (nI (1)), .int (nI (rg i)), .int (nI (8)), .int (nI (9))]) (rest := []) ⟨hx, hb, hml, hown, hts⟩ (c_Form_putWay l dC dI cI cL cQ cZ f0 a1 a2 2 jn (va_up nm 0 (f_wayn (lf i))) (f_put pl 0 (f_way1 (lf i) 8 9) (f_way2 (lf i) 8 9)) 1 (rg i) 8 9 (show 1 < 4 from by first | assumption | omega) (show (rg i) < 64 from by first | assumption | omega)) (q_cwV 4 hts gkX3_putWay kmX0_32 knX3_putWay klX3_putWay kiX3 rfl rfl rfl (by decide +kernel) ⟨Nat.le_of_ble_eq_true rfl, Nat.le_of_ble_eq_true rfl⟩) (q_preVW hK hP hD [4, 5, 6] rfl (by decide) 4 (ci := 3) (r := (RX3, TX3, 4)) rfl rfl) rfl rfl hl.1 rfl (lv_room (Nat.le_of_ble_eq_true rfl)) dX0_fillForbidden_74 ⟨Nat.zero_le _, Nat.zero_le _⟩) hP hD hS [4, 5, 6] [0, 1, 2, 3] rfl rfl (by decide) (fun _ => rfl) (fun _ H locs hq8 hP hD hS => ?_)
    have hP : va_P (dC, dI) qCl [(h0, .inr (0, [.ref k1, .ref k2, .ref k3, .int (nI (na))])), (k1, .inl (cI, 16, .inl (nF kd))), (k2, .inl (cI, 16, .inl (nF lf))), (k3, .inl (cI, 16, .inl (nF rg))), (f0, .inr (3, [.ref a1, .ref a2, .int (nI (2)), .int (bI (jn))])), (a1, .inl (cI, 4, .inl (nF (va_up (va_up nm 0 (f_wayn (lf i))) 1 (f_wayn (rg i)))))), (a2, .inl (cI, 8, .inl (nF (f_put (f_put pl 0 (f_way1 (lf i) 8 9) (f_way2 (lf i) 8 9)) 1 (f_way1 (rg i) 8 9) (f_way2 (rg i) 8 9)))))] H := hP
    have hD : va_D A [(h0, .inr (0, [.ref k1, .ref k2, .ref k3, .int (nI (na))])), (k1, .inl (cI, 16, .inl (nF kd))), (k2, .inl (cI, 16, .inl (nF lf))), (k3, .inl (cI, 16, .inl (nF rg))), (f0, .inr (3, [.ref a1, .ref a2, .int (nI (2)), .int (bI (jn))])), (a1, .inl (cI, 4, .inl (nF (va_up (va_up nm 0 (f_wayn (lf i))) 1 (f_wayn (rg i)))))), (a2, .inl (cI, 8, .inl (nF (f_put (f_put pl 0 (f_way1 (lf i) 8 9) (f_way2 (lf i) 8 9)) 1 (f_way1 (rg i) 8 9) (f_way2 (rg i) 8 9)))))] := hD
    subst hQ
    subst hAe
    have hP9 := hP.sub (ws' := [(h0, .inr (0, [.ref k1, .ref k2, .ref k3, .int (nI (na))])), (k1, .inl (cI, 16, .inl (nF kd))), (k2, .inl (cI, 16, .inl (nF lf))), (k3, .inl (cI, 16, .inl (nF rg))), (f0, .inr (3, [.ref a1, .ref a2, .int (nI (2)), .int (bI (jn))])), (a1, .inl (cI, 4, .inl (nF (va_up (va_up nm 0 (f_wayn (lf i))) 1 (f_wayn (rg i)))))), (a2, .inl (cI, 8, .inl (nF (f_put (f_put pl 0 (f_way1 (lf i) 8 9) (f_way2 (lf i) 8 9)) 1 (f_way1 (rg i) 8 9) (f_way2 (rg i) 8 9)))))]) [0, 1, 2, 3, 4, 5, 6] rfl
    exact W.vret hx hb hr (fun t9 h9 _ => ⟨⟨(va_up (va_up nm 0 (f_wayn (lf i))) 1 (f_wayn (rg i)), f_put (f_put pl 0 (f_way1 (lf i) 8 9) (f_way2 (lf i) 8 9)) 1 (f_way1 (rg i) 8 9) (f_way2 (rg i) 8 9)), rfl, (show f_ff (kd i) (lf i) (rg i) nm pl (va_up (va_up nm 0 (f_wayn (lf i))) 1 (f_wayn (rg i))) (f_put (f_put pl 0 (f_way1 (lf i) 8 9) (f_way2 (lf i) 8 9)) 1 (f_way1 (rg i) 8 9) (f_way2 (rg i) 8 9)) from by (first | (rw [f_ff, if_pos (by omega)]; exact And.intro rfl rfl) | (rw [f_ff, if_neg (by omega)]; exact And.intro rfl rfl))), by show va_P _ _ _ t9.heap; rw [h9]; exact hP9⟩, hS.F h9⟩) hS.2.2 dX0_fillForbidden_77
  · refine lv_aload_n hx hb dX0_fillForbidden_22 rfl (lv_at hl 4 rfl) ?_
    refine lv_iconst (v := (nI (0))) hx hb dX0_fillForbidden_23 (by decide) ?_
    refine lv_aload_n hx hb dX0_fillForbidden_24 rfl (lv_at hl 2 rfl) ?_
    refine va_get (D := (dC, dI)) (ci := 0) (v := .ref k2) (C := RX0) (T := TX0) (N := 4) hx hb hts uX0 hown hK hP 0 rfl rfl 1 (by decide) (hts _ kfX0_15) (fun _ h9 => h9) rfl dX0_fillForbidden_25 ?_
    refine lv_iload_n hx hb dX0_fillForbidden_28 rfl (lv_at hl 3 rfl) ?_
    refine q_ialdN hx hb hK hP 2 0 rfl rfl (j := i) (by omega) (by omega) dX0_fillForbidden_29 ?_
    have bd9 := hlf i
    refine lv_iload_n hx hb dX0_fillForbidden_30 rfl (lv_at hl 1 rfl) ?_
    refine q_joinv (wr := [(h0, .inr (0, [.ref k1, .ref k2, .ref k3, .int (nI (na))])), (k1, .inl (cI, 16, .inl (nF kd))), (k2, .inl (cI, 16, .inl (nF lf))), (k3, .inl (cI, 16, .inl (nF rg)))]) (va_runV (As := [.int (nI (0)), .int (nI (lf i)), .int (nI (8))]) (rest := []) ⟨hx, hb, hml, hown, hts⟩ (c_Form_putSort l dC dI cI cL cQ cZ f0 a1 a2 2 jn nm pl 0 (lf i) 8 (show 0 < 4 from by first | assumption | omega) (show (lf i) < 64 from by first | assumption | omega)) (q_cwV 3 hts gkX3_putSort kmX0_28 knX3_putSort klX3_putSort kiX3 rfl rfl rfl (by decide +kernel) ⟨Nat.le_of_ble_eq_true rfl, Nat.le_of_ble_eq_true rfl⟩) (q_preVW hK hP hD [4, 5, 6] rfl (by decide) 4 (ci := 3) (r := (RX3, TX3, 4)) rfl rfl) rfl rfl hl.1 rfl (lv_room (Nat.le_of_ble_eq_true rfl)) dX0_fillForbidden_31 ⟨Nat.zero_le _, Nat.zero_le _⟩) hP hD hS [4, 5, 6] [0, 1, 2, 3] rfl rfl (by decide) (fun _ => rfl) (fun _ H locs hq11 hP hD hS => ?_)
    have hP : va_P (dC, dI) qCl [(h0, .inr (0, [.ref k1, .ref k2, .ref k3, .int (nI (na))])), (k1, .inl (cI, 16, .inl (nF kd))), (k2, .inl (cI, 16, .inl (nF lf))), (k3, .inl (cI, 16, .inl (nF rg))), (f0, .inr (3, [.ref a1, .ref a2, .int (nI (2)), .int (bI (jn))])), (a1, .inl (cI, 4, .inl (nF (va_up nm 0 (f_sortn (lf i)))))), (a2, .inl (cI, 8, .inl (nF (f_put pl 0 (f_sort1 (lf i) 8) (f_sort2 (lf i) 8)))))] H := hP
    have hD : va_D A [(h0, .inr (0, [.ref k1, .ref k2, .ref k3, .int (nI (na))])), (k1, .inl (cI, 16, .inl (nF kd))), (k2, .inl (cI, 16, .inl (nF lf))), (k3, .inl (cI, 16, .inl (nF rg))), (f0, .inr (3, [.ref a1, .ref a2, .int (nI (2)), .int (bI (jn))])), (a1, .inl (cI, 4, .inl (nF (va_up nm 0 (f_sortn (lf i)))))), (a2, .inl (cI, 8, .inl (nF (f_put pl 0 (f_sort1 (lf i) 8) (f_sort2 (lf i) 8)))))] := hD
    refine lv_aload_n hx hb dX0_fillForbidden_34 rfl (lv_at hl 4 rfl) ?_
    refine lv_iconst (v := (nI (1))) hx hb dX0_fillForbidden_35 (by decide) ?_
    refine lv_aload_n hx hb dX0_fillForbidden_36 rfl (lv_at hl 2 rfl) ?_
    refine va_get (D := (dC, dI)) (ci := 0) (v := .ref k3) (C := RX0) (T := TX0) (N := 4) hx hb hts uX0 hown hK hP 0 rfl rfl 2 (by decide) (hts _ kfX0_18) (fun _ h9 => h9) rfl dX0_fillForbidden_37 ?_
    refine lv_iload_n hx hb dX0_fillForbidden_40 rfl (lv_at hl 3 rfl) ?_
    refine q_ialdN hx hb hK hP 3 0 rfl rfl (j := i) (by omega) (by omega) dX0_fillForbidden_41 ?_
    have bd12 := hrg i
    refine lv_iload_n hx hb dX0_fillForbidden_42 rfl (lv_at hl 1 rfl) ?_
    refine q_joinv (wr := [(h0, .inr (0, [.ref k1, .ref k2, .ref k3, .int (nI (na))])), (k1, .inl (cI, 16, .inl (nF kd))), (k2, .inl (cI, 16, .inl (nF lf))), (k3, .inl (cI, 16, .inl (nF rg)))]) (va_runV (As := [.int (nI (1)), .int (nI (rg i)), .int (nI (8))]) (rest := []) ⟨hx, hb, hml, hown, hts⟩ (c_Form_putSort l dC dI cI cL cQ cZ f0 a1 a2 2 jn (va_up nm 0 (f_sortn (lf i))) (f_put pl 0 (f_sort1 (lf i) 8) (f_sort2 (lf i) 8)) 1 (rg i) 8 (show 1 < 4 from by first | assumption | omega) (show (rg i) < 64 from by first | assumption | omega)) (q_cwV 3 hts gkX3_putSort kmX0_28 knX3_putSort klX3_putSort kiX3 rfl rfl rfl (by decide +kernel) ⟨Nat.le_of_ble_eq_true rfl, Nat.le_of_ble_eq_true rfl⟩) (q_preVW hK hP hD [4, 5, 6] rfl (by decide) 4 (ci := 3) (r := (RX3, TX3, 4)) rfl rfl) rfl rfl hl.1 rfl (lv_room (Nat.le_of_ble_eq_true rfl)) dX0_fillForbidden_43 ⟨Nat.zero_le _, Nat.zero_le _⟩) hP hD hS [4, 5, 6] [0, 1, 2, 3] rfl rfl (by decide) (fun _ => rfl) (fun _ H locs hq14 hP hD hS => ?_)
    have hP : va_P (dC, dI) qCl [(h0, .inr (0, [.ref k1, .ref k2, .ref k3, .int (nI (na))])), (k1, .inl (cI, 16, .inl (nF kd))), (k2, .inl (cI, 16, .inl (nF lf))), (k3, .inl (cI, 16, .inl (nF rg))), (f0, .inr (3, [.ref a1, .ref a2, .int (nI (2)), .int (bI (jn))])), (a1, .inl (cI, 4, .inl (nF (va_up (va_up nm 0 (f_sortn (lf i))) 1 (f_sortn (rg i)))))), (a2, .inl (cI, 8, .inl (nF (f_put (f_put pl 0 (f_sort1 (lf i) 8) (f_sort2 (lf i) 8)) 1 (f_sort1 (rg i) 8) (f_sort2 (rg i) 8)))))] H := hP
    have hD : va_D A [(h0, .inr (0, [.ref k1, .ref k2, .ref k3, .int (nI (na))])), (k1, .inl (cI, 16, .inl (nF kd))), (k2, .inl (cI, 16, .inl (nF lf))), (k3, .inl (cI, 16, .inl (nF rg))), (f0, .inr (3, [.ref a1, .ref a2, .int (nI (2)), .int (bI (jn))])), (a1, .inl (cI, 4, .inl (nF (va_up (va_up nm 0 (f_sortn (lf i))) 1 (f_sortn (rg i)))))), (a2, .inl (cI, 8, .inl (nF (f_put (f_put pl 0 (f_sort1 (lf i) 8) (f_sort2 (lf i) 8)) 1 (f_sort1 (rg i) 8) (f_sort2 (rg i) 8)))))] := hD
    refine lv_goto (tgt := 77) hx hb dX0_fillForbidden_46 (by decide) ?_
    subst hQ
    subst hAe
    have hP9 := hP.sub (ws' := [(h0, .inr (0, [.ref k1, .ref k2, .ref k3, .int (nI (na))])), (k1, .inl (cI, 16, .inl (nF kd))), (k2, .inl (cI, 16, .inl (nF lf))), (k3, .inl (cI, 16, .inl (nF rg))), (f0, .inr (3, [.ref a1, .ref a2, .int (nI (2)), .int (bI (jn))])), (a1, .inl (cI, 4, .inl (nF (va_up (va_up nm 0 (f_sortn (lf i))) 1 (f_sortn (rg i)))))), (a2, .inl (cI, 8, .inl (nF (f_put (f_put pl 0 (f_sort1 (lf i) 8) (f_sort2 (lf i) 8)) 1 (f_sort1 (rg i) 8) (f_sort2 (rg i) 8)))))]) [0, 1, 2, 3, 4, 5, 6] rfl
    exact W.vret hx hb hr (fun t9 h9 _ => ⟨⟨(va_up (va_up nm 0 (f_sortn (lf i))) 1 (f_sortn (rg i)), f_put (f_put pl 0 (f_sort1 (lf i) 8) (f_sort2 (lf i) 8)) 1 (f_sort1 (rg i) 8) (f_sort2 (rg i) 8)), rfl, (show f_ff (kd i) (lf i) (rg i) nm pl (va_up (va_up nm 0 (f_sortn (lf i))) 1 (f_sortn (rg i))) (f_put (f_put pl 0 (f_sort1 (lf i) 8) (f_sort2 (lf i) 8)) 1 (f_sort1 (rg i) 8) (f_sort2 (rg i) 8)) from by (first | (rw [f_ff, if_pos (by omega)]; exact And.intro rfl rfl) | (rw [f_ff, if_neg (by omega)]; exact And.intro rfl rfl))), by show va_P _ _ _ t9.heap; rw [h9]; exact hP9⟩, hS.F h9⟩) hS.2.2 dX0_fillForbidden_77
abbrev rm_c_Question_begin : Room := { frames := 0, cells := 0, slots := 0, locals := 0 }
set_option maxHeartbeats 4000000 in
set_option maxRecDepth 100000 in
theorem c_Question_begin (l : Launch) (dC : Nat → ClassId) (dI : Nat → Nat → Nat) (cI cL cQ cZ : ClassId) (q0 : Nat) (ow : Nat) (an : Nat) (ra : Nat) (sz : Nat) (lg : Bool) (rw9 : Bool) (fa : Nat) (se : Bool) (a1 : Nat) (a2 : Nat) (n : Nat) (jn : Bool) (v : Nat)  : Met l yX5_begin wkX5_begin rm_c_Question_begin (q_W (dC, dI) qCl (qT cI cL cQ cZ) [(q0, .inr (5, [.ref ow, .int (nI (an)), .ref ra, .int (nI (sz)), .int (bI (lg)), .int (bI (rw9)), .ref fa, .int (bI (se))])), (ow, .inr (3, [.ref a1, .ref a2, .int (nI (n)), .int (bI (jn))]))] [.ref q0, .int (nI (v))]) (va_Qv (fun (u : Unit) => True) (fun (u : Unit) t => va_P (dC, dI) qCl [(q0, .inr (5, [.ref ow, .int (nI (v)), .ref ra, .int (nI (sz)), .int (bI (lg)), .int (bI (false)), .ref fa, .int (bI (se))])), (ow, .inr (3, [.ref a1, .ref a2, .int (nI (0)), .int (bI (jn))]))] t.heap) (q_A [(q0, .inr (5, [.ref ow, .int (nI (an)), .ref ra, .int (nI (sz)), .int (bI (lg)), .int (bI (rw9)), .ref fa, .int (bI (se))])), (ow, .inr (3, [.ref a1, .ref a2, .int (nI (n)), .int (bI (jn))]))])) 0 0 (q_A [(q0, .inr (5, [.ref ow, .int (nI (an)), .ref ra, .int (nI (sz)), .int (bI (lg)), .int (bI (rw9)), .ref fa, .int (bI (se))])), (ow, .inr (3, [.ref a1, .ref a2, .int (nI (n)), .int (bI (jn))]))]) := by
  refine Met.ofW (cc := cX5_begin) (maxL := 2) (ret := none) (by decide) rfl ?_
  intro p e s m args below meth c s₁ B hml hv
  obtain ⟨hargs, hP, hK, hD0⟩ := hv
  have hx := B.exec
  have hb := B.bytes
  have hr := B.returns
  have hts : ∀ w ∈ qW, w.before args s = true := fun w h => atoms_spec (ws := wkX5_begin) B.pre w (List.mem_cons_of_mem _ h)
  have hown : s.vm.findClass RX5 = some m.cls := findClass_of_methodNamed B.named
  have hlocks := B.notSynchronized
  refine q_named (fun Q hQ => ?_)
  have hD : va_D (q_A [(q0, .inr (5, [.ref ow, .int (nI (an)), .ref ra, .int (nI (sz)), .int (bI (lg)), .int (bI (rw9)), .ref fa, .int (bI (se))])), (ow, .inr (3, [.ref a1, .ref a2, .int (nI (n)), .int (bI (jn))]))]) [(q0, .inr (5, [.ref ow, .int (nI (an)), .ref ra, .int (nI (sz)), .int (bI (lg)), .int (bI (rw9)), .ref fa, .int (bI (se))])), (ow, .inr (3, [.ref a1, .ref a2, .int (nI (n)), .int (bI (jn))]))] := ⟨hD0.1, fun k q h => ⟨k, q.2, h⟩⟩
  generalize hAe : q_A [(q0, .inr (5, [.ref ow, .int (nI (an)), .ref ra, .int (nI (sz)), .int (bI (lg)), .int (bI (rw9)), .ref fa, .int (bI (se))])), (ow, .inr (3, [.ref a1, .ref a2, .int (nI (n)), .int (bI (jn))]))] = A at hD
  have hS : va_S A s.heap s.heap [] := va_S.rf
  refine q_entry hargs (Nat.le_of_ble_eq_true rfl) (fun ls hl => ?_)
  have hl : lv_has ls 2 [(0, .ref q0), (1, .int (nI (v)))] := hl
  obtain ⟨H, locs, eH, eL⟩ : ∃ (H : Heap) (locs : List Loc), s.heap = H ∧ ([] : List Loc) = locs := ⟨_, _, rfl, rfl⟩
  have hS : va_S A s.heap H locs := by rw [← eH, ← eL]; exact hS
  have hP : va_P (dC, dI) qCl [(q0, .inr (5, [.ref ow, .int (nI (an)), .ref ra, .int (nI (sz)), .int (bI (lg)), .int (bI (rw9)), .ref fa, .int (bI (se))])), (ow, .inr (3, [.ref a1, .ref a2, .int (nI (n)), .int (bI (jn))]))] H := by rw [← eH]; exact hP
  refine W_at eH eL ?_
  refine lv_aload_n hx hb dX5_begin_0 rfl (lv_at hl 0 rfl) ?_
  refine lv_iload_n hx hb dX5_begin_1 rfl (lv_at hl 1 rfl) ?_
  refine va_put (D := (dC, dI)) (ci := 5) (v := .int (nI (v))) (ty := .int) (C := RX5) (T := TX5) (N := 8) hx hb hts uX5 tyX5 tyX5_ok nmX5 hown hK hP hD hS 0 rfl rfl 1 (by decide) (hts _ kfX5_18) (fun _ h9 => h9) rfl (by decide +kernel) (rfl) (rfl) (Nat.le_of_ble_eq_true rfl) dX5_begin_2 (fun H locs hP hD hS => ?_)
  have hP : va_P (dC, dI) qCl [(q0, .inr (5, [.ref ow, .int (nI (v)), .ref ra, .int (nI (sz)), .int (bI (lg)), .int (bI (rw9)), .ref fa, .int (bI (se))])), (ow, .inr (3, [.ref a1, .ref a2, .int (nI (n)), .int (bI (jn))]))] H := hP
  have hD : va_D A [(q0, .inr (5, [.ref ow, .int (nI (v)), .ref ra, .int (nI (sz)), .int (bI (lg)), .int (bI (rw9)), .ref fa, .int (bI (se))])), (ow, .inr (3, [.ref a1, .ref a2, .int (nI (n)), .int (bI (jn))]))] := hD
  refine lv_aload_n hx hb dX5_begin_5 rfl (lv_at hl 0 rfl) ?_
  refine va_get (D := (dC, dI)) (ci := 5) (v := .ref ow) (C := RX5) (T := TX5) (N := 8) hx hb hts uX5 hown hK hP 0 rfl rfl 0 (by decide) (hts _ kfX5_12) (fun _ h9 => h9) rfl dX5_begin_6 ?_
  refine lv_iconst (v := (nI (0))) hx hb dX5_begin_9 (by decide) ?_
  refine va_put (D := (dC, dI)) (ci := 3) (v := .int (nI (0))) (ty := .int) (C := RX3) (T := TX3) (N := 4) hx hb hts uX3 tyX3 tyX3_ok nmX3 hown hK hP hD hS 1 rfl rfl 2 (by decide) (hts _ kfX5_43) (fun _ h9 => h9) rfl (by decide +kernel) (rfl) (rfl) (Nat.le_of_ble_eq_true rfl) dX5_begin_10 (fun H locs hP hD hS => ?_)
  have hP : va_P (dC, dI) qCl [(q0, .inr (5, [.ref ow, .int (nI (v)), .ref ra, .int (nI (sz)), .int (bI (lg)), .int (bI (rw9)), .ref fa, .int (bI (se))])), (ow, .inr (3, [.ref a1, .ref a2, .int (nI (0)), .int (bI (jn))]))] H := hP
  have hD : va_D A [(q0, .inr (5, [.ref ow, .int (nI (v)), .ref ra, .int (nI (sz)), .int (bI (lg)), .int (bI (rw9)), .ref fa, .int (bI (se))])), (ow, .inr (3, [.ref a1, .ref a2, .int (nI (0)), .int (bI (jn))]))] := hD
  refine lv_aload_n hx hb dX5_begin_13 rfl (lv_at hl 0 rfl) ?_
  refine lv_iconst (v := (nI (0))) hx hb dX5_begin_14 (by decide) ?_
  refine va_put (D := (dC, dI)) (ci := 5) (v := .int (bI (false))) (ty := .boolean) (C := RX5) (T := TX5) (N := 8) hx hb hts uX5 tyX5 tyX5_ok nmX5 hown hK hP hD hS 0 rfl rfl 5 (by decide) (hts _ kfX5_33) (fun _ h9 => h9) rfl (by decide +kernel) (bI_nar _) (rfl) (Nat.le_of_ble_eq_true rfl) dX5_begin_15 (fun H locs hP hD hS => ?_)
  have hP : va_P (dC, dI) qCl [(q0, .inr (5, [.ref ow, .int (nI (v)), .ref ra, .int (nI (sz)), .int (bI (lg)), .int (bI (false)), .ref fa, .int (bI (se))])), (ow, .inr (3, [.ref a1, .ref a2, .int (nI (0)), .int (bI (jn))]))] H := hP
  have hD : va_D A [(q0, .inr (5, [.ref ow, .int (nI (v)), .ref ra, .int (nI (sz)), .int (bI (lg)), .int (bI (false)), .ref fa, .int (bI (se))])), (ow, .inr (3, [.ref a1, .ref a2, .int (nI (0)), .int (bI (jn))]))] := hD
  subst hQ
  subst hAe
  have hP9 := hP.sub (ws' := [(q0, .inr (5, [.ref ow, .int (nI (v)), .ref ra, .int (nI (sz)), .int (bI (lg)), .int (bI (false)), .ref fa, .int (bI (se))])), (ow, .inr (3, [.ref a1, .ref a2, .int (nI (0)), .int (bI (jn))]))]) [0, 1] rfl
  exact W.vret hx hb hr (fun t9 h9 _ => ⟨⟨(), rfl, trivial, by show va_P _ _ _ t9.heap; rw [h9]; exact hP9⟩, hS.F h9⟩) hS.2.2 dX5_begin_18
abbrev rm_c_Question_variable : Room := { frames := 0, cells := 0, slots := 0, locals := 0 }
set_option maxHeartbeats 4000000 in
set_option maxRecDepth 100000 in
theorem c_Question_variable (l : Launch) (dC : Nat → ClassId) (dI : Nat → Nat → Nat) (cI cL cQ cZ : ClassId) (q0 : Nat) (ow : Nat) (an : Nat) (ra : Nat) (sz : Nat) (lg : Bool) (rw9 : Bool) (fa : Nat) (se : Bool) (v : Nat) (hv : v < 8) (han : an < 8) : Met l yX5_variable wkX5_variable rm_c_Question_variable (q_R (dC, dI) qCl (qT cI cL cQ cZ) [(q0, .inr (5, [.ref ow, .int (nI (an)), .ref ra, .int (nI (sz)), .int (bI (lg)), .int (bI (rw9)), .ref fa, .int (bI (se))]))] [.ref q0, .int (nI (v))]) (vp_Si (fun r => r = (nI (if v < an then v else 8 + v)))) 0 0 (fun _ => False) := by
  refine Met.ofW (cc := cX5_variable) (maxL := 2) (ret := (some .int)) (by decide) rfl ?_
  intro p e s m args below meth c s₁ B hml hv
  obtain ⟨hargs, hP, hK⟩ := hv
  have hx := B.exec
  have hb := B.bytes
  have hr := B.returns
  have hts : ∀ w ∈ qW, w.before args s = true := fun w h => atoms_spec (ws := wkX5_variable) B.pre w (List.mem_cons_of_mem _ h)
  have hown : s.vm.findClass RX5 = some m.cls := findClass_of_methodNamed B.named
  have hlocks := B.notSynchronized
  refine q_named (fun Q hQ => ?_)
  refine q_entry hargs (Nat.le_of_ble_eq_true rfl) (fun ls hl => ?_)
  have hl : lv_has ls 2 [(0, .ref q0), (1, .int (nI (v)))] := hl
  refine lv_iload_n hx hb dX5_variable_0 rfl (lv_at hl 1 rfl) ?_
  refine lv_aload_n hx hb dX5_variable_1 rfl (lv_at hl 0 rfl) ?_
  refine va_get (D := (dC, dI)) (ci := 5) (v := .int (nI (an))) (C := RX5) (T := TX5) (N := 8) hx hb hts uX5 hown hK hP 0 rfl rfl 1 (by decide) (hts _ kfX5_18) (fun _ h9 => h9) rfl dX5_variable_2 ?_
  refine q_icmp_ge (x := v) (y := an) (tgt := 12) hx hb dX5_variable_5 (by decide) (by omega) (by omega) (fun c5_1 => ?_) (fun c5_1 => ?_)
  · refine lv_bipush (v := (nI (8))) hx hb dX5_variable_12 (by decide) ?_
    refine lv_iload_n hx hb dX5_variable_14 rfl (lv_at hl 1 rfl) ?_
    refine q_iadd (x := 8) (y := v) hx hb dX5_variable_15 ?_
    subst hQ
    exact W.iret (v := (nI (8 + v))) hx hb hr (fun t9 h9 _ => ⟨_, rfl, congrArg nI (show 8 + v = if v < an then v else 8 + v from by (split <;> omega)), h9⟩) (fun q hq => by cases hq) dX5_variable_16
  · refine lv_iload_n hx hb dX5_variable_8 rfl (lv_at hl 1 rfl) ?_
    refine lv_goto (tgt := 16) hx hb dX5_variable_9 (by decide) ?_
    subst hQ
    exact W.iret (v := (nI (v))) hx hb hr (fun t9 h9 _ => ⟨_, rfl, congrArg nI (show v = if v < an then v else 8 + v from by (split <;> omega)), h9⟩) (fun q hq => by cases hq) dX5_variable_16
abbrev rm_c_Question_found : Room := { frames := 0, cells := 0, slots := 0, locals := 0 }
set_option maxHeartbeats 4000000 in
set_option maxRecDepth 100000 in
theorem c_Question_found (l : Launch) (dC : Nat → ClassId) (dI : Nat → Nat → Nat) (cI cL cQ cZ : ClassId) (q0 : Nat) (ow : Nat) (an : Nat) (ra : Nat) (sz : Nat) (lg : Bool) (rw9 : Bool) (fa : Nat) (se : Bool) (fd : Nat → Option Nat) (hfd : ∀ j k, fd j = some k → k < 90) : Met l yX5_found wkX5_found rm_c_Question_found (q_R (dC, dI) qCl (qT cI cL cQ cZ) [(q0, .inr (5, [.ref ow, .int (nI (an)), .ref ra, .int (nI (sz)), .int (bI (lg)), .int (bI (rw9)), .ref fa, .int (bI (se))])), (fa, .inl (cI, 192, .inl (oF fd)))] [.ref q0]) (vp_Si (fun r => r = (nI (f_cnto fd 192)))) 0 0 (fun _ => False) := by
  refine Met.ofW (cc := cX5_found) (maxL := 3) (ret := (some .int)) (by decide) rfl ?_
  intro p e s m args below meth c s₁ B hml hv
  obtain ⟨hargs, hP, hK⟩ := hv
  have hx := B.exec
  have hb := B.bytes
  have hr := B.returns
  have hts : ∀ w ∈ qW, w.before args s = true := fun w h => atoms_spec (ws := wkX5_found) B.pre w (List.mem_cons_of_mem _ h)
  have hown : s.vm.findClass RX5 = some m.cls := findClass_of_methodNamed B.named
  have hlocks := B.notSynchronized
  refine q_named (fun Q hQ => ?_)
  refine q_entry hargs (Nat.le_of_ble_eq_true rfl) (fun ls hl => ?_)
  have hl : lv_has ls 3 [(0, .ref q0)] := hl
  refine lv_iconst (v := (nI (0))) hx hb dX5_found_0 (by decide) ?_
  refine lv_istore_n (lv' := [(1, .int (nI (0))), (0, .ref q0)]) hx hb dX5_found_1 rfl hl (by decide) rfl (fun ls hl => ?_)
  refine lv_iconst (v := (nI (0))) hx hb dX5_found_2 (by decide) ?_
  refine lv_istore_n (lv' := [(2, .int (nI (0))), (1, .int (nI (0))), (0, .ref q0)]) hx hb dX5_found_3 rfl hl (by decide) rfl (fun ls hl => ?_)
  have L4 : ∀ (fu : Nat) (cn : Nat) (i : Nat) (ls : Array Slot), 192 - i < fu → (cn = f_cnto fd i) → (i ≤ 192) → lv_has ls 3 [(2, .int (nI (i))), (1, .int (nI (cn))), (0, .ref q0)] → W p l e (headSpec wkX5_found rm_c_Question_found).room s m args below meth c s.heap [] 0 0 Q (F0 m 4 ls []) := by
    intro fu
    induction fu with
    | zero => intro cn i ls hmu; exact absurd hmu (Nat.not_lt_zero _)
    | succ fu ih4 =>
      intro cn i ls hmu hc hi hl
      refine lv_iload_n hx hb dX5_found_4 rfl (lv_at hl 0 rfl) ?_
      refine lv_sipush (v := (nI (192))) hx hb dX5_found_5 (by decide) ?_
      refine q_icmp_ge (x := i) (y := 192) (tgt := 30) hx hb dX5_found_8 (by decide) (by omega) (by omega) (fun c8_1 => ?_) (fun c8_1 => ?_)
      · refine lv_iload_n hx hb dX5_found_30 rfl (lv_at hl 1 rfl) ?_
        subst hQ
        exact W.iret (v := (nI (cn))) hx hb hr (fun t9 h9 _ => ⟨_, rfl, congrArg nI (show cn = f_cnto fd 192 from by (rw [hc, show i = 192 by omega])), h9⟩) (fun q hq => by cases hq) dX5_found_31
      · refine lv_aload_n hx hb dX5_found_11 rfl (lv_at hl 2 rfl) ?_
        refine va_get (D := (dC, dI)) (ci := 5) (v := .ref fa) (C := RX5) (T := TX5) (N := 8) hx hb hts uX5 hown hK hP 0 rfl rfl 6 (by decide) (hts _ kfX5_36) (fun _ h9 => h9) rfl dX5_found_12 ?_
        refine lv_iload_n hx hb dX5_found_15 rfl (lv_at hl 0 rfl) ?_
        refine q_ialdO hx hb hK hP 1 0 rfl rfl (j := i) (by omega) (by omega) dX5_found_16 ?_
        refine lv_iconst (v := (oI (none))) hx hb dX5_found_17 (by decide) ?_
        refine q_icmpO_eq (x := fd i) (tgt := 24) hx hb dX5_found_18 (by decide) (by (intro k9 h9; have := hfd _ _ h9; omega)) (fun c18_2 => ?_) (fun c18_2 => ?_)
        · refine lv_iinc (v := (nI (i + 1))) (lv' := [(2, .int (nI (i + 1))), (1, .int (nI (cn))), (0, .ref q0)]) hx hb dX5_found_24 hl (k := 0) rfl (q_inc _) (by decide) rfl (fun ls hl => ?_)
          refine lv_goto (tgt := 4) hx hb dX5_found_27 (by decide) ?_
          exact ih4 cn (i + 1) ls (by omega) (show cn = f_cnto fd (i + 1) from by (simp only [f_cnto]; simp [*])) (show (i + 1) ≤ 192 from by omega) (lv_sub hl [0, 1, 2] rfl)
        · refine lv_iinc (v := (nI (cn + 1))) (lv' := [(1, .int (nI (cn + 1))), (2, .int (nI (i))), (0, .ref q0)]) hx hb dX5_found_21 hl (k := 1) rfl (q_inc _) (by decide) rfl (fun ls hl => ?_)
          refine lv_iinc (v := (nI (i + 1))) (lv' := [(2, .int (nI (i + 1))), (1, .int (nI (cn + 1))), (0, .ref q0)]) hx hb dX5_found_24 hl (k := 1) rfl (q_inc _) (by decide) rfl (fun ls hl => ?_)
          refine lv_goto (tgt := 4) hx hb dX5_found_27 (by decide) ?_
          exact ih4 (cn + 1) (i + 1) ls (by omega) (show (cn + 1) = f_cnto fd (i + 1) from by (simp only [f_cnto]; simp [*])) (show (i + 1) ≤ 192 from by omega) (lv_sub hl [0, 1, 2] rfl)
  exact L4 _ 0 0 ls (by exact Nat.lt_succ_self _) (show 0 = f_cnto fd 0 from by rfl) (show 0 ≤ 192 from by omega) (lv_sub hl [0, 1, 2] rfl)
abbrev rm_c_Question_number : Room := { frames := 0, cells := 0, slots := 0, locals := 0 }
set_option maxHeartbeats 4000000 in
set_option maxRecDepth 100000 in
theorem c_Question_number (l : Launch) (dC : Nat → ClassId) (dI : Nat → Nat → Nat) (cI cL cQ cZ : ClassId) (q0 : Nat) (ow : Nat) (an : Nat) (ra : Nat) (sz : Nat) (lg : Bool) (rw9 : Bool) (fa : Nat) (se : Bool) (fd : Nat → Option Nat) (x : Int32) (hfd : ∀ j k, fd j = some k → k < 90) : Met l yX5_number wkX5_number rm_c_Question_number (q_R (dC, dI) qCl (qT cI cL cQ cZ) [(q0, .inr (5, [.ref ow, .int (nI (an)), .ref ra, .int (nI (sz)), .int (bI (lg)), .int (bI (rw9)), .ref fa, .int (bI (se))])), (fa, .inl (cI, 192, .inl (oF fd)))] [.ref q0, .int (x)]) (vp_Si (fun r => r = (oI (f_scan fd x 192 0 0)))) 0 0 (fun _ => False) := by
  refine Met.ofW (cc := cX5_number) (maxL := 4) (ret := (some .int)) (by decide) rfl ?_
  intro p e s m args below meth c s₁ B hml hv
  obtain ⟨hargs, hP, hK⟩ := hv
  have hx := B.exec
  have hb := B.bytes
  have hr := B.returns
  have hts : ∀ w ∈ qW, w.before args s = true := fun w h => atoms_spec (ws := wkX5_number) B.pre w (List.mem_cons_of_mem _ h)
  have hown : s.vm.findClass RX5 = some m.cls := findClass_of_methodNamed B.named
  have hlocks := B.notSynchronized
  refine q_named (fun Q hQ => ?_)
  refine q_entry hargs (Nat.le_of_ble_eq_true rfl) (fun ls hl => ?_)
  have hl : lv_has ls 4 [(0, .ref q0), (1, .int (x))] := hl
  refine lv_iconst (v := (nI (0))) hx hb dX5_number_0 (by decide) ?_
  refine lv_istore_n (lv' := [(2, .int (nI (0))), (0, .ref q0), (1, .int (x))]) hx hb dX5_number_1 rfl hl (by decide) rfl (fun ls hl => ?_)
  refine lv_iconst (v := (nI (0))) hx hb dX5_number_2 (by decide) ?_
  refine lv_istore_n (lv' := [(3, .int (nI (0))), (2, .int (nI (0))), (0, .ref q0), (1, .int (x))]) hx hb dX5_number_3 rfl hl (by decide) rfl (fun ls hl => ?_)
  have L4 : ∀ (fu : Nat) (cn : Nat) (i : Nat) (ls : Array Slot), 192 - i < fu → (f_scan fd x 192 0 0 = f_scan fd x (192 - i) i cn) → (i ≤ 192) → lv_has ls 4 [(3, .int (nI (i))), (2, .int (nI (cn))), (0, .ref q0), (1, .int (x))] → W p l e (headSpec wkX5_number rm_c_Question_number).room s m args below meth c s.heap [] 0 0 Q (F0 m 4 ls []) := by
    intro fu
    induction fu with
    | zero => intro cn i ls hmu; exact absurd hmu (Nat.not_lt_zero _)
    | succ fu ih4 =>
      intro cn i ls hmu hc hi hl
      refine lv_iload_n hx hb dX5_number_4 rfl (lv_at hl 0 rfl) ?_
      refine lv_sipush (v := (nI (192))) hx hb dX5_number_5 (by decide) ?_
      refine q_icmp_ge (x := i) (y := 192) (tgt := 37) hx hb dX5_number_8 (by decide) (by omega) (by omega) (fun c8_1 => ?_) (fun c8_1 => ?_)
      · refine lv_iconst (v := (oI (none))) hx hb dX5_number_37 (by decide) ?_
        subst hQ
        exact W.iret (v := (oI (none))) hx hb hr (fun t9 h9 _ => ⟨_, rfl, show (oI (none)) = (oI (f_scan fd x 192 0 0)) from by (rw [hc, show 192 - i = 0 by omega]; rfl), h9⟩) (fun q hq => by cases hq) dX5_number_38
      · refine lv_aload_n hx hb dX5_number_11 rfl (lv_at hl 2 rfl) ?_
        refine va_get (D := (dC, dI)) (ci := 5) (v := .ref fa) (C := RX5) (T := TX5) (N := 8) hx hb hts uX5 hown hK hP 0 rfl rfl 6 (by decide) (hts _ kfX5_36) (fun _ h9 => h9) rfl dX5_number_12 ?_
        refine lv_iload_n hx hb dX5_number_15 rfl (lv_at hl 0 rfl) ?_
        refine q_ialdO hx hb hK hP 1 0 rfl rfl (j := i) (by omega) (by omega) dX5_number_16 ?_
        refine lv_iconst (v := (oI (none))) hx hb dX5_number_17 (by decide) ?_
        refine q_icmpO_eq (x := fd i) (tgt := 31) hx hb dX5_number_18 (by decide) (by (intro k9 h9; have := hfd _ _ h9; omega)) (fun c18_2 => ?_) (fun c18_2 => ?_)
        · refine lv_iinc (v := (nI (i + 1))) (lv' := [(3, .int (nI (i + 1))), (2, .int (nI (cn))), (0, .ref q0), (1, .int (x))]) hx hb dX5_number_31 hl (k := 0) rfl (q_inc _) (by decide) rfl (fun ls hl => ?_)
          refine lv_goto (tgt := 4) hx hb dX5_number_34 (by decide) ?_
          exact ih4 cn (i + 1) ls (by omega) (show f_scan fd x 192 0 0 = f_scan fd x (192 - (i + 1)) (i + 1) cn from by (rw [hc, show 192 - i = (192 - (i + 1)) + 1 by omega]; simp [f_scan, *])) (show (i + 1) ≤ 192 from by omega) (lv_sub hl [0, 1, 2, 3] rfl)
        · refine lv_iload_n hx hb dX5_number_21 rfl (lv_at hl 1 rfl) ?_
          refine lv_iload_n hx hb dX5_number_22 rfl (lv_at hl 3 rfl) ?_
          refine lv_icmp_ne (tgt := 28) hx hb dX5_number_23 (by decide) (fun c23_3 => ?_) (fun c23_3 => ?_)
          · refine lv_iinc (v := (nI (cn + 1))) (lv' := [(2, .int (nI (cn + 1))), (3, .int (nI (i))), (0, .ref q0), (1, .int (x))]) hx hb dX5_number_28 hl (k := 1) rfl (q_inc _) (by decide) rfl (fun ls hl => ?_)
            refine lv_iinc (v := (nI (i + 1))) (lv' := [(3, .int (nI (i + 1))), (2, .int (nI (cn + 1))), (0, .ref q0), (1, .int (x))]) hx hb dX5_number_31 hl (k := 1) rfl (q_inc _) (by decide) rfl (fun ls hl => ?_)
            refine lv_goto (tgt := 4) hx hb dX5_number_34 (by decide) ?_
            exact ih4 (cn + 1) (i + 1) ls (by omega) (show f_scan fd x 192 0 0 = f_scan fd x (192 - (i + 1)) (i + 1) (cn + 1) from by (rw [hc, show 192 - i = (192 - (i + 1)) + 1 by omega]; simp [f_scan, *])) (show (i + 1) ≤ 192 from by omega) (lv_sub hl [0, 1, 2, 3] rfl)
          · refine lv_iload_n hx hb dX5_number_26 rfl (lv_at hl 0 rfl) ?_
            subst hQ
            exact W.iret (v := (nI (i))) hx hb hr (fun t9 h9 _ => ⟨_, rfl, show (nI (i)) = (oI (f_scan fd x 192 0 0)) from by (rw [hc, show 192 - i = (192 - (i + 1)) + 1 by omega]; simp [f_scan, *]; rfl), h9⟩) (fun q hq => by cases hq) dX5_number_27
  exact L4 _ 0 0 ls (by exact Nat.lt_succ_self _) (show f_scan fd x 192 0 0 = f_scan fd x (192 - 0) 0 0 from by rfl) (show 0 ≤ 192 from by omega) (lv_sub hl [0, 1, 2, 3] rfl)
abbrev rm_c_Facts_has : Room := { frames := 1, cells := 0, slots := 0, locals := 21 }
set_option maxHeartbeats 4000000 in
set_option maxRecDepth 100000 in
theorem c_Facts_has (l : Launch) (dC : Nat → ClassId) (dI : Nat → Nat → Nat) (cI cL cQ cZ : ClassId) (h0 : Nat) (m1 : Nat) (t1 : Nat) (s1 : Nat) (st1 : Nat) (e1 : Nat) (fs : Nat) (mb : Nat → Nat) (tg : Nat → Nat) (sr : Nat → Nat) (sta : Nat → Nat) (en : Nat → Nat) (ro : Bool) (x : Nat) (a : Nat) (b : Int32) (hx9 : x < if ro = true then 8 else 10) (ha9 : a < 12) (hb9 : ro = true → ∃ j, j < 12 ∧ b = nI j) (hmb : ∀ j, mb j < 4096) (htg : ∀ j, tg j < 4096) (hsr : ∀ j, sr j < 4096) (hsta : ∀ j, sta j < 4096) (hen : ∀ j, en j < 4096) : Met l yX1_has wkX1_has rm_c_Facts_has (q_R (dC, dI) qCl (qT cI cL cQ cZ) [(h0, .inr (1, [.ref m1, .ref t1, .ref s1, .ref st1, .ref e1, .int (nI (fs))])), (m1, .inl (cI, 10, .inl (nF mb))), (t1, .inl (cI, 96, .inl (nF tg))), (s1, .inl (cI, 96, .inl (nF sr))), (st1, .inl (cI, 8, .inl (nF sta))), (e1, .inl (cI, 8, .inl (nF en)))] [.ref h0, .int (bI (ro)), .int (nI (x)), .int (nI (a)), .int (b)]) (vp_Si (fun r => r = (bI (f_fhas ro mb tg x a b)))) 0 0 (fun _ => False) := by
  refine Met.ofW (cc := cX1_has) (maxL := 5) (ret := (some .boolean)) (by decide) rfl ?_
  intro p e s m args below meth c s₁ B hml hv
  obtain ⟨hargs, hP, hK⟩ := hv
  have hx := B.exec
  have hb := B.bytes
  have hr := B.returns
  have hts : ∀ w ∈ qW, w.before args s = true := fun w h => atoms_spec (ws := wkX1_has) B.pre w (List.mem_cons_of_mem _ h)
  have hown : s.vm.findClass RX1 = some m.cls := findClass_of_methodNamed B.named
  have hlocks := B.notSynchronized
  refine q_named (fun Q hQ => ?_)
  refine q_entry hargs (Nat.le_of_ble_eq_true rfl) (fun ls hl => ?_)
  have hl : lv_has ls 5 [(0, .ref h0), (1, .int (bI (ro))), (2, .int (nI (x))), (3, .int (nI (a))), (4, .int (b))] := hl
  refine lv_iload_n hx hb dX1_has_0 rfl (lv_at hl 1 rfl) ?_
  refine q_ifb_eq (b := ro) (tgt := 23) hx hb dX1_has_1 (by decide) (fun c1_1 => ?_) (fun c1_1 => ?_)
  · rw [if_neg (by simp_all)] at hx9
    refine lv_iload_n hx hb dX1_has_23 rfl (lv_at hl 3 rfl) ?_
    refine lv_aload_n hx hb dX1_has_24 rfl (lv_at hl 0 rfl) ?_
    refine va_get (D := (dC, dI)) (ci := 1) (v := .ref m1) (C := RX1) (T := TX1) (N := 6) hx hb hts uX1 hown hK hP 0 rfl rfl 0 (by decide) (hts _ kfX1_9) (fun _ h9 => h9) rfl dX1_has_25 ?_
    refine lv_iload_n hx hb dX1_has_28 rfl (lv_at hl 2 rfl) ?_
    refine q_ialdN hx hb hK hP 1 0 rfl rfl (j := x) (by omega) (by omega) dX1_has_29 ?_
    have bd2 := hmb x
    refine vp_callSi (va_Run.run (va_runS (As := [.int (nI (a)), .int (nI (mb x))]) (rest := []) ⟨hx, hb, hml, hown, hts⟩ (c_Facts_isIn l dC dI cI cL cQ cZ a (mb x) (show (mb x) < 4096 from by first | assumption | omega) (show a < 12 from by first | assumption | omega)) (q_cwS 2 hts gkX1_isIn kmX1_31 ksX1_isIn kiX1 rfl rfl rfl (by decide +kernel) ⟨Nat.le_of_ble_eq_true rfl, Nat.le_of_ble_eq_true rfl⟩) (q_preS hK hP [] rfl) rfl rfl hl.1 rfl (lv_room (Nat.le_of_ble_eq_true rfl)) dX1_has_30 ⟨Nat.zero_le _, Nat.zero_le _⟩)) (fun r3 hr3 => ?_)
    subst hr3
    subst hQ
    exact W.zret (v := (bI ((mb x).testBit a))) hx hb hr (bI_nar _) (fun t9 h9 _ => ⟨_, rfl, congrArg bI (show (mb x).testBit a = f_fhas ro mb tg x a b from by (first | (rw [f_fhas, if_pos (by assumption), ebj, nI_clamp (by omega)]) | (rw [f_fhas, if_neg (by simp_all)]))), h9⟩) (fun q hq => by cases hq) dX1_has_33
  · rw [if_pos (by assumption)] at hx9
    obtain ⟨bj, hbj, ebj⟩ := hb9 (by assumption)
    have hl := lv_updv hl 4 rfl (show (.int (b) : Value) = .int (nI (bj)) from (congrArg Value.int ebj))
    have hl : lv_has ls 5 [(0, .ref h0), (1, .int (bI (ro))), (2, .int (nI (x))), (3, .int (nI (a))), (4, .int (nI (bj)))] := hl
    refine lv_iload hx hb dX1_has_4 (lv_at hl 4 rfl) ?_
    refine lv_aload_n hx hb dX1_has_6 rfl (lv_at hl 0 rfl) ?_
    refine va_get (D := (dC, dI)) (ci := 1) (v := .ref t1) (C := RX1) (T := TX1) (N := 6) hx hb hts uX1 hown hK hP 0 rfl rfl 1 (by decide) (hts _ kfX1_15) (fun _ h9 => h9) rfl dX1_has_7 ?_
    refine lv_iload_n hx hb dX1_has_10 rfl (lv_at hl 2 rfl) ?_
    refine lv_bipush (v := (nI (12))) hx hb dX1_has_11 (by decide) ?_
    refine q_imul (x := x) (y := 12) hx hb dX1_has_13 ?_
    refine lv_iload_n hx hb dX1_has_14 rfl (lv_at hl 3 rfl) ?_
    refine q_iadd (x := x * 12) (y := a) hx hb dX1_has_15 ?_
    refine q_ialdN hx hb hK hP 2 0 rfl rfl (j := (x * 12) + a) (by omega) (by omega) dX1_has_16 ?_
    have bd4 := htg ((x * 12) + a)
    refine vp_callSi (va_Run.run (va_runS (As := [.int (nI (bj)), .int (nI (tg ((x * 12) + a)))]) (rest := []) ⟨hx, hb, hml, hown, hts⟩ (c_Facts_isIn l dC dI cI cL cQ cZ bj (tg ((x * 12) + a)) (show (tg ((x * 12) + a)) < 4096 from by first | assumption | omega) (show bj < 12 from by first | assumption | omega)) (q_cwS 2 hts gkX1_isIn kmX1_31 ksX1_isIn kiX1 rfl rfl rfl (by decide +kernel) ⟨Nat.le_of_ble_eq_true rfl, Nat.le_of_ble_eq_true rfl⟩) (q_preS hK hP [] rfl) rfl rfl hl.1 rfl (lv_room (Nat.le_of_ble_eq_true rfl)) dX1_has_17 ⟨Nat.zero_le _, Nat.zero_le _⟩)) (fun r5 hr5 => ?_)
    subst hr5
    refine lv_goto (tgt := 33) hx hb dX1_has_20 (by decide) ?_
    subst hQ
    exact W.zret (v := (bI ((tg ((x * 12) + a)).testBit bj))) hx hb hr (bI_nar _) (fun t9 h9 _ => ⟨_, rfl, congrArg bI (show (tg ((x * 12) + a)).testBit bj = f_fhas ro mb tg x a b from by (first | (rw [f_fhas, if_pos (by assumption), ebj, nI_clamp (by omega)]) | (rw [f_fhas, if_neg (by simp_all)]))), h9⟩) (fun q hq => by cases hq) dX1_has_33
abbrev rm_c_Facts_loops : Room := { frames := 0, cells := 0, slots := 0, locals := 0 }
set_option maxHeartbeats 4000000 in
set_option maxRecDepth 100000 in
theorem c_Facts_loops (l : Launch) (dC : Nat → ClassId) (dI : Nat → Nat → Nat) (cI cL cQ cZ : ClassId) (h0 : Nat) (m1 : Nat) (t1 : Nat) (s1 : Nat) (st1 : Nat) (e1 : Nat) (fs : Nat) (mb : Nat → Nat) (tg : Nat → Nat) (sr : Nat → Nat) (sta : Nat → Nat) (en : Nat → Nat) (x : Nat) (hx9 : x < 8) (hmb : ∀ j, mb j < 4096) (htg : ∀ j, tg j < 4096) (hsr : ∀ j, sr j < 4096) (hsta : ∀ j, sta j < 4096) (hen : ∀ j, en j < 4096) : Met l yX1_loops wkX1_loops rm_c_Facts_loops (q_R (dC, dI) qCl (qT cI cL cQ cZ) [(h0, .inr (1, [.ref m1, .ref t1, .ref s1, .ref st1, .ref e1, .int (nI (fs))])), (m1, .inl (cI, 10, .inl (nF mb))), (t1, .inl (cI, 96, .inl (nF tg))), (s1, .inl (cI, 96, .inl (nF sr))), (st1, .inl (cI, 8, .inl (nF sta))), (e1, .inl (cI, 8, .inl (nF en)))] [.ref h0, .int (nI (x))]) (vp_Si (fun r => ∃ y9, r = nI y9 ∧ f_lps tg x y9 12)) 0 0 (fun _ => False) := by
  refine Met.ofW (cc := cX1_loops) (maxL := 4) (ret := (some .int)) (by decide) rfl ?_
  intro p e s m args below meth c s₁ B hml hv
  obtain ⟨hargs, hP, hK⟩ := hv
  have hx := B.exec
  have hb := B.bytes
  have hr := B.returns
  have hts : ∀ w ∈ qW, w.before args s = true := fun w h => atoms_spec (ws := wkX1_loops) B.pre w (List.mem_cons_of_mem _ h)
  have hown : s.vm.findClass RX1 = some m.cls := findClass_of_methodNamed B.named
  have hlocks := B.notSynchronized
  refine q_named (fun Q hQ => ?_)
  refine q_entry hargs (Nat.le_of_ble_eq_true rfl) (fun ls hl => ?_)
  have hl : lv_has ls 4 [(0, .ref h0), (1, .int (nI (x)))] := hl
  refine lv_iconst (v := (nI (0))) hx hb dX1_loops_0 (by decide) ?_
  refine lv_istore_n (lv' := [(2, .int (nI (0))), (0, .ref h0), (1, .int (nI (x)))]) hx hb dX1_loops_1 rfl hl (by decide) rfl (fun ls hl => ?_)
  refine lv_iconst (v := (nI (0))) hx hb dX1_loops_2 (by decide) ?_
  refine lv_istore_n (lv' := [(3, .int (nI (0))), (2, .int (nI (0))), (0, .ref h0), (1, .int (nI (x)))]) hx hb dX1_loops_3 rfl hl (by decide) rfl (fun ls hl => ?_)
  have L4 : ∀ (fu : Nat) (y : Nat) (i : Nat) (ls : Array Slot), 12 - i < fu → (f_lps tg x y i) → (i ≤ 12) → lv_has ls 4 [(3, .int (nI (i))), (2, .int (nI (y))), (0, .ref h0), (1, .int (nI (x)))] → W p l e (headSpec wkX1_loops rm_c_Facts_loops).room s m args below meth c s.heap [] 0 0 Q (F0 m 4 ls []) := by
    intro fu
    induction fu with
    | zero => intro y i ls hmu; exact absurd hmu (Nat.not_lt_zero _)
    | succ fu ih4 =>
      intro y i ls hmu hy hi hl
      refine lv_iload_n hx hb dX1_loops_4 rfl (lv_at hl 0 rfl) ?_
      refine lv_bipush (v := (nI (12))) hx hb dX1_loops_5 (by decide) ?_
      refine q_icmp_ge (x := i) (y := 12) (tgt := 34) hx hb dX1_loops_7 (by decide) (by omega) (by omega) (fun c7_1 => ?_) (fun c7_1 => ?_)
      · refine lv_iload_n hx hb dX1_loops_34 rfl (lv_at hl 1 rfl) ?_
        subst hQ
        exact W.iret (v := (nI (y))) hx hb hr (fun t9 h9 _ => ⟨_, rfl, show ∃ y9, (nI (y)) = nI y9 ∧ f_lps tg x y9 12 from by (exact ⟨y, rfl, by rw [show 12 = i by omega]; exact hy⟩), h9⟩) (fun q hq => by cases hq) dX1_loops_35
      · refine lv_iload_n hx hb dX1_loops_10 rfl (lv_at hl 1 rfl) ?_
        refine lv_aload_n hx hb dX1_loops_11 rfl (lv_at hl 2 rfl) ?_
        refine va_get (D := (dC, dI)) (ci := 1) (v := .ref t1) (C := RX1) (T := TX1) (N := 6) hx hb hts uX1 hown hK hP 0 rfl rfl 1 (by decide) (hts _ kfX1_15) (fun _ h9 => h9) rfl dX1_loops_12 ?_
        refine lv_iload_n hx hb dX1_loops_15 rfl (lv_at hl 3 rfl) ?_
        refine lv_bipush (v := (nI (12))) hx hb dX1_loops_16 (by decide) ?_
        refine q_imul (x := x) (y := 12) hx hb dX1_loops_18 ?_
        refine lv_iload_n hx hb dX1_loops_19 rfl (lv_at hl 0 rfl) ?_
        refine q_iadd (x := x * 12) (y := i) hx hb dX1_loops_20 ?_
        refine q_ialdN hx hb hK hP 2 0 rfl rfl (j := (x * 12) + i) (by omega) (by omega) dX1_loops_21 ?_
        have bd2 := htg ((x * 12) + i)
        refine lv_iconst (v := (nI (1))) hx hb dX1_loops_22 (by decide) ?_
        refine lv_iload_n hx hb dX1_loops_23 rfl (lv_at hl 0 rfl) ?_
        refine lv_ishl hx hb dX1_loops_24 ?_
        refine q_top (show ((nI (1)) <<< ((nI (i)) &&& 31)) = (nI (2 ^ i)) from (one_shl (by omega))) ?_
        refine lv_iand hx hb dX1_loops_25 ?_
        refine q_top (show ((nI (tg ((x * 12) + i))) &&& (nI (2 ^ i))) = (nI (tg (x * 12 + i) &&& 2 ^ i)) from (nI_and _ _)) ?_
        refine lv_ior hx hb dX1_loops_26 ?_
        refine q_top (show ((nI (y)) ||| (nI (tg (x * 12 + i) &&& 2 ^ i))) = (nI (y ||| tg (x * 12 + i) &&& 2 ^ i)) from (nI_or _ _)) ?_
        refine lv_istore_n (lv' := [(2, .int (nI (y ||| tg (x * 12 + i) &&& 2 ^ i))), (3, .int (nI (i))), (0, .ref h0), (1, .int (nI (x)))]) hx hb dX1_loops_27 rfl hl (by decide) rfl (fun ls hl => ?_)
        refine lv_iinc (v := (nI (i + 1))) (lv' := [(3, .int (nI (i + 1))), (2, .int (nI (y ||| tg (x * 12 + i) &&& 2 ^ i))), (0, .ref h0), (1, .int (nI (x)))]) hx hb dX1_loops_28 hl (k := 1) rfl (q_inc _) (by decide) rfl (fun ls hl => ?_)
        refine lv_goto (tgt := 4) hx hb dX1_loops_31 (by decide) ?_
        exact ih4 (y ||| tg (x * 12 + i) &&& 2 ^ i) (i + 1) ls (by omega) (show f_lps tg x (y ||| tg (x * 12 + i) &&& 2 ^ i) (i + 1) from by (exact f_lps_s hy (htg _) (by omega))) (show (i + 1) ≤ 12 from by omega) (lv_sub hl [0, 1, 2, 3] rfl)
  exact L4 _ 0 0 ls (by exact Nat.lt_succ_self _) (show f_lps tg x 0 0 from by (exact f_lps_0 tg x)) (show 0 ≤ 12 from by omega) (lv_sub hl [0, 1, 2, 3] rfl)
