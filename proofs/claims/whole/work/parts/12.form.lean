abbrev cX3_timesOf : ByteArray := prog_5_method_14_code
def yX3_timesOf : MethodName := ⟨RX3, "timesOf", "(I)I"⟩
def wkX3_timesOf : List Cond := .code yX3_timesOf cX3_timesOf 4 (some .int) :: qW
set_option maxRecDepth 40000 in
theorem gkX3_timesOf : GoodIn qW wkX3_timesOf := q_good (qw 398 rfl rfl)
set_option maxRecDepth 40000 in
theorem knX3_timesOf : Cond.instanceMethod yX3_timesOf ∈ qW := qw 396 rfl rfl
set_option maxRecDepth 40000 in
theorem klX3_timesOf : Cond.selects RX3 yX3_timesOf yX3_timesOf ∈ qW := qw 397 rfl rfl
theorem dX3_timesOf_0 : decode cX3_timesOf 0 = .ok (.iconst 0, 1) := by decide +kernel
theorem dX3_timesOf_1 : decode cX3_timesOf 1 = .ok (.istore_n 2, 1) := by decide +kernel
theorem dX3_timesOf_2 : decode cX3_timesOf 2 = .ok (.iconst 0, 1) := by decide +kernel
theorem dX3_timesOf_3 : decode cX3_timesOf 3 = .ok (.istore_n 3, 1) := by decide +kernel
theorem dX3_timesOf_4 : decode cX3_timesOf 4 = .ok (.iload_n 3, 1) := by decide +kernel
theorem dX3_timesOf_5 : decode cX3_timesOf 5 = .ok (.iconst 2, 1) := by decide +kernel
theorem dX3_timesOf_6 : decode cX3_timesOf 6 = .ok (.aload_n 0, 1) := by decide +kernel
theorem dX3_timesOf_7 : decode cX3_timesOf 7 = .ok (.getfield 18, 3) := by decide +kernel
theorem dX3_timesOf_10 : decode cX3_timesOf 10 = .ok (.imul, 1) := by decide +kernel
theorem dX3_timesOf_11 : decode cX3_timesOf 11 = .ok (.if_icmp .ge 22, 3) := by decide +kernel
theorem dX3_timesOf_14 : decode cX3_timesOf 14 = .ok (.aload_n 0, 1) := by decide +kernel
theorem dX3_timesOf_15 : decode cX3_timesOf 15 = .ok (.getfield 15, 3) := by decide +kernel
theorem dX3_timesOf_18 : decode cX3_timesOf 18 = .ok (.iload_n 3, 1) := by decide +kernel
theorem dX3_timesOf_19 : decode cX3_timesOf 19 = .ok (.iaload, 1) := by decide +kernel
theorem dX3_timesOf_20 : decode cX3_timesOf 20 = .ok (.iload_n 1, 1) := by decide +kernel
theorem dX3_timesOf_21 : decode cX3_timesOf 21 = .ok (.if_icmp .ne 6, 3) := by decide +kernel
theorem dX3_timesOf_24 : decode cX3_timesOf 24 = .ok (.iinc 2 1, 3) := by decide +kernel
theorem dX3_timesOf_27 : decode cX3_timesOf 27 = .ok (.iinc 3 1, 3) := by decide +kernel
theorem dX3_timesOf_30 : decode cX3_timesOf 30 = .ok (.goto (-26), 3) := by decide +kernel
theorem dX3_timesOf_33 : decode cX3_timesOf 33 = .ok (.iload_n 2, 1) := by decide +kernel
theorem dX3_timesOf_34 : decode cX3_timesOf 34 = .ok (.ireturn, 1) := by decide +kernel
abbrev cX3_holds : ByteArray := prog_5_method_13_code
def yX3_holds : MethodName := ⟨RX3, "holds", "(III)Z"⟩
def wkX3_holds : List Cond := .code yX3_holds cX3_holds 5 (some .boolean) :: qW
set_option maxRecDepth 40000 in
theorem gkX3_holds : GoodIn qW wkX3_holds := q_good (qw 353 rfl rfl)
set_option maxRecDepth 40000 in
theorem knX3_holds : Cond.instanceMethod yX3_holds ∈ qW := qw 351 rfl rfl
set_option maxRecDepth 40000 in
theorem klX3_holds : Cond.selects RX3 yX3_holds yX3_holds ∈ qW := qw 352 rfl rfl
theorem dX3_holds_0 : decode cX3_holds 0 = .ok (.iconst 0, 1) := by decide +kernel
theorem dX3_holds_1 : decode cX3_holds 1 = .ok (.istore 4, 2) := by decide +kernel
theorem dX3_holds_3 : decode cX3_holds 3 = .ok (.iload 4, 2) := by decide +kernel
theorem dX3_holds_5 : decode cX3_holds 5 = .ok (.aload_n 0, 1) := by decide +kernel
theorem dX3_holds_6 : decode cX3_holds 6 = .ok (.getfield 18, 3) := by decide +kernel
theorem dX3_holds_9 : decode cX3_holds 9 = .ok (.if_icmp .ge 50, 3) := by decide +kernel
theorem dX3_holds_12 : decode cX3_holds 12 = .ok (.aload_n 0, 1) := by decide +kernel
theorem dX3_holds_13 : decode cX3_holds 13 = .ok (.getfield 11, 3) := by decide +kernel
theorem dX3_holds_16 : decode cX3_holds 16 = .ok (.iload 4, 2) := by decide +kernel
theorem dX3_holds_18 : decode cX3_holds 18 = .ok (.iaload, 1) := by decide +kernel
theorem dX3_holds_19 : decode cX3_holds 19 = .ok (.iload_n 1, 1) := by decide +kernel
theorem dX3_holds_20 : decode cX3_holds 20 = .ok (.if_icmp .ne 33, 3) := by decide +kernel
theorem dX3_holds_23 : decode cX3_holds 23 = .ok (.aload_n 0, 1) := by decide +kernel
theorem dX3_holds_24 : decode cX3_holds 24 = .ok (.getfield 15, 3) := by decide +kernel
theorem dX3_holds_27 : decode cX3_holds 27 = .ok (.iconst 2, 1) := by decide +kernel
theorem dX3_holds_28 : decode cX3_holds 28 = .ok (.iload 4, 2) := by decide +kernel
theorem dX3_holds_30 : decode cX3_holds 30 = .ok (.imul, 1) := by decide +kernel
theorem dX3_holds_31 : decode cX3_holds 31 = .ok (.iaload, 1) := by decide +kernel
theorem dX3_holds_32 : decode cX3_holds 32 = .ok (.iload_n 2, 1) := by decide +kernel
theorem dX3_holds_33 : decode cX3_holds 33 = .ok (.if_icmp .ne 20, 3) := by decide +kernel
theorem dX3_holds_36 : decode cX3_holds 36 = .ok (.aload_n 0, 1) := by decide +kernel
theorem dX3_holds_37 : decode cX3_holds 37 = .ok (.getfield 15, 3) := by decide +kernel
theorem dX3_holds_40 : decode cX3_holds 40 = .ok (.iconst 2, 1) := by decide +kernel
theorem dX3_holds_41 : decode cX3_holds 41 = .ok (.iload 4, 2) := by decide +kernel
theorem dX3_holds_43 : decode cX3_holds 43 = .ok (.imul, 1) := by decide +kernel
theorem dX3_holds_44 : decode cX3_holds 44 = .ok (.iconst 1, 1) := by decide +kernel
theorem dX3_holds_45 : decode cX3_holds 45 = .ok (.iadd, 1) := by decide +kernel
theorem dX3_holds_46 : decode cX3_holds 46 = .ok (.iaload, 1) := by decide +kernel
theorem dX3_holds_47 : decode cX3_holds 47 = .ok (.iload_n 3, 1) := by decide +kernel
theorem dX3_holds_48 : decode cX3_holds 48 = .ok (.if_icmp .ne 5, 3) := by decide +kernel
theorem dX3_holds_51 : decode cX3_holds 51 = .ok (.iconst 1, 1) := by decide +kernel
theorem dX3_holds_52 : decode cX3_holds 52 = .ok (.ireturn, 1) := by decide +kernel
theorem dX3_holds_53 : decode cX3_holds 53 = .ok (.iinc 4 1, 3) := by decide +kernel
theorem dX3_holds_56 : decode cX3_holds 56 = .ok (.goto (-53), 3) := by decide +kernel
theorem dX3_holds_59 : decode cX3_holds 59 = .ok (.iconst 0, 1) := by decide +kernel
theorem dX3_holds_60 : decode cX3_holds 60 = .ok (.ireturn, 1) := by decide +kernel
abbrev cX3_put : ByteArray := prog_5_method_8_code
def yX3_put : MethodName := ⟨RX3, "put", "(IIII)V"⟩
def wkX3_put : List Cond := .code yX3_put cX3_put 5 none :: qW
set_option maxRecDepth 40000 in
theorem gkX3_put : GoodIn qW wkX3_put := q_good (qw 361 rfl rfl)
set_option maxRecDepth 40000 in
theorem knX3_put : Cond.instanceMethod yX3_put ∈ qW := qw 359 rfl rfl
set_option maxRecDepth 40000 in
theorem klX3_put : Cond.selects RX3 yX3_put yX3_put ∈ qW := qw 360 rfl rfl
theorem dX3_put_0 : decode cX3_put 0 = .ok (.aload_n 0, 1) := by decide +kernel
theorem dX3_put_1 : decode cX3_put 1 = .ok (.getfield 11, 3) := by decide +kernel
theorem dX3_put_4 : decode cX3_put 4 = .ok (.iload_n 1, 1) := by decide +kernel
theorem dX3_put_5 : decode cX3_put 5 = .ok (.iload_n 2, 1) := by decide +kernel
theorem dX3_put_6 : decode cX3_put 6 = .ok (.iastore, 1) := by decide +kernel
theorem dX3_put_7 : decode cX3_put 7 = .ok (.aload_n 0, 1) := by decide +kernel
theorem dX3_put_8 : decode cX3_put 8 = .ok (.getfield 15, 3) := by decide +kernel
theorem dX3_put_11 : decode cX3_put 11 = .ok (.iconst 2, 1) := by decide +kernel
theorem dX3_put_12 : decode cX3_put 12 = .ok (.iload_n 1, 1) := by decide +kernel
theorem dX3_put_13 : decode cX3_put 13 = .ok (.imul, 1) := by decide +kernel
theorem dX3_put_14 : decode cX3_put 14 = .ok (.iload_n 3, 1) := by decide +kernel
theorem dX3_put_15 : decode cX3_put 15 = .ok (.iastore, 1) := by decide +kernel
theorem dX3_put_16 : decode cX3_put 16 = .ok (.aload_n 0, 1) := by decide +kernel
theorem dX3_put_17 : decode cX3_put 17 = .ok (.getfield 15, 3) := by decide +kernel
theorem dX3_put_20 : decode cX3_put 20 = .ok (.iconst 2, 1) := by decide +kernel
theorem dX3_put_21 : decode cX3_put 21 = .ok (.iload_n 1, 1) := by decide +kernel
theorem dX3_put_22 : decode cX3_put 22 = .ok (.imul, 1) := by decide +kernel
theorem dX3_put_23 : decode cX3_put 23 = .ok (.iconst 1, 1) := by decide +kernel
theorem dX3_put_24 : decode cX3_put 24 = .ok (.iadd, 1) := by decide +kernel
theorem dX3_put_25 : decode cX3_put 25 = .ok (.iload 4, 2) := by decide +kernel
theorem dX3_put_27 : decode cX3_put 27 = .ok (.iastore, 1) := by decide +kernel
theorem dX3_put_28 : decode cX3_put 28 = .ok (.return_, 1) := by decide +kernel
abbrev cX3_putWay : ByteArray := prog_5_method_10_code
def yX3_putWay : MethodName := ⟨RX3, "putWay", "(IIII)V"⟩
def wkX3_putWay : List Cond := .code yX3_putWay cX3_putWay 5 none :: qW
set_option maxRecDepth 40000 in
theorem gkX3_putWay : GoodIn qW wkX3_putWay := q_good (qw 458 rfl rfl)
set_option maxRecDepth 40000 in
theorem knX3_putWay : Cond.instanceMethod yX3_putWay ∈ qW := qw 456 rfl rfl
set_option maxRecDepth 40000 in
theorem klX3_putWay : Cond.selects RX3 yX3_putWay yX3_putWay ∈ qW := qw 457 rfl rfl
theorem dX3_putWay_0 : decode cX3_putWay 0 = .ok (.iload_n 2, 1) := by decide +kernel
theorem dX3_putWay_1 : decode cX3_putWay 1 = .ok (.iconst 2, 1) := by decide +kernel
theorem dX3_putWay_2 : decode cX3_putWay 2 = .ok (.irem, 1) := by decide +kernel
theorem dX3_putWay_3 : decode cX3_putWay 3 = .ok (.ifCond .ne 20, 3) := by decide +kernel
theorem dX3_putWay_6 : decode cX3_putWay 6 = .ok (.aload_n 0, 1) := by decide +kernel
theorem dX3_putWay_7 : decode cX3_putWay 7 = .ok (.iload_n 1, 1) := by decide +kernel
theorem dX3_putWay_8 : decode cX3_putWay 8 = .ok (.bipush 32, 2) := by decide +kernel
theorem dX3_putWay_10 : decode cX3_putWay 10 = .ok (.iload_n 2, 1) := by decide +kernel
theorem dX3_putWay_11 : decode cX3_putWay 11 = .ok (.iconst 2, 1) := by decide +kernel
theorem dX3_putWay_12 : decode cX3_putWay 12 = .ok (.idiv, 1) := by decide +kernel
theorem dX3_putWay_13 : decode cX3_putWay 13 = .ok (.iadd, 1) := by decide +kernel
theorem dX3_putWay_14 : decode cX3_putWay 14 = .ok (.iload_n 3, 1) := by decide +kernel
theorem dX3_putWay_15 : decode cX3_putWay 15 = .ok (.iload 4, 2) := by decide +kernel
theorem dX3_putWay_17 : decode cX3_putWay 17 = .ok (.invokevirtual 46, 3) := by decide +kernel
theorem dX3_putWay_20 : decode cX3_putWay 20 = .ok (.goto 17, 3) := by decide +kernel
theorem dX3_putWay_23 : decode cX3_putWay 23 = .ok (.aload_n 0, 1) := by decide +kernel
theorem dX3_putWay_24 : decode cX3_putWay 24 = .ok (.iload_n 1, 1) := by decide +kernel
theorem dX3_putWay_25 : decode cX3_putWay 25 = .ok (.bipush 32, 2) := by decide +kernel
theorem dX3_putWay_27 : decode cX3_putWay 27 = .ok (.iload_n 2, 1) := by decide +kernel
theorem dX3_putWay_28 : decode cX3_putWay 28 = .ok (.iconst 2, 1) := by decide +kernel
theorem dX3_putWay_29 : decode cX3_putWay 29 = .ok (.idiv, 1) := by decide +kernel
theorem dX3_putWay_30 : decode cX3_putWay 30 = .ok (.iadd, 1) := by decide +kernel
theorem dX3_putWay_31 : decode cX3_putWay 31 = .ok (.iload 4, 2) := by decide +kernel
theorem dX3_putWay_33 : decode cX3_putWay 33 = .ok (.iload_n 3, 1) := by decide +kernel
theorem dX3_putWay_34 : decode cX3_putWay 34 = .ok (.invokevirtual 46, 3) := by decide +kernel
theorem dX3_putWay_37 : decode cX3_putWay 37 = .ok (.return_, 1) := by decide +kernel
abbrev cX3_putSort : ByteArray := prog_5_method_9_code
def yX3_putSort : MethodName := ⟨RX3, "putSort", "(III)V"⟩
def wkX3_putSort : List Cond := .code yX3_putSort cX3_putSort 4 none :: qW
set_option maxRecDepth 40000 in
theorem gkX3_putSort : GoodIn qW wkX3_putSort := q_good (qw 454 rfl rfl)
set_option maxRecDepth 40000 in
theorem knX3_putSort : Cond.instanceMethod yX3_putSort ∈ qW := qw 452 rfl rfl
set_option maxRecDepth 40000 in
theorem klX3_putSort : Cond.selects RX3 yX3_putSort yX3_putSort ∈ qW := qw 453 rfl rfl
theorem dX3_putSort_0 : decode cX3_putSort 0 = .ok (.iload_n 2, 1) := by decide +kernel
theorem dX3_putSort_1 : decode cX3_putSort 1 = .ok (.bipush 20, 2) := by decide +kernel
theorem dX3_putSort_3 : decode cX3_putSort 3 = .ok (.if_icmp .ge 15, 3) := by decide +kernel
theorem dX3_putSort_6 : decode cX3_putSort 6 = .ok (.aload_n 0, 1) := by decide +kernel
theorem dX3_putSort_7 : decode cX3_putSort 7 = .ok (.iload_n 1, 1) := by decide +kernel
theorem dX3_putSort_8 : decode cX3_putSort 8 = .ok (.iload_n 2, 1) := by decide +kernel
theorem dX3_putSort_9 : decode cX3_putSort 9 = .ok (.iload_n 3, 1) := by decide +kernel
theorem dX3_putSort_10 : decode cX3_putSort 10 = .ok (.bipush 7, 2) := by decide +kernel
theorem dX3_putSort_12 : decode cX3_putSort 12 = .ok (.invokevirtual 46, 3) := by decide +kernel
theorem dX3_putSort_15 : decode cX3_putSort 15 = .ok (.goto 15, 3) := by decide +kernel
theorem dX3_putSort_18 : decode cX3_putSort 18 = .ok (.aload_n 0, 1) := by decide +kernel
theorem dX3_putSort_19 : decode cX3_putSort 19 = .ok (.iload_n 1, 1) := by decide +kernel
theorem dX3_putSort_20 : decode cX3_putSort 20 = .ok (.iload_n 2, 1) := by decide +kernel
theorem dX3_putSort_21 : decode cX3_putSort 21 = .ok (.bipush 20, 2) := by decide +kernel
theorem dX3_putSort_23 : decode cX3_putSort 23 = .ok (.isub, 1) := by decide +kernel
theorem dX3_putSort_24 : decode cX3_putSort 24 = .ok (.iload_n 3, 1) := by decide +kernel
theorem dX3_putSort_25 : decode cX3_putSort 25 = .ok (.bipush 6, 2) := by decide +kernel
theorem dX3_putSort_27 : decode cX3_putSort 27 = .ok (.invokevirtual 56, 3) := by decide +kernel
theorem dX3_putSort_30 : decode cX3_putSort 30 = .ok (.return_, 1) := by decide +kernel
abbrev cX3_rename : ByteArray := prog_5_method_16_code
def yX3_rename : MethodName := ⟨RX3, "rename", "(II)V"⟩
def wkX3_rename : List Cond := .code yX3_rename cX3_rename 4 none :: qW
set_option maxRecDepth 40000 in
theorem gkX3_rename : GoodIn qW wkX3_rename := q_good (qw 474 rfl rfl)
set_option maxRecDepth 40000 in
theorem knX3_rename : Cond.instanceMethod yX3_rename ∈ qW := qw 473 rfl rfl
set_option maxRecDepth 40000 in
theorem klX3_rename : Cond.selects RX3 yX3_rename yX3_rename ∈ qW := qw 8 rfl rfl
theorem dX3_rename_0 : decode cX3_rename 0 = .ok (.iconst 0, 1) := by decide +kernel
theorem dX3_rename_1 : decode cX3_rename 1 = .ok (.istore_n 3, 1) := by decide +kernel
theorem dX3_rename_2 : decode cX3_rename 2 = .ok (.iload_n 3, 1) := by decide +kernel
theorem dX3_rename_3 : decode cX3_rename 3 = .ok (.iconst 2, 1) := by decide +kernel
theorem dX3_rename_4 : decode cX3_rename 4 = .ok (.aload_n 0, 1) := by decide +kernel
theorem dX3_rename_5 : decode cX3_rename 5 = .ok (.getfield 18, 3) := by decide +kernel
theorem dX3_rename_8 : decode cX3_rename 8 = .ok (.imul, 1) := by decide +kernel
theorem dX3_rename_9 : decode cX3_rename 9 = .ok (.if_icmp .ge 26, 3) := by decide +kernel
theorem dX3_rename_12 : decode cX3_rename 12 = .ok (.aload_n 0, 1) := by decide +kernel
theorem dX3_rename_13 : decode cX3_rename 13 = .ok (.getfield 15, 3) := by decide +kernel
theorem dX3_rename_16 : decode cX3_rename 16 = .ok (.iload_n 3, 1) := by decide +kernel
theorem dX3_rename_17 : decode cX3_rename 17 = .ok (.iaload, 1) := by decide +kernel
theorem dX3_rename_18 : decode cX3_rename 18 = .ok (.iload_n 1, 1) := by decide +kernel
theorem dX3_rename_19 : decode cX3_rename 19 = .ok (.if_icmp .ne 10, 3) := by decide +kernel
theorem dX3_rename_22 : decode cX3_rename 22 = .ok (.aload_n 0, 1) := by decide +kernel
theorem dX3_rename_23 : decode cX3_rename 23 = .ok (.getfield 15, 3) := by decide +kernel
theorem dX3_rename_26 : decode cX3_rename 26 = .ok (.iload_n 3, 1) := by decide +kernel
theorem dX3_rename_27 : decode cX3_rename 27 = .ok (.iload_n 2, 1) := by decide +kernel
theorem dX3_rename_28 : decode cX3_rename 28 = .ok (.iastore, 1) := by decide +kernel
theorem dX3_rename_29 : decode cX3_rename 29 = .ok (.iinc 3 1, 3) := by decide +kernel
theorem dX3_rename_32 : decode cX3_rename 32 = .ok (.goto (-30), 3) := by decide +kernel
theorem dX3_rename_35 : decode cX3_rename 35 = .ok (.iload_n 1, 1) := by decide +kernel
theorem dX3_rename_36 : decode cX3_rename 36 = .ok (.iconst 1, 1) := by decide +kernel
theorem dX3_rename_37 : decode cX3_rename 37 = .ok (.if_icmp .ne 8, 3) := by decide +kernel
theorem dX3_rename_40 : decode cX3_rename 40 = .ok (.aload_n 0, 1) := by decide +kernel
theorem dX3_rename_41 : decode cX3_rename 41 = .ok (.iconst 1, 1) := by decide +kernel
theorem dX3_rename_42 : decode cX3_rename 42 = .ok (.putfield 22, 3) := by decide +kernel
theorem dX3_rename_45 : decode cX3_rename 45 = .ok (.return_, 1) := by decide +kernel
abbrev cX3_add : ByteArray := prog_5_method_11_code
def yX3_add : MethodName := ⟨RX3, "add", "(III)V"⟩
def wkX3_add : List Cond := .code yX3_add cX3_add 4 none :: qW
set_option maxRecDepth 40000 in
theorem gkX3_add : GoodIn qW wkX3_add := q_good (qw 357 rfl rfl)
set_option maxRecDepth 40000 in
theorem knX3_add : Cond.instanceMethod yX3_add ∈ qW := qw 355 rfl rfl
set_option maxRecDepth 40000 in
theorem klX3_add : Cond.selects RX3 yX3_add yX3_add ∈ qW := qw 356 rfl rfl
theorem dX3_add_0 : decode cX3_add 0 = .ok (.aload_n 0, 1) := by decide +kernel
theorem dX3_add_1 : decode cX3_add 1 = .ok (.getfield 18, 3) := by decide +kernel
theorem dX3_add_4 : decode cX3_add 4 = .ok (.iconst 4, 1) := by decide +kernel
theorem dX3_add_5 : decode cX3_add 5 = .ok (.if_icmp .ge 24, 3) := by decide +kernel
theorem dX3_add_8 : decode cX3_add 8 = .ok (.aload_n 0, 1) := by decide +kernel
theorem dX3_add_9 : decode cX3_add 9 = .ok (.aload_n 0, 1) := by decide +kernel
theorem dX3_add_10 : decode cX3_add 10 = .ok (.getfield 18, 3) := by decide +kernel
theorem dX3_add_13 : decode cX3_add 13 = .ok (.iload_n 1, 1) := by decide +kernel
theorem dX3_add_14 : decode cX3_add 14 = .ok (.iload_n 2, 1) := by decide +kernel
theorem dX3_add_15 : decode cX3_add 15 = .ok (.iload_n 3, 1) := by decide +kernel
theorem dX3_add_16 : decode cX3_add 16 = .ok (.invokevirtual 46, 3) := by decide +kernel
theorem dX3_add_19 : decode cX3_add 19 = .ok (.aload_n 0, 1) := by decide +kernel
theorem dX3_add_20 : decode cX3_add 20 = .ok (.dup, 1) := by decide +kernel
theorem dX3_add_21 : decode cX3_add 21 = .ok (.getfield 18, 3) := by decide +kernel
theorem dX3_add_24 : decode cX3_add 24 = .ok (.iconst 1, 1) := by decide +kernel
theorem dX3_add_25 : decode cX3_add 25 = .ok (.iadd, 1) := by decide +kernel
theorem dX3_add_26 : decode cX3_add 26 = .ok (.putfield 18, 3) := by decide +kernel
theorem dX3_add_29 : decode cX3_add 29 = .ok (.return_, 1) := by decide +kernel
abbrev cX0_add : ByteArray := prog_2_method_2_code
def yX0_add : MethodName := ⟨RX0, "add", "(III)V"⟩
def wkX0_add : List Cond := .code yX0_add cX0_add 4 none :: qW
set_option maxRecDepth 40000 in
theorem gkX0_add : GoodIn qW wkX0_add := q_good (qw 301 rfl rfl)
set_option maxRecDepth 40000 in
theorem knX0_add : Cond.instanceMethod yX0_add ∈ qW := qw 299 rfl rfl
set_option maxRecDepth 40000 in
theorem klX0_add : Cond.selects RX0 yX0_add yX0_add ∈ qW := qw 300 rfl rfl
theorem dX0_add_0 : decode cX0_add 0 = .ok (.aload_n 0, 1) := by decide +kernel
theorem dX0_add_1 : decode cX0_add 1 = .ok (.getfield 21, 3) := by decide +kernel
theorem dX0_add_4 : decode cX0_add 4 = .ok (.bipush 16, 2) := by decide +kernel
theorem dX0_add_6 : decode cX0_add 6 = .ok (.if_icmp .ge 43, 3) := by decide +kernel
theorem dX0_add_9 : decode cX0_add 9 = .ok (.aload_n 0, 1) := by decide +kernel
theorem dX0_add_10 : decode cX0_add 10 = .ok (.getfield 9, 3) := by decide +kernel
theorem dX0_add_13 : decode cX0_add 13 = .ok (.aload_n 0, 1) := by decide +kernel
theorem dX0_add_14 : decode cX0_add 14 = .ok (.getfield 21, 3) := by decide +kernel
theorem dX0_add_17 : decode cX0_add 17 = .ok (.iload_n 1, 1) := by decide +kernel
theorem dX0_add_18 : decode cX0_add 18 = .ok (.iastore, 1) := by decide +kernel
theorem dX0_add_19 : decode cX0_add 19 = .ok (.aload_n 0, 1) := by decide +kernel
theorem dX0_add_20 : decode cX0_add 20 = .ok (.getfield 15, 3) := by decide +kernel
theorem dX0_add_23 : decode cX0_add 23 = .ok (.aload_n 0, 1) := by decide +kernel
theorem dX0_add_24 : decode cX0_add 24 = .ok (.getfield 21, 3) := by decide +kernel
theorem dX0_add_27 : decode cX0_add 27 = .ok (.iload_n 2, 1) := by decide +kernel
theorem dX0_add_28 : decode cX0_add 28 = .ok (.iastore, 1) := by decide +kernel
theorem dX0_add_29 : decode cX0_add 29 = .ok (.aload_n 0, 1) := by decide +kernel
theorem dX0_add_30 : decode cX0_add 30 = .ok (.getfield 18, 3) := by decide +kernel
theorem dX0_add_33 : decode cX0_add 33 = .ok (.aload_n 0, 1) := by decide +kernel
theorem dX0_add_34 : decode cX0_add 34 = .ok (.getfield 21, 3) := by decide +kernel
theorem dX0_add_37 : decode cX0_add 37 = .ok (.iload_n 3, 1) := by decide +kernel
theorem dX0_add_38 : decode cX0_add 38 = .ok (.iastore, 1) := by decide +kernel
theorem dX0_add_39 : decode cX0_add 39 = .ok (.aload_n 0, 1) := by decide +kernel
theorem dX0_add_40 : decode cX0_add 40 = .ok (.dup, 1) := by decide +kernel
theorem dX0_add_41 : decode cX0_add 41 = .ok (.getfield 21, 3) := by decide +kernel
theorem dX0_add_44 : decode cX0_add 44 = .ok (.iconst 1, 1) := by decide +kernel
theorem dX0_add_45 : decode cX0_add 45 = .ok (.iadd, 1) := by decide +kernel
theorem dX0_add_46 : decode cX0_add 46 = .ok (.putfield 21, 3) := by decide +kernel
theorem dX0_add_49 : decode cX0_add 49 = .ok (.return_, 1) := by decide +kernel
abbrev cX0_forbids : ByteArray := prog_2_method_3_code
def yX0_forbids : MethodName := ⟨RX0, "forbids", "(I)Z"⟩
def wkX0_forbids : List Cond := .code yX0_forbids cX0_forbids 2 (some .boolean) :: qW
set_option maxRecDepth 40000 in
theorem gkX0_forbids : GoodIn qW wkX0_forbids := q_good (qw 551 rfl rfl)
set_option maxRecDepth 40000 in
theorem knX0_forbids : Cond.instanceMethod yX0_forbids ∈ qW := qw 549 rfl rfl
set_option maxRecDepth 40000 in
theorem klX0_forbids : Cond.selects RX0 yX0_forbids yX0_forbids ∈ qW := qw 550 rfl rfl
theorem dX0_forbids_0 : decode cX0_forbids 0 = .ok (.aload_n 0, 1) := by decide +kernel
theorem dX0_forbids_1 : decode cX0_forbids 1 = .ok (.getfield 9, 3) := by decide +kernel
theorem dX0_forbids_4 : decode cX0_forbids 4 = .ok (.iload_n 1, 1) := by decide +kernel
theorem dX0_forbids_5 : decode cX0_forbids 5 = .ok (.iaload, 1) := by decide +kernel
theorem dX0_forbids_6 : decode cX0_forbids 6 = .ok (.iconst 2, 1) := by decide +kernel
theorem dX0_forbids_7 : decode cX0_forbids 7 = .ok (.if_icmp .eq 13, 3) := by decide +kernel
theorem dX0_forbids_10 : decode cX0_forbids 10 = .ok (.aload_n 0, 1) := by decide +kernel
theorem dX0_forbids_11 : decode cX0_forbids 11 = .ok (.getfield 9, 3) := by decide +kernel
theorem dX0_forbids_14 : decode cX0_forbids 14 = .ok (.iload_n 1, 1) := by decide +kernel
theorem dX0_forbids_15 : decode cX0_forbids 15 = .ok (.iaload, 1) := by decide +kernel
theorem dX0_forbids_16 : decode cX0_forbids 16 = .ok (.iconst 3, 1) := by decide +kernel
theorem dX0_forbids_17 : decode cX0_forbids 17 = .ok (.if_icmp .ne 7, 3) := by decide +kernel
theorem dX0_forbids_20 : decode cX0_forbids 20 = .ok (.iconst 1, 1) := by decide +kernel
theorem dX0_forbids_21 : decode cX0_forbids 21 = .ok (.goto 4, 3) := by decide +kernel
theorem dX0_forbids_24 : decode cX0_forbids 24 = .ok (.iconst 0, 1) := by decide +kernel
theorem dX0_forbids_25 : decode cX0_forbids 25 = .ok (.ireturn, 1) := by decide +kernel
abbrev cX0_memberOf : ByteArray := prog_2_method_6_code
def yX0_memberOf : MethodName := ⟨RX0, "memberOf", "(IIII)I"⟩
def wkX0_memberOf : List Cond := .code yX0_memberOf cX0_memberOf 4 (some .int) :: qW
set_option maxRecDepth 40000 in
theorem gkX0_memberOf : GoodIn qW wkX0_memberOf := q_good (qw 450 rfl rfl)
set_option maxRecDepth 40000 in
theorem ksX0_memberOf : Cond.static yX0_memberOf ∈ qW := qw 449 rfl rfl
theorem dX0_memberOf_0 : decode cX0_memberOf 0 = .ok (.iload_n 0, 1) := by decide +kernel
theorem dX0_memberOf_1 : decode cX0_memberOf 1 = .ok (.bipush 20, 2) := by decide +kernel
theorem dX0_memberOf_3 : decode cX0_memberOf 3 = .ok (.if_icmp .ge 15, 3) := by decide +kernel
theorem dX0_memberOf_6 : decode cX0_memberOf 6 = .ok (.iload_n 1, 1) := by decide +kernel
theorem dX0_memberOf_7 : decode cX0_memberOf 7 = .ok (.iload_n 0, 1) := by decide +kernel
theorem dX0_memberOf_8 : decode cX0_memberOf 8 = .ok (.if_icmp .ne 7, 3) := by decide +kernel
theorem dX0_memberOf_11 : decode cX0_memberOf 11 = .ok (.iload_n 2, 1) := by decide +kernel
theorem dX0_memberOf_12 : decode cX0_memberOf 12 = .ok (.goto 5, 3) := by decide +kernel
theorem dX0_memberOf_15 : decode cX0_memberOf 15 = .ok (.bipush 7, 2) := by decide +kernel
theorem dX0_memberOf_17 : decode cX0_memberOf 17 = .ok (.ireturn, 1) := by decide +kernel
theorem dX0_memberOf_18 : decode cX0_memberOf 18 = .ok (.iload_n 1, 1) := by decide +kernel
theorem dX0_memberOf_19 : decode cX0_memberOf 19 = .ok (.bipush 32, 2) := by decide +kernel
theorem dX0_memberOf_21 : decode cX0_memberOf 21 = .ok (.iload_n 0, 1) := by decide +kernel
theorem dX0_memberOf_22 : decode cX0_memberOf 22 = .ok (.bipush 20, 2) := by decide +kernel
theorem dX0_memberOf_24 : decode cX0_memberOf 24 = .ok (.isub, 1) := by decide +kernel
theorem dX0_memberOf_25 : decode cX0_memberOf 25 = .ok (.iconst 2, 1) := by decide +kernel
theorem dX0_memberOf_26 : decode cX0_memberOf 26 = .ok (.idiv, 1) := by decide +kernel
theorem dX0_memberOf_27 : decode cX0_memberOf 27 = .ok (.iadd, 1) := by decide +kernel
theorem dX0_memberOf_28 : decode cX0_memberOf 28 = .ok (.if_icmp .eq 6, 3) := by decide +kernel
theorem dX0_memberOf_31 : decode cX0_memberOf 31 = .ok (.bipush 7, 2) := by decide +kernel
theorem dX0_memberOf_33 : decode cX0_memberOf 33 = .ok (.ireturn, 1) := by decide +kernel
theorem dX0_memberOf_34 : decode cX0_memberOf 34 = .ok (.iload_n 0, 1) := by decide +kernel
theorem dX0_memberOf_35 : decode cX0_memberOf 35 = .ok (.iconst 2, 1) := by decide +kernel
theorem dX0_memberOf_36 : decode cX0_memberOf 36 = .ok (.irem, 1) := by decide +kernel
theorem dX0_memberOf_37 : decode cX0_memberOf 37 = .ok (.ifCond .ne 16, 3) := by decide +kernel
theorem dX0_memberOf_40 : decode cX0_memberOf 40 = .ok (.iload_n 3, 1) := by decide +kernel
theorem dX0_memberOf_41 : decode cX0_memberOf 41 = .ok (.bipush 6, 2) := by decide +kernel
theorem dX0_memberOf_43 : decode cX0_memberOf 43 = .ok (.if_icmp .ne 7, 3) := by decide +kernel
theorem dX0_memberOf_46 : decode cX0_memberOf 46 = .ok (.iload_n 2, 1) := by decide +kernel
theorem dX0_memberOf_47 : decode cX0_memberOf 47 = .ok (.goto 5, 3) := by decide +kernel
theorem dX0_memberOf_50 : decode cX0_memberOf 50 = .ok (.bipush 7, 2) := by decide +kernel
theorem dX0_memberOf_52 : decode cX0_memberOf 52 = .ok (.ireturn, 1) := by decide +kernel
theorem dX0_memberOf_53 : decode cX0_memberOf 53 = .ok (.iload_n 2, 1) := by decide +kernel
theorem dX0_memberOf_54 : decode cX0_memberOf 54 = .ok (.bipush 6, 2) := by decide +kernel
theorem dX0_memberOf_56 : decode cX0_memberOf 56 = .ok (.if_icmp .ne 7, 3) := by decide +kernel
theorem dX0_memberOf_59 : decode cX0_memberOf 59 = .ok (.iload_n 3, 1) := by decide +kernel
theorem dX0_memberOf_60 : decode cX0_memberOf 60 = .ok (.goto 5, 3) := by decide +kernel
theorem dX0_memberOf_63 : decode cX0_memberOf 63 = .ok (.bipush 7, 2) := by decide +kernel
theorem dX0_memberOf_65 : decode cX0_memberOf 65 = .ok (.ireturn, 1) := by decide +kernel
set_option maxRecDepth 40000 in
theorem kfX3_18 : Cond.fieldLink RX3 18 "QlRewrite$Form" "size" "I" ∈ qW := qw 139 rfl rfl
set_option maxRecDepth 40000 in
theorem kfX3_15 : Cond.fieldLink RX3 15 "QlRewrite$Form" "places" "[I" ∈ qW := qw 135 rfl rfl
set_option maxRecDepth 40000 in
theorem kfX3_11 : Cond.fieldLink RX3 11 "QlRewrite$Form" "names" "[I" ∈ qW := qw 130 rfl rfl
set_option maxRecDepth 40000 in
theorem kmX3_46 : Cond.methodLink RX3 46 yX3_put ∈ qW := qw 358 rfl rfl
set_option maxRecDepth 40000 in
theorem kmX3_56 : Cond.methodLink RX3 56 yX3_putWay ∈ qW := qw 455 rfl rfl
set_option maxRecDepth 40000 in
theorem kfX3_22 : Cond.fieldLink RX3 22 "QlRewrite$Form" "joined" "Z" ∈ qW := qw 146 rfl rfl
set_option maxRecDepth 40000 in
theorem kfX0_21 : Cond.fieldLink RX0 21 "QlRewrite$Axioms" "size" "I" ∈ qW := qw 73 rfl rfl
set_option maxRecDepth 40000 in
theorem kfX0_9 : Cond.fieldLink RX0 9 "QlRewrite$Axioms" "kinds" "[I" ∈ qW := qw 70 rfl rfl
set_option maxRecDepth 40000 in
theorem kfX0_15 : Cond.fieldLink RX0 15 "QlRewrite$Axioms" "lefts" "[I" ∈ qW := qw 71 rfl rfl
set_option maxRecDepth 40000 in
theorem kfX0_18 : Cond.fieldLink RX0 18 "QlRewrite$Axioms" "rights" "[I" ∈ qW := qw 72 rfl rfl
abbrev rm_c_Form_timesOf : Room := { frames := 0, cells := 0, slots := 0, locals := 0 }
set_option maxHeartbeats 4000000 in
set_option maxRecDepth 100000 in
theorem c_Form_timesOf (l : Launch) (dC : Nat → ClassId) (dI : Nat → Nat → Nat) (cI cL cQ cZ : ClassId) (h0 : Nat) (a1 : Nat) (a2 : Nat) (n : Nat) (jn : Bool) (nm : Nat → Nat) (pl : Nat → Nat) (v : Nat) (hn : n ≤ 4) (hpl : ∀ j, pl j < 16) (hv : v < 16) : Met l yX3_timesOf wkX3_timesOf rm_c_Form_timesOf (q_R (dC, dI) qCl (qT cI cL cQ cZ) [(h0, .inr (3, [.ref a1, .ref a2, .int (nI (n)), .int (bI (jn))])), (a1, .inl (cI, 4, .inl (nF nm))), (a2, .inl (cI, 8, .inl (nF pl)))] [.ref h0, .int (nI (v))]) (vp_Si (fun r => r = (nI (f_cnt pl v (2 * n))))) 0 0 (fun _ => False) := by
  refine Met.ofW (cc := cX3_timesOf) (maxL := 4) (ret := (some .int)) (by decide) rfl ?_
  intro p e s m args below meth c s₁ B hml hv
  obtain ⟨hargs, hP, hK⟩ := hv
  have hx := B.exec
  have hb := B.bytes
  have hr := B.returns
  have hts : ∀ w ∈ qW, w.before args s = true := fun w h => atoms_spec (ws := wkX3_timesOf) B.pre w (List.mem_cons_of_mem _ h)
  have hown : s.vm.findClass RX3 = some m.cls := findClass_of_methodNamed B.named
  have hlocks := B.notSynchronized
  refine q_named (fun Q hQ => ?_)
  refine q_entry hargs (Nat.le_of_ble_eq_true rfl) (fun ls hl => ?_)
  have hl : lv_has ls 4 [(0, .ref h0), (1, .int (nI (v)))] := hl
  refine lv_iconst (v := (nI (0))) hx hb dX3_timesOf_0 (by decide) ?_
  refine lv_istore_n (lv' := [(2, .int (nI (0))), (0, .ref h0), (1, .int (nI (v)))]) hx hb dX3_timesOf_1 rfl hl (by decide) rfl (fun ls hl => ?_)
  refine lv_iconst (v := (nI (0))) hx hb dX3_timesOf_2 (by decide) ?_
  refine lv_istore_n (lv' := [(3, .int (nI (0))), (2, .int (nI (0))), (0, .ref h0), (1, .int (nI (v)))]) hx hb dX3_timesOf_3 rfl hl (by decide) rfl (fun ls hl => ?_)
  have L4 : ∀ (fu : Nat) (t : Nat) (i : Nat) (ls : Array Slot), 2 * n - i < fu → (t = f_cnt pl v i) → (i ≤ 2 * n) → lv_has ls 4 [(3, .int (nI (i))), (2, .int (nI (t))), (0, .ref h0), (1, .int (nI (v)))] → W p l e (headSpec wkX3_timesOf rm_c_Form_timesOf).room s m args below meth c s.heap [] 0 0 Q (F0 m 4 ls []) := by
    intro fu
    induction fu with
    | zero => intro t i ls hmu; exact absurd hmu (Nat.not_lt_zero _)
    | succ fu ih4 =>
      intro t i ls hmu ht hi hl
      refine lv_iload_n hx hb dX3_timesOf_4 rfl (lv_at hl 0 rfl) ?_
      refine lv_iconst (v := (nI (2))) hx hb dX3_timesOf_5 (by decide) ?_
      refine lv_aload_n hx hb dX3_timesOf_6 rfl (lv_at hl 2 rfl) ?_
      refine va_get (D := (dC, dI)) (ci := 3) (v := .int (nI (n))) (C := RX3) (T := TX3) (N := 4) hx hb hts uX3 hown hK hP 0 rfl rfl 2 (by decide) (hts _ kfX3_18) (fun _ h9 => h9) rfl dX3_timesOf_7 ?_
      refine q_imul (x := 2) (y := n) hx hb dX3_timesOf_10 ?_
      refine q_icmp_ge (x := i) (y := 2 * n) (tgt := 33) hx hb dX3_timesOf_11 (by decide) (by omega) (by omega) (fun c11_1 => ?_) (fun c11_1 => ?_)
      · refine lv_iload_n hx hb dX3_timesOf_33 rfl (lv_at hl 1 rfl) ?_
        subst hQ
        exact W.iret (v := (nI (t))) hx hb hr (fun t9 h9 _ => ⟨_, rfl, congrArg nI (show t = f_cnt pl v (2 * n) from by (rw [ht, show i = 2 * n by omega])), h9⟩) (fun q hq => by cases hq) dX3_timesOf_34
      · refine lv_aload_n hx hb dX3_timesOf_14 rfl (lv_at hl 2 rfl) ?_
        refine va_get (D := (dC, dI)) (ci := 3) (v := .ref a2) (C := RX3) (T := TX3) (N := 4) hx hb hts uX3 hown hK hP 0 rfl rfl 1 (by decide) (hts _ kfX3_15) (fun _ h9 => h9) rfl dX3_timesOf_15 ?_
        refine lv_iload_n hx hb dX3_timesOf_18 rfl (lv_at hl 0 rfl) ?_
        refine q_ialdN hx hb hK hP 2 0 rfl rfl (j := i) (by omega) (by omega) dX3_timesOf_19 ?_
        have bd2 := hpl i
        refine lv_iload_n hx hb dX3_timesOf_20 rfl (lv_at hl 3 rfl) ?_
        refine q_icmp_ne (x := pl i) (y := v) (tgt := 27) hx hb dX3_timesOf_21 (by decide) (by omega) (by omega) (fun c21_3 => ?_) (fun c21_3 => ?_)
        · refine lv_iinc (v := (nI (i + 1))) (lv' := [(3, .int (nI (i + 1))), (2, .int (nI (t))), (0, .ref h0), (1, .int (nI (v)))]) hx hb dX3_timesOf_27 hl (k := 0) rfl (q_inc _) (by decide) rfl (fun ls hl => ?_)
          refine lv_goto (tgt := 4) hx hb dX3_timesOf_30 (by decide) ?_
          exact ih4 t (i + 1) ls (by omega) (show t = f_cnt pl v (i + 1) from by (simp only [f_cnt]; split <;> omega)) (show (i + 1) ≤ 2 * n from by omega) (lv_sub hl [0, 1, 2, 3] rfl)
        · refine lv_iinc (v := (nI (t + 1))) (lv' := [(2, .int (nI (t + 1))), (3, .int (nI (i))), (0, .ref h0), (1, .int (nI (v)))]) hx hb dX3_timesOf_24 hl (k := 1) rfl (q_inc _) (by decide) rfl (fun ls hl => ?_)
          refine lv_iinc (v := (nI (i + 1))) (lv' := [(3, .int (nI (i + 1))), (2, .int (nI (t + 1))), (0, .ref h0), (1, .int (nI (v)))]) hx hb dX3_timesOf_27 hl (k := 1) rfl (q_inc _) (by decide) rfl (fun ls hl => ?_)
          refine lv_goto (tgt := 4) hx hb dX3_timesOf_30 (by decide) ?_
          exact ih4 (t + 1) (i + 1) ls (by omega) (show (t + 1) = f_cnt pl v (i + 1) from by (simp only [f_cnt]; split <;> omega)) (show (i + 1) ≤ 2 * n from by omega) (lv_sub hl [0, 1, 2, 3] rfl)
  exact L4 _ 0 0 ls (by exact Nat.lt_succ_self _) (show 0 = f_cnt pl v 0 from by rfl) (show 0 ≤ 2 * n from by omega) (lv_sub hl [0, 1, 2, 3] rfl)
abbrev rm_c_Form_holds : Room := { frames := 0, cells := 0, slots := 0, locals := 0 }
set_option maxHeartbeats 4000000 in
set_option maxRecDepth 100000 in
theorem c_Form_holds (l : Launch) (dC : Nat → ClassId) (dI : Nat → Nat → Nat) (cI cL cQ cZ : ClassId) (h0 : Nat) (a1 : Nat) (a2 : Nat) (n : Nat) (jn : Bool) (nm : Nat → Nat) (pl : Nat → Nat) (x : Nat) (a : Nat) (b : Nat) (hn : n ≤ 4) (hnm : ∀ j, nm j < 64) (hpl : ∀ j, pl j < 16) (hx9 : x < 64) (ha9 : a < 16) (hb9 : b < 16) : Met l yX3_holds wkX3_holds rm_c_Form_holds (q_R (dC, dI) qCl (qT cI cL cQ cZ) [(h0, .inr (3, [.ref a1, .ref a2, .int (nI (n)), .int (bI (jn))])), (a1, .inl (cI, 4, .inl (nF nm))), (a2, .inl (cI, 8, .inl (nF pl)))] [.ref h0, .int (nI (x)), .int (nI (a)), .int (nI (b))]) (vp_Si (fun r => ∃ b9 : Bool, r = bI b9 ∧ (b9 = true ↔ f_has nm pl x a b n))) 0 0 (fun _ => False) := by
  refine Met.ofW (cc := cX3_holds) (maxL := 5) (ret := (some .boolean)) (by decide) rfl ?_
  intro p e s m args below meth c s₁ B hml hv
  obtain ⟨hargs, hP, hK⟩ := hv
  have hx := B.exec
  have hb := B.bytes
  have hr := B.returns
  have hts : ∀ w ∈ qW, w.before args s = true := fun w h => atoms_spec (ws := wkX3_holds) B.pre w (List.mem_cons_of_mem _ h)
  have hown : s.vm.findClass RX3 = some m.cls := findClass_of_methodNamed B.named
  have hlocks := B.notSynchronized
  refine q_named (fun Q hQ => ?_)
  refine q_entry hargs (Nat.le_of_ble_eq_true rfl) (fun ls hl => ?_)
  have hl : lv_has ls 5 [(0, .ref h0), (1, .int (nI (x))), (2, .int (nI (a))), (3, .int (nI (b)))] := hl
  refine lv_iconst (v := (nI (0))) hx hb dX3_holds_0 (by decide) ?_
  refine lv_istore (lv' := [(4, .int (nI (0))), (0, .ref h0), (1, .int (nI (x))), (2, .int (nI (a))), (3, .int (nI (b)))]) hx hb dX3_holds_1 hl (by decide) rfl (fun ls hl => ?_)
  have L3 : ∀ (fu : Nat) (i : Nat) (ls : Array Slot), n - i < fu → (i ≤ n) → (¬ f_has nm pl x a b i) → lv_has ls 5 [(4, .int (nI (i))), (0, .ref h0), (1, .int (nI (x))), (2, .int (nI (a))), (3, .int (nI (b)))] → W p l e (headSpec wkX3_holds rm_c_Form_holds).room s m args below meth c s.heap [] 0 0 Q (F0 m 3 ls []) := by
    intro fu
    induction fu with
    | zero => intro i ls hmu; exact absurd hmu (Nat.not_lt_zero _)
    | succ fu ih3 =>
      intro i ls hmu hi hh hl
      refine lv_iload hx hb dX3_holds_3 (lv_at hl 0 rfl) ?_
      refine lv_aload_n hx hb dX3_holds_5 rfl (lv_at hl 1 rfl) ?_
      refine va_get (D := (dC, dI)) (ci := 3) (v := .int (nI (n))) (C := RX3) (T := TX3) (N := 4) hx hb hts uX3 hown hK hP 0 rfl rfl 2 (by decide) (hts _ kfX3_18) (fun _ h9 => h9) rfl dX3_holds_6 ?_
      refine q_icmp_ge (x := i) (y := n) (tgt := 59) hx hb dX3_holds_9 (by decide) (by omega) (by omega) (fun c9_1 => ?_) (fun c9_1 => ?_)
      · refine lv_iconst (v := (nI (0))) hx hb dX3_holds_59 (by decide) ?_
        subst hQ
        exact W.zret (v := (nI (0))) hx hb hr (by decide) (fun t9 h9 _ => ⟨_, rfl, show ∃ b9 : Bool, (nI (0)) = bI b9 ∧ (b9 = true ↔ f_has nm pl x a b n) from by (exact ⟨false, rfl, fun h => (by cases h), fun h => absurd h (by rw [show n = i by omega]; exact hh)⟩), h9⟩) (fun q hq => by cases hq) dX3_holds_60
      · refine lv_aload_n hx hb dX3_holds_12 rfl (lv_at hl 1 rfl) ?_
        refine va_get (D := (dC, dI)) (ci := 3) (v := .ref a1) (C := RX3) (T := TX3) (N := 4) hx hb hts uX3 hown hK hP 0 rfl rfl 0 (by decide) (hts _ kfX3_11) (fun _ h9 => h9) rfl dX3_holds_13 ?_
        refine lv_iload hx hb dX3_holds_16 (lv_at hl 0 rfl) ?_
        refine q_ialdN hx hb hK hP 1 0 rfl rfl (j := i) (by omega) (by omega) dX3_holds_18 ?_
        have bd2 := hnm i
        refine lv_iload_n hx hb dX3_holds_19 rfl (lv_at hl 2 rfl) ?_
        refine q_icmp_ne (x := nm i) (y := x) (tgt := 53) hx hb dX3_holds_20 (by decide) (by omega) (by omega) (fun c20_3 => ?_) (fun c20_3 => ?_)
        · refine lv_iinc (v := (nI (i + 1))) (lv' := [(4, .int (nI (i + 1))), (0, .ref h0), (1, .int (nI (x))), (2, .int (nI (a))), (3, .int (nI (b)))]) hx hb dX3_holds_53 hl (k := 0) rfl (q_inc _) (by decide) rfl (fun ls hl => ?_)
          refine lv_goto (tgt := 3) hx hb dX3_holds_56 (by decide) ?_
          exact ih3 (i + 1) ls (by omega) (show (i + 1) ≤ n from by omega) (show ¬ f_has nm pl x a b (i + 1) from by (exact f_has_s hh (by omega))) (lv_sub hl [0, 1, 2, 3, 4] rfl)
        · refine lv_aload_n hx hb dX3_holds_23 rfl (lv_at hl 1 rfl) ?_
          refine va_get (D := (dC, dI)) (ci := 3) (v := .ref a2) (C := RX3) (T := TX3) (N := 4) hx hb hts uX3 hown hK hP 0 rfl rfl 1 (by decide) (hts _ kfX3_15) (fun _ h9 => h9) rfl dX3_holds_24 ?_
          refine lv_iconst (v := (nI (2))) hx hb dX3_holds_27 (by decide) ?_
          refine lv_iload hx hb dX3_holds_28 (lv_at hl 0 rfl) ?_
          refine q_imul (x := 2) (y := i) hx hb dX3_holds_30 ?_
          refine q_ialdN hx hb hK hP 2 0 rfl rfl (j := 2 * i) (by omega) (by omega) dX3_holds_31 ?_
          have bd4 := hpl (2 * i)
          refine lv_iload_n hx hb dX3_holds_32 rfl (lv_at hl 3 rfl) ?_
          refine q_icmp_ne (x := pl (2 * i)) (y := a) (tgt := 53) hx hb dX3_holds_33 (by decide) (by omega) (by omega) (fun c33_5 => ?_) (fun c33_5 => ?_)
          · refine lv_iinc (v := (nI (i + 1))) (lv' := [(4, .int (nI (i + 1))), (0, .ref h0), (1, .int (nI (x))), (2, .int (nI (a))), (3, .int (nI (b)))]) hx hb dX3_holds_53 hl (k := 0) rfl (q_inc _) (by decide) rfl (fun ls hl => ?_)
            refine lv_goto (tgt := 3) hx hb dX3_holds_56 (by decide) ?_
            exact ih3 (i + 1) ls (by omega) (show (i + 1) ≤ n from by omega) (show ¬ f_has nm pl x a b (i + 1) from by (exact f_has_s hh (by omega))) (lv_sub hl [0, 1, 2, 3, 4] rfl)
          · refine lv_aload_n hx hb dX3_holds_36 rfl (lv_at hl 1 rfl) ?_
            refine va_get (D := (dC, dI)) (ci := 3) (v := .ref a2) (C := RX3) (T := TX3) (N := 4) hx hb hts uX3 hown hK hP 0 rfl rfl 1 (by decide) (hts _ kfX3_15) (fun _ h9 => h9) rfl dX3_holds_37 ?_
            refine lv_iconst (v := (nI (2))) hx hb dX3_holds_40 (by decide) ?_
            refine lv_iload hx hb dX3_holds_41 (lv_at hl 0 rfl) ?_
            refine q_imul (x := 2) (y := i) hx hb dX3_holds_43 ?_
            refine lv_iconst (v := (nI (1))) hx hb dX3_holds_44 (by decide) ?_
            refine q_iadd (x := 2 * i) (y := 1) hx hb dX3_holds_45 ?_
            refine q_ialdN hx hb hK hP 2 0 rfl rfl (j := (2 * i) + 1) (by omega) (by omega) dX3_holds_46 ?_
            have bd6 := hpl ((2 * i) + 1)
            refine lv_iload_n hx hb dX3_holds_47 rfl (lv_at hl 4 rfl) ?_
            refine q_icmp_ne (x := pl ((2 * i) + 1)) (y := b) (tgt := 53) hx hb dX3_holds_48 (by decide) (by omega) (by omega) (fun c48_7 => ?_) (fun c48_7 => ?_)
            · refine lv_iinc (v := (nI (i + 1))) (lv' := [(4, .int (nI (i + 1))), (0, .ref h0), (1, .int (nI (x))), (2, .int (nI (a))), (3, .int (nI (b)))]) hx hb dX3_holds_53 hl (k := 0) rfl (q_inc _) (by decide) rfl (fun ls hl => ?_)
              refine lv_goto (tgt := 3) hx hb dX3_holds_56 (by decide) ?_
              exact ih3 (i + 1) ls (by omega) (show (i + 1) ≤ n from by omega) (show ¬ f_has nm pl x a b (i + 1) from by (exact f_has_s hh (by omega))) (lv_sub hl [0, 1, 2, 3, 4] rfl)
            · refine lv_iconst (v := (nI (1))) hx hb dX3_holds_51 (by decide) ?_
              subst hQ
              exact W.zret (v := (nI (1))) hx hb hr (by decide) (fun t9 h9 _ => ⟨_, rfl, show ∃ b9 : Bool, (nI (1)) = bI b9 ∧ (b9 = true ↔ f_has nm pl x a b n) from by (exact ⟨true, rfl, fun _ => ⟨i, by omega, by omega, by omega, by omega⟩, fun _ => rfl⟩), h9⟩) (fun q hq => by cases hq) dX3_holds_52
  exact L3 _ 0 ls (by exact Nat.lt_succ_self _) (show 0 ≤ n from by omega) (show ¬ f_has nm pl x a b 0 from by (rintro ⟨j, hj, _⟩; omega)) (lv_sub hl [0, 1, 2, 3, 4] rfl)
abbrev rm_c_Form_put : Room := { frames := 0, cells := 0, slots := 0, locals := 0 }
set_option maxHeartbeats 4000000 in
set_option maxRecDepth 100000 in
theorem c_Form_put (l : Launch) (dC : Nat → ClassId) (dI : Nat → Nat → Nat) (cI cL cQ cZ : ClassId) (h0 : Nat) (a1 : Nat) (a2 : Nat) (n : Nat) (jn : Bool) (nm : Nat → Nat) (pl : Nat → Nat) (i : Nat) (x : Nat) (a : Nat) (b : Nat) (hi : i < 4) : Met l yX3_put wkX3_put rm_c_Form_put (q_W (dC, dI) qCl (qT cI cL cQ cZ) [(h0, .inr (3, [.ref a1, .ref a2, .int (nI (n)), .int (bI (jn))])), (a1, .inl (cI, 4, .inl (nF nm))), (a2, .inl (cI, 8, .inl (nF pl)))] [.ref h0, .int (nI (i)), .int (nI (x)), .int (nI (a)), .int (nI (b))]) (va_Qv (fun (u : Unit) => True) (fun (u : Unit) t => va_P (dC, dI) qCl [(h0, .inr (3, [.ref a1, .ref a2, .int (nI (n)), .int (bI (jn))])), (a1, .inl (cI, 4, .inl (nF (va_up nm i x)))), (a2, .inl (cI, 8, .inl (nF (f_put pl i a b))))] t.heap) (q_A [(h0, .inr (3, [.ref a1, .ref a2, .int (nI (n)), .int (bI (jn))])), (a1, .inl (cI, 4, .inl (nF nm))), (a2, .inl (cI, 8, .inl (nF pl)))])) 0 0 (q_A [(h0, .inr (3, [.ref a1, .ref a2, .int (nI (n)), .int (bI (jn))])), (a1, .inl (cI, 4, .inl (nF nm))), (a2, .inl (cI, 8, .inl (nF pl)))]) := by
  refine Met.ofW (cc := cX3_put) (maxL := 5) (ret := none) (by decide) rfl ?_
  intro p e s m args below meth c s₁ B hml hv
  obtain ⟨hargs, hP, hK, hD0⟩ := hv
  have hx := B.exec
  have hb := B.bytes
  have hr := B.returns
  have hts : ∀ w ∈ qW, w.before args s = true := fun w h => atoms_spec (ws := wkX3_put) B.pre w (List.mem_cons_of_mem _ h)
  have hown : s.vm.findClass RX3 = some m.cls := findClass_of_methodNamed B.named
  have hlocks := B.notSynchronized
  refine q_named (fun Q hQ => ?_)
  have hD : va_D (q_A [(h0, .inr (3, [.ref a1, .ref a2, .int (nI (n)), .int (bI (jn))])), (a1, .inl (cI, 4, .inl (nF nm))), (a2, .inl (cI, 8, .inl (nF pl)))]) [(h0, .inr (3, [.ref a1, .ref a2, .int (nI (n)), .int (bI (jn))])), (a1, .inl (cI, 4, .inl (nF nm))), (a2, .inl (cI, 8, .inl (nF pl)))] := ⟨hD0.1, fun k q h => ⟨k, q.2, h⟩⟩
  generalize hAe : q_A [(h0, .inr (3, [.ref a1, .ref a2, .int (nI (n)), .int (bI (jn))])), (a1, .inl (cI, 4, .inl (nF nm))), (a2, .inl (cI, 8, .inl (nF pl)))] = A at hD
  have hS : va_S A s.heap s.heap [] := va_S.rf
  refine q_entry hargs (Nat.le_of_ble_eq_true rfl) (fun ls hl => ?_)
  have hl : lv_has ls 5 [(0, .ref h0), (1, .int (nI (i))), (2, .int (nI (x))), (3, .int (nI (a))), (4, .int (nI (b)))] := hl
  obtain ⟨H, locs, eH, eL⟩ : ∃ (H : Heap) (locs : List Loc), s.heap = H ∧ ([] : List Loc) = locs := ⟨_, _, rfl, rfl⟩
  have hS : va_S A s.heap H locs := by rw [← eH, ← eL]; exact hS
  have hP : va_P (dC, dI) qCl [(h0, .inr (3, [.ref a1, .ref a2, .int (nI (n)), .int (bI (jn))])), (a1, .inl (cI, 4, .inl (nF nm))), (a2, .inl (cI, 8, .inl (nF pl)))] H := by rw [← eH]; exact hP
  refine W_at eH eL ?_
  refine lv_aload_n hx hb dX3_put_0 rfl (lv_at hl 0 rfl) ?_
  refine va_get (D := (dC, dI)) (ci := 3) (v := .ref a1) (C := RX3) (T := TX3) (N := 4) hx hb hts uX3 hown hK hP 0 rfl rfl 0 (by decide) (hts _ kfX3_11) (fun _ h9 => h9) rfl dX3_put_1 ?_
  refine lv_iload_n hx hb dX3_put_4 rfl (lv_at hl 1 rfl) ?_
  refine lv_iload_n hx hb dX3_put_5 rfl (lv_at hl 2 rfl) ?_
  refine q_iastN hx hb hK hP hD hS 1 0 rfl rfl (j := i) (x := x) (by omega) (by omega) dX3_put_6 (fun H locs hP hD hS => ?_)
  have hP : va_P (dC, dI) qCl [(h0, .inr (3, [.ref a1, .ref a2, .int (nI (n)), .int (bI (jn))])), (a1, .inl (cI, 4, .inl (nF (va_up nm i x)))), (a2, .inl (cI, 8, .inl (nF pl)))] H := hP
  have hD : va_D A [(h0, .inr (3, [.ref a1, .ref a2, .int (nI (n)), .int (bI (jn))])), (a1, .inl (cI, 4, .inl (nF (va_up nm i x)))), (a2, .inl (cI, 8, .inl (nF pl)))] := hD
  refine lv_aload_n hx hb dX3_put_7 rfl (lv_at hl 0 rfl) ?_
  refine va_get (D := (dC, dI)) (ci := 3) (v := .ref a2) (C := RX3) (T := TX3) (N := 4) hx hb hts uX3 hown hK hP 0 rfl rfl 1 (by decide) (hts _ kfX3_15) (fun _ h9 => h9) rfl dX3_put_8 ?_
  refine lv_iconst (v := (nI (2))) hx hb dX3_put_11 (by decide) ?_
  refine lv_iload_n hx hb dX3_put_12 rfl (lv_at hl 1 rfl) ?_
  refine q_imul (x := 2) (y := i) hx hb dX3_put_13 ?_
  refine lv_iload_n hx hb dX3_put_14 rfl (lv_at hl 3 rfl) ?_
  refine q_iastN hx hb hK hP hD hS 2 0 rfl rfl (j := 2 * i) (x := a) (by omega) (by omega) dX3_put_15 (fun H locs hP hD hS => ?_)
  have hP : va_P (dC, dI) qCl [(h0, .inr (3, [.ref a1, .ref a2, .int (nI (n)), .int (bI (jn))])), (a1, .inl (cI, 4, .inl (nF (va_up nm i x)))), (a2, .inl (cI, 8, .inl (nF (va_up pl (2 * i) a))))] H := hP
  have hD : va_D A [(h0, .inr (3, [.ref a1, .ref a2, .int (nI (n)), .int (bI (jn))])), (a1, .inl (cI, 4, .inl (nF (va_up nm i x)))), (a2, .inl (cI, 8, .inl (nF (va_up pl (2 * i) a))))] := hD
  refine lv_aload_n hx hb dX3_put_16 rfl (lv_at hl 0 rfl) ?_
  refine va_get (D := (dC, dI)) (ci := 3) (v := .ref a2) (C := RX3) (T := TX3) (N := 4) hx hb hts uX3 hown hK hP 0 rfl rfl 1 (by decide) (hts _ kfX3_15) (fun _ h9 => h9) rfl dX3_put_17 ?_
  refine lv_iconst (v := (nI (2))) hx hb dX3_put_20 (by decide) ?_
  refine lv_iload_n hx hb dX3_put_21 rfl (lv_at hl 1 rfl) ?_
  refine q_imul (x := 2) (y := i) hx hb dX3_put_22 ?_
  refine lv_iconst (v := (nI (1))) hx hb dX3_put_23 (by decide) ?_
  refine q_iadd (x := 2 * i) (y := 1) hx hb dX3_put_24 ?_
  refine lv_iload hx hb dX3_put_25 (lv_at hl 4 rfl) ?_
  refine q_iastN hx hb hK hP hD hS 2 0 rfl rfl (j := (2 * i) + 1) (x := b) (by omega) (by omega) dX3_put_27 (fun H locs hP hD hS => ?_)
  have hP : va_P (dC, dI) qCl [(h0, .inr (3, [.ref a1, .ref a2, .int (nI (n)), .int (bI (jn))])), (a1, .inl (cI, 4, .inl (nF (va_up nm i x)))), (a2, .inl (cI, 8, .inl (nF (va_up (va_up pl (2 * i) a) ((2 * i) + 1) b))))] H := hP
  have hD : va_D A [(h0, .inr (3, [.ref a1, .ref a2, .int (nI (n)), .int (bI (jn))])), (a1, .inl (cI, 4, .inl (nF (va_up nm i x)))), (a2, .inl (cI, 8, .inl (nF (va_up (va_up pl (2 * i) a) ((2 * i) + 1) b))))] := hD
  have hP : va_P (dC, dI) qCl [(h0, .inr (3, [.ref a1, .ref a2, .int (nI (n)), .int (bI (jn))])), (a1, .inl (cI, 4, .inl (nF (va_up nm i x)))), (a2, .inl (cI, 8, .inl (nF (f_put pl i a b))))] H := hP
  have hD : va_D A [(h0, .inr (3, [.ref a1, .ref a2, .int (nI (n)), .int (bI (jn))])), (a1, .inl (cI, 4, .inl (nF (va_up nm i x)))), (a2, .inl (cI, 8, .inl (nF (f_put pl i a b))))] := hD
  subst hQ
  subst hAe
  have hP9 := hP.sub (ws' := [(h0, .inr (3, [.ref a1, .ref a2, .int (nI (n)), .int (bI (jn))])), (a1, .inl (cI, 4, .inl (nF (va_up nm i x)))), (a2, .inl (cI, 8, .inl (nF (f_put pl i a b))))]) [0, 1, 2] rfl
  exact W.vret hx hb hr (fun t9 h9 _ => ⟨⟨(), rfl, trivial, by show va_P _ _ _ t9.heap; rw [h9]; exact hP9⟩, hS.F h9⟩) hS.2.2 dX3_put_28
abbrev rm_c_Form_putWay : Room := { frames := 1, cells := 0, slots := 0, locals := 24 }
set_option maxHeartbeats 4000000 in
set_option maxRecDepth 100000 in
theorem c_Form_putWay (l : Launch) (dC : Nat → ClassId) (dI : Nat → Nat → Nat) (cI cL cQ cZ : ClassId) (h0 : Nat) (a1 : Nat) (a2 : Nat) (n : Nat) (jn : Bool) (nm : Nat → Nat) (pl : Nat → Nat) (i : Nat) (w : Nat) (a : Nat) (b : Nat) (hi : i < 4) (hw : w < 64) : Met l yX3_putWay wkX3_putWay rm_c_Form_putWay (q_W (dC, dI) qCl (qT cI cL cQ cZ) [(h0, .inr (3, [.ref a1, .ref a2, .int (nI (n)), .int (bI (jn))])), (a1, .inl (cI, 4, .inl (nF nm))), (a2, .inl (cI, 8, .inl (nF pl)))] [.ref h0, .int (nI (i)), .int (nI (w)), .int (nI (a)), .int (nI (b))]) (va_Qv (fun (u : Unit) => True) (fun (u : Unit) t => va_P (dC, dI) qCl [(h0, .inr (3, [.ref a1, .ref a2, .int (nI (n)), .int (bI (jn))])), (a1, .inl (cI, 4, .inl (nF (va_up nm i (f_wayn w))))), (a2, .inl (cI, 8, .inl (nF (f_put pl i (f_way1 w a b) (f_way2 w a b)))))] t.heap) (q_A [(h0, .inr (3, [.ref a1, .ref a2, .int (nI (n)), .int (bI (jn))])), (a1, .inl (cI, 4, .inl (nF nm))), (a2, .inl (cI, 8, .inl (nF pl)))])) 0 0 (q_A [(h0, .inr (3, [.ref a1, .ref a2, .int (nI (n)), .int (bI (jn))])), (a1, .inl (cI, 4, .inl (nF nm))), (a2, .inl (cI, 8, .inl (nF pl)))]) := by
  refine Met.ofW (cc := cX3_putWay) (maxL := 5) (ret := none) (by decide) rfl ?_
  intro p e s m args below meth c s₁ B hml hv
  obtain ⟨hargs, hP, hK, hD0⟩ := hv
  have hx := B.exec
  have hb := B.bytes
  have hr := B.returns
  have hts : ∀ w ∈ qW, w.before args s = true := fun w h => atoms_spec (ws := wkX3_putWay) B.pre w (List.mem_cons_of_mem _ h)
  have hown : s.vm.findClass RX3 = some m.cls := findClass_of_methodNamed B.named
  have hlocks := B.notSynchronized
  refine q_named (fun Q hQ => ?_)
  have hD : va_D (q_A [(h0, .inr (3, [.ref a1, .ref a2, .int (nI (n)), .int (bI (jn))])), (a1, .inl (cI, 4, .inl (nF nm))), (a2, .inl (cI, 8, .inl (nF pl)))]) [(h0, .inr (3, [.ref a1, .ref a2, .int (nI (n)), .int (bI (jn))])), (a1, .inl (cI, 4, .inl (nF nm))), (a2, .inl (cI, 8, .inl (nF pl)))] := ⟨hD0.1, fun k q h => ⟨k, q.2, h⟩⟩
  generalize hAe : q_A [(h0, .inr (3, [.ref a1, .ref a2, .int (nI (n)), .int (bI (jn))])), (a1, .inl (cI, 4, .inl (nF nm))), (a2, .inl (cI, 8, .inl (nF pl)))] = A at hD
  have hS : va_S A s.heap s.heap [] := va_S.rf
  refine q_entry hargs (Nat.le_of_ble_eq_true rfl) (fun ls hl => ?_)
  have hl : lv_has ls 5 [(0, .ref h0), (1, .int (nI (i))), (2, .int (nI (w))), (3, .int (nI (a))), (4, .int (nI (b)))] := hl
  obtain ⟨H, locs, eH, eL⟩ : ∃ (H : Heap) (locs : List Loc), s.heap = H ∧ ([] : List Loc) = locs := ⟨_, _, rfl, rfl⟩
  have hS : va_S A s.heap H locs := by rw [← eH, ← eL]; exact hS
  have hP : va_P (dC, dI) qCl [(h0, .inr (3, [.ref a1, .ref a2, .int (nI (n)), .int (bI (jn))])), (a1, .inl (cI, 4, .inl (nF nm))), (a2, .inl (cI, 8, .inl (nF pl)))] H := by rw [← eH]; exact hP
  refine W_at eH eL ?_
  refine lv_iload_n hx hb dX3_putWay_0 rfl (lv_at hl 2 rfl) ?_
  refine lv_iconst (v := (nI (2))) hx hb dX3_putWay_1 (by decide) ?_
  refine q_irem (x := w) (y := 2) hx hb (by omega) (by omega) (by omega) dX3_putWay_2 ?_
  refine q_if_ne (x := w % 2) (tgt := 23) hx hb dX3_putWay_3 (by decide) (by omega) (fun c3_1 => ?_) (fun c3_1 => ?_)
  · refine lv_aload_n hx hb dX3_putWay_23 rfl (lv_at hl 0 rfl) ?_
    refine lv_iload_n hx hb dX3_putWay_24 rfl (lv_at hl 1 rfl) ?_
    refine lv_bipush (v := (nI (32))) hx hb dX3_putWay_25 (by decide) ?_
    refine lv_iload_n hx hb dX3_putWay_27 rfl (lv_at hl 2 rfl) ?_
    refine lv_iconst (v := (nI (2))) hx hb dX3_putWay_28 (by decide) ?_
    refine q_idiv (x := w) (y := 2) hx hb (by omega) (by omega) (by omega) dX3_putWay_29 ?_
    refine q_iadd (x := 32) (y := w / 2) hx hb dX3_putWay_30 ?_
    refine lv_iload hx hb dX3_putWay_31 (lv_at hl 4 rfl) ?_
    refine lv_iload_n hx hb dX3_putWay_33 rfl (lv_at hl 3 rfl) ?_
    refine q_joinv (wr := []) (va_runV (As := [.int (nI (i)), .int (nI (32 + (w / 2))), .int (nI (b)), .int (nI (a))]) (rest := []) ⟨hx, hb, hml, hown, hts⟩ (c_Form_put l dC dI cI cL cQ cZ h0 a1 a2 n jn nm pl i (32 + (w / 2)) b a (show i < 4 from by first | assumption | omega)) (q_cwV 4 hts gkX3_put kmX3_46 knX3_put klX3_put kiX3 rfl rfl rfl (by decide +kernel) ⟨Nat.le_of_ble_eq_true rfl, Nat.le_of_ble_eq_true rfl⟩) (q_preVW hK hP hD [0, 1, 2] rfl (by decide) 0 (ci := 3) (r := (RX3, TX3, 4)) rfl rfl) rfl rfl hl.1 rfl (lv_room (Nat.le_of_ble_eq_true rfl)) dX3_putWay_34 ⟨Nat.zero_le _, Nat.zero_le _⟩) hP hD hS [0, 1, 2] [] rfl rfl (by decide) (fun _ => rfl) (fun _ H locs hq3 hP hD hS => ?_)
    have hP : va_P (dC, dI) qCl [(h0, .inr (3, [.ref a1, .ref a2, .int (nI (n)), .int (bI (jn))])), (a1, .inl (cI, 4, .inl (nF (va_up nm i (32 + (w / 2)))))), (a2, .inl (cI, 8, .inl (nF (f_put pl i b a))))] H := hP
    have hD : va_D A [(h0, .inr (3, [.ref a1, .ref a2, .int (nI (n)), .int (bI (jn))])), (a1, .inl (cI, 4, .inl (nF (va_up nm i (32 + (w / 2)))))), (a2, .inl (cI, 8, .inl (nF (f_put pl i b a))))] := hD
    have hP : va_P (dC, dI) qCl [(h0, .inr (3, [.ref a1, .ref a2, .int (nI (n)), .int (bI (jn))])), (a1, .inl (cI, 4, .inl (nF (va_up nm i (f_wayn w))))), (a2, .inl (cI, 8, .inl (nF (f_put pl i b a))))] H := hP
    have hD : va_D A [(h0, .inr (3, [.ref a1, .ref a2, .int (nI (n)), .int (bI (jn))])), (a1, .inl (cI, 4, .inl (nF (va_up nm i (f_wayn w))))), (a2, .inl (cI, 8, .inl (nF (f_put pl i b a))))] := hD
    have ea4 : (f_put pl i b a) = f_put pl i (f_way1 w a b) (f_way2 w a b) := by (first | (rw [f_way1, f_way2, if_pos (by omega), if_pos (by omega)]) | (rw [f_way1, f_way2, if_neg (by omega), if_neg (by omega)]))
    rw [ea4] at hP hD
    have hP : va_P (dC, dI) qCl [(h0, .inr (3, [.ref a1, .ref a2, .int (nI (n)), .int (bI (jn))])), (a1, .inl (cI, 4, .inl (nF (va_up nm i (f_wayn w))))), (a2, .inl (cI, 8, .inl (nF (f_put pl i (f_way1 w a b) (f_way2 w a b)))))] H := hP
    have hD : va_D A [(h0, .inr (3, [.ref a1, .ref a2, .int (nI (n)), .int (bI (jn))])), (a1, .inl (cI, 4, .inl (nF (va_up nm i (f_wayn w))))), (a2, .inl (cI, 8, .inl (nF (f_put pl i (f_way1 w a b) (f_way2 w a b)))))] := hD
    subst hQ
    subst hAe
    have hP9 := hP.sub (ws' := [(h0, .inr (3, [.ref a1, .ref a2, .int (nI (n)), .int (bI (jn))])), (a1, .inl (cI, 4, .inl (nF (va_up nm i (f_wayn w))))), (a2, .inl (cI, 8, .inl (nF (f_put pl i (f_way1 w a b) (f_way2 w a b)))))]) [0, 1, 2] rfl
    exact W.vret hx hb hr (fun t9 h9 _ => ⟨⟨(), rfl, trivial, by show va_P _ _ _ t9.heap; rw [h9]; exact hP9⟩, hS.F h9⟩) hS.2.2 dX3_putWay_37
  · refine lv_aload_n hx hb dX3_putWay_6 rfl (lv_at hl 0 rfl) ?_
    refine lv_iload_n hx hb dX3_putWay_7 rfl (lv_at hl 1 rfl) ?_
    refine lv_bipush (v := (nI (32))) hx hb dX3_putWay_8 (by decide) ?_
    refine lv_iload_n hx hb dX3_putWay_10 rfl (lv_at hl 2 rfl) ?_
    refine lv_iconst (v := (nI (2))) hx hb dX3_putWay_11 (by decide) ?_
    refine q_idiv (x := w) (y := 2) hx hb (by omega) (by omega) (by omega) dX3_putWay_12 ?_
    refine q_iadd (x := 32) (y := w / 2) hx hb dX3_putWay_13 ?_
    refine lv_iload_n hx hb dX3_putWay_14 rfl (lv_at hl 3 rfl) ?_
    refine lv_iload hx hb dX3_putWay_15 (lv_at hl 4 rfl) ?_
    refine q_joinv (wr := []) (va_runV (As := [.int (nI (i)), .int (nI (32 + (w / 2))), .int (nI (a)), .int (nI (b))]) (rest := []) ⟨hx, hb, hml, hown, hts⟩ (c_Form_put l dC dI cI cL cQ cZ h0 a1 a2 n jn nm pl i (32 + (w / 2)) a b (show i < 4 from by first | assumption | omega)) (q_cwV 4 hts gkX3_put kmX3_46 knX3_put klX3_put kiX3 rfl rfl rfl (by decide +kernel) ⟨Nat.le_of_ble_eq_true rfl, Nat.le_of_ble_eq_true rfl⟩) (q_preVW hK hP hD [0, 1, 2] rfl (by decide) 0 (ci := 3) (r := (RX3, TX3, 4)) rfl rfl) rfl rfl hl.1 rfl (lv_room (Nat.le_of_ble_eq_true rfl)) dX3_putWay_17 ⟨Nat.zero_le _, Nat.zero_le _⟩) hP hD hS [0, 1, 2] [] rfl rfl (by decide) (fun _ => rfl) (fun _ H locs hq6 hP hD hS => ?_)
    have hP : va_P (dC, dI) qCl [(h0, .inr (3, [.ref a1, .ref a2, .int (nI (n)), .int (bI (jn))])), (a1, .inl (cI, 4, .inl (nF (va_up nm i (32 + (w / 2)))))), (a2, .inl (cI, 8, .inl (nF (f_put pl i a b))))] H := hP
    have hD : va_D A [(h0, .inr (3, [.ref a1, .ref a2, .int (nI (n)), .int (bI (jn))])), (a1, .inl (cI, 4, .inl (nF (va_up nm i (32 + (w / 2)))))), (a2, .inl (cI, 8, .inl (nF (f_put pl i a b))))] := hD
    refine lv_goto (tgt := 37) hx hb dX3_putWay_20 (by decide) ?_
    have hP : va_P (dC, dI) qCl [(h0, .inr (3, [.ref a1, .ref a2, .int (nI (n)), .int (bI (jn))])), (a1, .inl (cI, 4, .inl (nF (va_up nm i (f_wayn w))))), (a2, .inl (cI, 8, .inl (nF (f_put pl i a b))))] H := hP
    have hD : va_D A [(h0, .inr (3, [.ref a1, .ref a2, .int (nI (n)), .int (bI (jn))])), (a1, .inl (cI, 4, .inl (nF (va_up nm i (f_wayn w))))), (a2, .inl (cI, 8, .inl (nF (f_put pl i a b))))] := hD
    have ea7 : (f_put pl i a b) = f_put pl i (f_way1 w a b) (f_way2 w a b) := by (first | (rw [f_way1, f_way2, if_pos (by omega), if_pos (by omega)]) | (rw [f_way1, f_way2, if_neg (by omega), if_neg (by omega)]))
    rw [ea7] at hP hD
    have hP : va_P (dC, dI) qCl [(h0, .inr (3, [.ref a1, .ref a2, .int (nI (n)), .int (bI (jn))])), (a1, .inl (cI, 4, .inl (nF (va_up nm i (f_wayn w))))), (a2, .inl (cI, 8, .inl (nF (f_put pl i (f_way1 w a b) (f_way2 w a b)))))] H := hP
    have hD : va_D A [(h0, .inr (3, [.ref a1, .ref a2, .int (nI (n)), .int (bI (jn))])), (a1, .inl (cI, 4, .inl (nF (va_up nm i (f_wayn w))))), (a2, .inl (cI, 8, .inl (nF (f_put pl i (f_way1 w a b) (f_way2 w a b)))))] := hD
    subst hQ
    subst hAe
    have hP9 := hP.sub (ws' := [(h0, .inr (3, [.ref a1, .ref a2, .int (nI (n)), .int (bI (jn))])), (a1, .inl (cI, 4, .inl (nF (va_up nm i (f_wayn w))))), (a2, .inl (cI, 8, .inl (nF (f_put pl i (f_way1 w a b) (f_way2 w a b)))))]) [0, 1, 2] rfl
    exact W.vret hx hb hr (fun t9 h9 _ => ⟨⟨(), rfl, trivial, by show va_P _ _ _ t9.heap; rw [h9]; exact hP9⟩, hS.F h9⟩) hS.2.2 dX3_putWay_37
abbrev rm_c_Form_putSort : Room := { frames := 2, cells := 0, slots := 0, locals := 48 }
set_option maxHeartbeats 4000000 in
set_option maxRecDepth 100000 in
theorem c_Form_putSort (l : Launch) (dC : Nat → ClassId) (dI : Nat → Nat → Nat) (cI cL cQ cZ : ClassId) (h0 : Nat) (a1 : Nat) (a2 : Nat) (n : Nat) (jn : Bool) (nm : Nat → Nat) (pl : Nat → Nat) (i : Nat) (w : Nat) (a : Nat) (hi : i < 4) (hw : w < 64) : Met l yX3_putSort wkX3_putSort rm_c_Form_putSort (q_W (dC, dI) qCl (qT cI cL cQ cZ) [(h0, .inr (3, [.ref a1, .ref a2, .int (nI (n)), .int (bI (jn))])), (a1, .inl (cI, 4, .inl (nF nm))), (a2, .inl (cI, 8, .inl (nF pl)))] [.ref h0, .int (nI (i)), .int (nI (w)), .int (nI (a))]) (va_Qv (fun (u : Unit) => True) (fun (u : Unit) t => va_P (dC, dI) qCl [(h0, .inr (3, [.ref a1, .ref a2, .int (nI (n)), .int (bI (jn))])), (a1, .inl (cI, 4, .inl (nF (va_up nm i (f_sortn w))))), (a2, .inl (cI, 8, .inl (nF (f_put pl i (f_sort1 w a) (f_sort2 w a)))))] t.heap) (q_A [(h0, .inr (3, [.ref a1, .ref a2, .int (nI (n)), .int (bI (jn))])), (a1, .inl (cI, 4, .inl (nF nm))), (a2, .inl (cI, 8, .inl (nF pl)))])) 0 0 (q_A [(h0, .inr (3, [.ref a1, .ref a2, .int (nI (n)), .int (bI (jn))])), (a1, .inl (cI, 4, .inl (nF nm))), (a2, .inl (cI, 8, .inl (nF pl)))]) := by
  refine Met.ofW (cc := cX3_putSort) (maxL := 4) (ret := none) (by decide) rfl ?_
  intro p e s m args below meth c s₁ B hml hv
  obtain ⟨hargs, hP, hK, hD0⟩ := hv
  have hx := B.exec
  have hb := B.bytes
  have hr := B.returns
  have hts : ∀ w ∈ qW, w.before args s = true := fun w h => atoms_spec (ws := wkX3_putSort) B.pre w (List.mem_cons_of_mem _ h)
  have hown : s.vm.findClass RX3 = some m.cls := findClass_of_methodNamed B.named
  have hlocks := B.notSynchronized
  refine q_named (fun Q hQ => ?_)
  have hD : va_D (q_A [(h0, .inr (3, [.ref a1, .ref a2, .int (nI (n)), .int (bI (jn))])), (a1, .inl (cI, 4, .inl (nF nm))), (a2, .inl (cI, 8, .inl (nF pl)))]) [(h0, .inr (3, [.ref a1, .ref a2, .int (nI (n)), .int (bI (jn))])), (a1, .inl (cI, 4, .inl (nF nm))), (a2, .inl (cI, 8, .inl (nF pl)))] := ⟨hD0.1, fun k q h => ⟨k, q.2, h⟩⟩
  generalize hAe : q_A [(h0, .inr (3, [.ref a1, .ref a2, .int (nI (n)), .int (bI (jn))])), (a1, .inl (cI, 4, .inl (nF nm))), (a2, .inl (cI, 8, .inl (nF pl)))] = A at hD
  have hS : va_S A s.heap s.heap [] := va_S.rf
  refine q_entry hargs (Nat.le_of_ble_eq_true rfl) (fun ls hl => ?_)
  have hl : lv_has ls 4 [(0, .ref h0), (1, .int (nI (i))), (2, .int (nI (w))), (3, .int (nI (a)))] := hl
  obtain ⟨H, locs, eH, eL⟩ : ∃ (H : Heap) (locs : List Loc), s.heap = H ∧ ([] : List Loc) = locs := ⟨_, _, rfl, rfl⟩
  have hS : va_S A s.heap H locs := by rw [← eH, ← eL]; exact hS
  have hP : va_P (dC, dI) qCl [(h0, .inr (3, [.ref a1, .ref a2, .int (nI (n)), .int (bI (jn))])), (a1, .inl (cI, 4, .inl (nF nm))), (a2, .inl (cI, 8, .inl (nF pl)))] H := by rw [← eH]; exact hP
  refine W_at eH eL ?_
  refine lv_iload_n hx hb dX3_putSort_0 rfl (lv_at hl 2 rfl) ?_
  refine lv_bipush (v := (nI (20))) hx hb dX3_putSort_1 (by decide) ?_
  refine q_icmp_ge (x := w) (y := 20) (tgt := 18) hx hb dX3_putSort_3 (by decide) (by omega) (by omega) (fun c3_1 => ?_) (fun c3_1 => ?_)
  · refine lv_aload_n hx hb dX3_putSort_18 rfl (lv_at hl 0 rfl) ?_
    refine lv_iload_n hx hb dX3_putSort_19 rfl (lv_at hl 1 rfl) ?_
    refine lv_iload_n hx hb dX3_putSort_20 rfl (lv_at hl 2 rfl) ?_
    refine lv_bipush (v := (nI (20))) hx hb dX3_putSort_21 (by decide) ?_
    refine q_isub (x := w) (y := 20) hx hb (by omega) dX3_putSort_23 ?_
    refine lv_iload_n hx hb dX3_putSort_24 rfl (lv_at hl 3 rfl) ?_
    refine lv_bipush (v := (nI (6))) hx hb dX3_putSort_25 (by decide) ?_
    refine q_joinv (wr := []) (va_runV (As := [.int (nI (i)), .int (nI (w - 20)), .int (nI (a)), .int (nI (6))]) (rest := []) ⟨hx, hb, hml, hown, hts⟩ (c_Form_putWay l dC dI cI cL cQ cZ h0 a1 a2 n jn nm pl i (w - 20) a 6 (show i < 4 from by first | assumption | omega) (show (w - 20) < 64 from by first | assumption | omega)) (q_cwV 4 hts gkX3_putWay kmX3_56 knX3_putWay klX3_putWay kiX3 rfl rfl rfl (by decide +kernel) ⟨Nat.le_of_ble_eq_true rfl, Nat.le_of_ble_eq_true rfl⟩) (q_preVW hK hP hD [0, 1, 2] rfl (by decide) 0 (ci := 3) (r := (RX3, TX3, 4)) rfl rfl) rfl rfl hl.1 rfl (lv_room (Nat.le_of_ble_eq_true rfl)) dX3_putSort_27 ⟨Nat.zero_le _, Nat.zero_le _⟩) hP hD hS [0, 1, 2] [] rfl rfl (by decide) (fun _ => rfl) (fun _ H locs hq3 hP hD hS => ?_)
    have hP : va_P (dC, dI) qCl [(h0, .inr (3, [.ref a1, .ref a2, .int (nI (n)), .int (bI (jn))])), (a1, .inl (cI, 4, .inl (nF (va_up nm i (f_wayn (w - 20)))))), (a2, .inl (cI, 8, .inl (nF (f_put pl i (f_way1 (w - 20) a 6) (f_way2 (w - 20) a 6)))))] H := hP
    have hD : va_D A [(h0, .inr (3, [.ref a1, .ref a2, .int (nI (n)), .int (bI (jn))])), (a1, .inl (cI, 4, .inl (nF (va_up nm i (f_wayn (w - 20)))))), (a2, .inl (cI, 8, .inl (nF (f_put pl i (f_way1 (w - 20) a 6) (f_way2 (w - 20) a 6)))))] := hD
    have ea4 : (va_up nm i (f_wayn (w - 20))) = va_up nm i (f_sortn w) := by (first | (rw [f_sortn, if_pos (by omega)]) | (rw [f_sortn, if_neg (by omega)]))
    rw [ea4] at hP hD
    have hP : va_P (dC, dI) qCl [(h0, .inr (3, [.ref a1, .ref a2, .int (nI (n)), .int (bI (jn))])), (a1, .inl (cI, 4, .inl (nF (va_up nm i (f_sortn w))))), (a2, .inl (cI, 8, .inl (nF (f_put pl i (f_way1 (w - 20) a 6) (f_way2 (w - 20) a 6)))))] H := hP
    have hD : va_D A [(h0, .inr (3, [.ref a1, .ref a2, .int (nI (n)), .int (bI (jn))])), (a1, .inl (cI, 4, .inl (nF (va_up nm i (f_sortn w))))), (a2, .inl (cI, 8, .inl (nF (f_put pl i (f_way1 (w - 20) a 6) (f_way2 (w - 20) a 6)))))] := hD
    have ea5 : (f_put pl i (f_way1 (w - 20) a 6) (f_way2 (w - 20) a 6)) = f_put pl i (f_sort1 w a) (f_sort2 w a) := by (first | (rw [f_sort1, f_sort2, if_pos (by omega), if_pos (by omega)]) | (rw [f_sort1, f_sort2, if_neg (by omega), if_neg (by omega)]))
    rw [ea5] at hP hD
    have hP : va_P (dC, dI) qCl [(h0, .inr (3, [.ref a1, .ref a2, .int (nI (n)), .int (bI (jn))])), (a1, .inl (cI, 4, .inl (nF (va_up nm i (f_sortn w))))), (a2, .inl (cI, 8, .inl (nF (f_put pl i (f_sort1 w a) (f_sort2 w a)))))] H := hP
    have hD : va_D A [(h0, .inr (3, [.ref a1, .ref a2, .int (nI (n)), .int (bI (jn))])), (a1, .inl (cI, 4, .inl (nF (va_up nm i (f_sortn w))))), (a2, .inl (cI, 8, .inl (nF (f_put pl i (f_sort1 w a) (f_sort2 w a)))))] := hD
    subst hQ
    subst hAe
    have hP9 := hP.sub (ws' := [(h0, .inr (3, [.ref a1, .ref a2, .int (nI (n)), .int (bI (jn))])), (a1, .inl (cI, 4, .inl (nF (va_up nm i (f_sortn w))))), (a2, .inl (cI, 8, .inl (nF (f_put pl i (f_sort1 w a) (f_sort2 w a)))))]) [0, 1, 2] rfl
    exact W.vret hx hb hr (fun t9 h9 _ => ⟨⟨(), rfl, trivial, by show va_P _ _ _ t9.heap; rw [h9]; exact hP9⟩, hS.F h9⟩) hS.2.2 dX3_putSort_30
  · refine lv_aload_n hx hb dX3_putSort_6 rfl (lv_at hl 0 rfl) ?_
    refine lv_iload_n hx hb dX3_putSort_7 rfl (lv_at hl 1 rfl) ?_
    refine lv_iload_n hx hb dX3_putSort_8 rfl (lv_at hl 2 rfl) ?_
    refine lv_iload_n hx hb dX3_putSort_9 rfl (lv_at hl 3 rfl) ?_
    refine lv_bipush (v := (nI (7))) hx hb dX3_putSort_10 (by decide) ?_
    refine q_joinv (wr := []) (va_runV (As := [.int (nI (i)), .int (nI (w)), .int (nI (a)), .int (nI (7))]) (rest := []) ⟨hx, hb, hml, hown, hts⟩ (c_Form_put l dC dI cI cL cQ cZ h0 a1 a2 n jn nm pl i w a 7 (show i < 4 from by first | assumption | omega)) (q_cwV 4 hts gkX3_put kmX3_46 knX3_put klX3_put kiX3 rfl rfl rfl (by decide +kernel) ⟨Nat.le_of_ble_eq_true rfl, Nat.le_of_ble_eq_true rfl⟩) (q_preVW hK hP hD [0, 1, 2] rfl (by decide) 0 (ci := 3) (r := (RX3, TX3, 4)) rfl rfl) rfl rfl hl.1 rfl (lv_room (Nat.le_of_ble_eq_true rfl)) dX3_putSort_12 ⟨Nat.zero_le _, Nat.zero_le _⟩) hP hD hS [0, 1, 2] [] rfl rfl (by decide) (fun _ => rfl) (fun _ H locs hq7 hP hD hS => ?_)
    have hP : va_P (dC, dI) qCl [(h0, .inr (3, [.ref a1, .ref a2, .int (nI (n)), .int (bI (jn))])), (a1, .inl (cI, 4, .inl (nF (va_up nm i w)))), (a2, .inl (cI, 8, .inl (nF (f_put pl i a 7))))] H := hP
    have hD : va_D A [(h0, .inr (3, [.ref a1, .ref a2, .int (nI (n)), .int (bI (jn))])), (a1, .inl (cI, 4, .inl (nF (va_up nm i w)))), (a2, .inl (cI, 8, .inl (nF (f_put pl i a 7))))] := hD
    refine lv_goto (tgt := 30) hx hb dX3_putSort_15 (by decide) ?_
    have ea8 : (va_up nm i w) = va_up nm i (f_sortn w) := by (first | (rw [f_sortn, if_pos (by omega)]) | (rw [f_sortn, if_neg (by omega)]))
    rw [ea8] at hP hD
    have hP : va_P (dC, dI) qCl [(h0, .inr (3, [.ref a1, .ref a2, .int (nI (n)), .int (bI (jn))])), (a1, .inl (cI, 4, .inl (nF (va_up nm i (f_sortn w))))), (a2, .inl (cI, 8, .inl (nF (f_put pl i a 7))))] H := hP
    have hD : va_D A [(h0, .inr (3, [.ref a1, .ref a2, .int (nI (n)), .int (bI (jn))])), (a1, .inl (cI, 4, .inl (nF (va_up nm i (f_sortn w))))), (a2, .inl (cI, 8, .inl (nF (f_put pl i a 7))))] := hD
    have ea9 : (f_put pl i a 7) = f_put pl i (f_sort1 w a) (f_sort2 w a) := by (first | (rw [f_sort1, f_sort2, if_pos (by omega), if_pos (by omega)]) | (rw [f_sort1, f_sort2, if_neg (by omega), if_neg (by omega)]))
    rw [ea9] at hP hD
    have hP : va_P (dC, dI) qCl [(h0, .inr (3, [.ref a1, .ref a2, .int (nI (n)), .int (bI (jn))])), (a1, .inl (cI, 4, .inl (nF (va_up nm i (f_sortn w))))), (a2, .inl (cI, 8, .inl (nF (f_put pl i (f_sort1 w a) (f_sort2 w a)))))] H := hP
    have hD : va_D A [(h0, .inr (3, [.ref a1, .ref a2, .int (nI (n)), .int (bI (jn))])), (a1, .inl (cI, 4, .inl (nF (va_up nm i (f_sortn w))))), (a2, .inl (cI, 8, .inl (nF (f_put pl i (f_sort1 w a) (f_sort2 w a)))))] := hD
    subst hQ
    subst hAe
    have hP9 := hP.sub (ws' := [(h0, .inr (3, [.ref a1, .ref a2, .int (nI (n)), .int (bI (jn))])), (a1, .inl (cI, 4, .inl (nF (va_up nm i (f_sortn w))))), (a2, .inl (cI, 8, .inl (nF (f_put pl i (f_sort1 w a) (f_sort2 w a)))))]) [0, 1, 2] rfl
    exact W.vret hx hb hr (fun t9 h9 _ => ⟨⟨(), rfl, trivial, by show va_P _ _ _ t9.heap; rw [h9]; exact hP9⟩, hS.F h9⟩) hS.2.2 dX3_putSort_30
abbrev rm_c_Form_rename : Room := { frames := 0, cells := 0, slots := 0, locals := 0 }
set_option maxHeartbeats 4000000 in
set_option maxRecDepth 100000 in
theorem c_Form_rename (l : Launch) (dC : Nat → ClassId) (dI : Nat → Nat → Nat) (cI cL cQ cZ : ClassId) (h0 : Nat) (a1 : Nat) (a2 : Nat) (n : Nat) (jn : Bool) (nm : Nat → Nat) (pl : Nat → Nat) (fr : Nat) (to : Nat) (hn : n ≤ 4) (hpl : ∀ j, pl j < 16) (hfr : fr < 16) : Met l yX3_rename wkX3_rename rm_c_Form_rename (q_W (dC, dI) qCl (qT cI cL cQ cZ) [(h0, .inr (3, [.ref a1, .ref a2, .int (nI (n)), .int (bI (jn))])), (a1, .inl (cI, 4, .inl (nF nm))), (a2, .inl (cI, 8, .inl (nF pl)))] [.ref h0, .int (nI (fr)), .int (nI (to))]) (va_Qv (fun (u : Unit) => True) (fun (u : Unit) t => va_P (dC, dI) qCl [(h0, .inr (3, [.ref a1, .ref a2, .int (nI (n)), .int (bI (jn || decide (fr = 1)))])), (a1, .inl (cI, 4, .inl (nF nm))), (a2, .inl (cI, 8, .inl (nF (f_ren pl (2 * n) fr to))))] t.heap) (q_A [(h0, .inr (3, [.ref a1, .ref a2, .int (nI (n)), .int (bI (jn))])), (a1, .inl (cI, 4, .inl (nF nm))), (a2, .inl (cI, 8, .inl (nF pl)))])) 0 0 (q_A [(h0, .inr (3, [.ref a1, .ref a2, .int (nI (n)), .int (bI (jn))])), (a1, .inl (cI, 4, .inl (nF nm))), (a2, .inl (cI, 8, .inl (nF pl)))]) := by
  refine Met.ofW (cc := cX3_rename) (maxL := 4) (ret := none) (by decide) rfl ?_
  intro p e s m args below meth c s₁ B hml hv
  obtain ⟨hargs, hP, hK, hD0⟩ := hv
  have hx := B.exec
  have hb := B.bytes
  have hr := B.returns
  have hts : ∀ w ∈ qW, w.before args s = true := fun w h => atoms_spec (ws := wkX3_rename) B.pre w (List.mem_cons_of_mem _ h)
  have hown : s.vm.findClass RX3 = some m.cls := findClass_of_methodNamed B.named
  have hlocks := B.notSynchronized
  refine q_named (fun Q hQ => ?_)
  have hD : va_D (q_A [(h0, .inr (3, [.ref a1, .ref a2, .int (nI (n)), .int (bI (jn))])), (a1, .inl (cI, 4, .inl (nF nm))), (a2, .inl (cI, 8, .inl (nF pl)))]) [(h0, .inr (3, [.ref a1, .ref a2, .int (nI (n)), .int (bI (jn))])), (a1, .inl (cI, 4, .inl (nF nm))), (a2, .inl (cI, 8, .inl (nF pl)))] := ⟨hD0.1, fun k q h => ⟨k, q.2, h⟩⟩
  generalize hAe : q_A [(h0, .inr (3, [.ref a1, .ref a2, .int (nI (n)), .int (bI (jn))])), (a1, .inl (cI, 4, .inl (nF nm))), (a2, .inl (cI, 8, .inl (nF pl)))] = A at hD
  have hS : va_S A s.heap s.heap [] := va_S.rf
  refine q_entry hargs (Nat.le_of_ble_eq_true rfl) (fun ls hl => ?_)
  have hl : lv_has ls 4 [(0, .ref h0), (1, .int (nI (fr))), (2, .int (nI (to)))] := hl
  obtain ⟨H, locs, eH, eL⟩ : ∃ (H : Heap) (locs : List Loc), s.heap = H ∧ ([] : List Loc) = locs := ⟨_, _, rfl, rfl⟩
  have hS : va_S A s.heap H locs := by rw [← eH, ← eL]; exact hS
  have hP : va_P (dC, dI) qCl [(h0, .inr (3, [.ref a1, .ref a2, .int (nI (n)), .int (bI (jn))])), (a1, .inl (cI, 4, .inl (nF nm))), (a2, .inl (cI, 8, .inl (nF pl)))] H := by rw [← eH]; exact hP
  refine W_at eH eL ?_
  refine lv_iconst (v := (nI (0))) hx hb dX3_rename_0 (by decide) ?_
  refine lv_istore_n (lv' := [(3, .int (nI (0))), (0, .ref h0), (1, .int (nI (fr))), (2, .int (nI (to)))]) hx hb dX3_rename_1 rfl hl (by decide) rfl (fun ls hl => ?_)
  have L2 : ∀ (fu : Nat) (g : Nat → Nat) (i : Nat) (ls : Array Slot) (H : Heap) (locs : List Loc), 2 * n - i < fu → (g = f_ren pl i fr to) → (i ≤ 2 * n) → lv_has ls 4 [(3, .int (nI (i))), (0, .ref h0), (1, .int (nI (fr))), (2, .int (nI (to)))] → va_P (dC, dI) qCl [(h0, .inr (3, [.ref a1, .ref a2, .int (nI (n)), .int (bI (jn))])), (a1, .inl (cI, 4, .inl (nF nm))), (a2, .inl (cI, 8, .inl (nF g)))] H → va_D A [(h0, .inr (3, [.ref a1, .ref a2, .int (nI (n)), .int (bI (jn))])), (a1, .inl (cI, 4, .inl (nF nm))), (a2, .inl (cI, 8, .inl (nF g)))] → va_S A s.heap H locs → W p l e (headSpec wkX3_rename rm_c_Form_rename).room s m args below meth c H locs 0 0 Q (F0 m 2 ls []) := by
    intro fu
    induction fu with
    | zero => intro g i ls H locs hmu; exact absurd hmu (Nat.not_lt_zero _)
    | succ fu ih2 =>
      intro g i ls H locs hmu hg hi hl hP hD hS
      refine lv_iload_n hx hb dX3_rename_2 rfl (lv_at hl 0 rfl) ?_
      refine lv_iconst (v := (nI (2))) hx hb dX3_rename_3 (by decide) ?_
      refine lv_aload_n hx hb dX3_rename_4 rfl (lv_at hl 1 rfl) ?_
      refine va_get (D := (dC, dI)) (ci := 3) (v := .int (nI (n))) (C := RX3) (T := TX3) (N := 4) hx hb hts uX3 hown hK hP 0 rfl rfl 2 (by decide) (hts _ kfX3_18) (fun _ h9 => h9) rfl dX3_rename_5 ?_
      refine q_imul (x := 2) (y := n) hx hb dX3_rename_8 ?_
      refine q_icmp_ge (x := i) (y := 2 * n) (tgt := 35) hx hb dX3_rename_9 (by decide) (by omega) (by omega) (fun c9_1 => ?_) (fun c9_1 => ?_)
      · refine lv_iload_n hx hb dX3_rename_35 rfl (lv_at hl 2 rfl) ?_
        refine lv_iconst (v := (nI (1))) hx hb dX3_rename_36 (by decide) ?_
        refine q_icmp_ne (x := fr) (y := 1) (tgt := 45) hx hb dX3_rename_37 (by decide) (by omega) (by omega) (fun c37_2 => ?_) (fun c37_2 => ?_)
        · have ef3 : (.int (bI (jn)) : Value) = .int (bI (jn || decide (fr = 1))) := by (simp [*])
          rw [ef3] at hP hD
          have hP : va_P (dC, dI) qCl [(h0, .inr (3, [.ref a1, .ref a2, .int (nI (n)), .int (bI (jn || decide (fr = 1)))])), (a1, .inl (cI, 4, .inl (nF nm))), (a2, .inl (cI, 8, .inl (nF g)))] H := hP
          have hD : va_D A [(h0, .inr (3, [.ref a1, .ref a2, .int (nI (n)), .int (bI (jn || decide (fr = 1)))])), (a1, .inl (cI, 4, .inl (nF nm))), (a2, .inl (cI, 8, .inl (nF g)))] := hD
          have ea4 : (g) = f_ren pl (2 * n) fr to := by (rw [hg, show i = 2 * n by omega])
          rw [ea4] at hP hD
          have hP : va_P (dC, dI) qCl [(h0, .inr (3, [.ref a1, .ref a2, .int (nI (n)), .int (bI (jn || decide (fr = 1)))])), (a1, .inl (cI, 4, .inl (nF nm))), (a2, .inl (cI, 8, .inl (nF (f_ren pl (2 * n) fr to))))] H := hP
          have hD : va_D A [(h0, .inr (3, [.ref a1, .ref a2, .int (nI (n)), .int (bI (jn || decide (fr = 1)))])), (a1, .inl (cI, 4, .inl (nF nm))), (a2, .inl (cI, 8, .inl (nF (f_ren pl (2 * n) fr to))))] := hD
          subst hQ
          subst hAe
          have hP9 := hP.sub (ws' := [(h0, .inr (3, [.ref a1, .ref a2, .int (nI (n)), .int (bI (jn || decide (fr = 1)))])), (a1, .inl (cI, 4, .inl (nF nm))), (a2, .inl (cI, 8, .inl (nF (f_ren pl (2 * n) fr to))))]) [0, 1, 2] rfl
          exact W.vret hx hb hr (fun t9 h9 _ => ⟨⟨(), rfl, trivial, by show va_P _ _ _ t9.heap; rw [h9]; exact hP9⟩, hS.F h9⟩) hS.2.2 dX3_rename_45
        · refine lv_aload_n hx hb dX3_rename_40 rfl (lv_at hl 1 rfl) ?_
          refine lv_iconst (v := (nI (1))) hx hb dX3_rename_41 (by decide) ?_
          refine va_put (D := (dC, dI)) (ci := 3) (v := .int (bI (true))) (ty := .boolean) (C := RX3) (T := TX3) (N := 4) hx hb hts uX3 tyX3 tyX3_ok nmX3 hown hK hP hD hS 0 rfl rfl 3 (by decide) (hts _ kfX3_22) (fun _ h9 => h9) rfl (by decide +kernel) (bI_nar _) (rfl) (Nat.le_of_ble_eq_true rfl) dX3_rename_42 (fun H locs hP hD hS => ?_)
          have hP : va_P (dC, dI) qCl [(h0, .inr (3, [.ref a1, .ref a2, .int (nI (n)), .int (bI (true))])), (a1, .inl (cI, 4, .inl (nF nm))), (a2, .inl (cI, 8, .inl (nF g)))] H := hP
          have hD : va_D A [(h0, .inr (3, [.ref a1, .ref a2, .int (nI (n)), .int (bI (true))])), (a1, .inl (cI, 4, .inl (nF nm))), (a2, .inl (cI, 8, .inl (nF g)))] := hD
          have ef5 : (.int (bI (true)) : Value) = .int (bI (jn || decide (fr = 1))) := by (simp [*])
          rw [ef5] at hP hD
          have hP : va_P (dC, dI) qCl [(h0, .inr (3, [.ref a1, .ref a2, .int (nI (n)), .int (bI (jn || decide (fr = 1)))])), (a1, .inl (cI, 4, .inl (nF nm))), (a2, .inl (cI, 8, .inl (nF g)))] H := hP
          have hD : va_D A [(h0, .inr (3, [.ref a1, .ref a2, .int (nI (n)), .int (bI (jn || decide (fr = 1)))])), (a1, .inl (cI, 4, .inl (nF nm))), (a2, .inl (cI, 8, .inl (nF g)))] := hD
          have ea6 : (g) = f_ren pl (2 * n) fr to := by (rw [hg, show i = 2 * n by omega])
          rw [ea6] at hP hD
          have hP : va_P (dC, dI) qCl [(h0, .inr (3, [.ref a1, .ref a2, .int (nI (n)), .int (bI (jn || decide (fr = 1)))])), (a1, .inl (cI, 4, .inl (nF nm))), (a2, .inl (cI, 8, .inl (nF (f_ren pl (2 * n) fr to))))] H := hP
          have hD : va_D A [(h0, .inr (3, [.ref a1, .ref a2, .int (nI (n)), .int (bI (jn || decide (fr = 1)))])), (a1, .inl (cI, 4, .inl (nF nm))), (a2, .inl (cI, 8, .inl (nF (f_ren pl (2 * n) fr to))))] := hD
          subst hQ
          subst hAe
          have hP9 := hP.sub (ws' := [(h0, .inr (3, [.ref a1, .ref a2, .int (nI (n)), .int (bI (jn || decide (fr = 1)))])), (a1, .inl (cI, 4, .inl (nF nm))), (a2, .inl (cI, 8, .inl (nF (f_ren pl (2 * n) fr to))))]) [0, 1, 2] rfl
          exact W.vret hx hb hr (fun t9 h9 _ => ⟨⟨(), rfl, trivial, by show va_P _ _ _ t9.heap; rw [h9]; exact hP9⟩, hS.F h9⟩) hS.2.2 dX3_rename_45
      · refine lv_aload_n hx hb dX3_rename_12 rfl (lv_at hl 1 rfl) ?_
        refine va_get (D := (dC, dI)) (ci := 3) (v := .ref a2) (C := RX3) (T := TX3) (N := 4) hx hb hts uX3 hown hK hP 0 rfl rfl 1 (by decide) (hts _ kfX3_15) (fun _ h9 => h9) rfl dX3_rename_13 ?_
        refine lv_iload_n hx hb dX3_rename_16 rfl (lv_at hl 0 rfl) ?_
        refine q_ialdN hx hb hK hP 2 0 rfl rfl (j := i) (by omega) (by omega) dX3_rename_17 ?_
        refine lv_iload_n hx hb dX3_rename_18 rfl (lv_at hl 2 rfl) ?_
        refine q_icmp_ne (x := g i) (y := fr) (tgt := 29) hx hb dX3_rename_19 (by decide) (by (rw [hg, f_ren_at]; have := hpl i; omega)) (by omega) (fun c19_7 => ?_) (fun c19_7 => ?_)
        · refine lv_iinc (v := (nI (i + 1))) (lv' := [(3, .int (nI (i + 1))), (0, .ref h0), (1, .int (nI (fr))), (2, .int (nI (to)))]) hx hb dX3_rename_29 hl (k := 0) rfl (q_inc _) (by decide) rfl (fun ls hl => ?_)
          refine lv_goto (tgt := 2) hx hb dX3_rename_32 (by decide) ?_
          exact ih2 g (i + 1) ls _ _ (by omega) (show g = f_ren pl (i + 1) fr to from by (first | (rw [hg]; exact f_ren_t to (by rw [hg, f_ren_at] at *; omega)) | (rw [hg]; exact f_ren_f to (by rw [hg, f_ren_at] at *; omega)))) (show (i + 1) ≤ 2 * n from by omega) (lv_sub hl [0, 1, 2, 3] rfl) (hP.sub [0, 1, 2] rfl) (hD.sub [0, 1, 2] (by decide) rfl) hS
        · refine lv_aload_n hx hb dX3_rename_22 rfl (lv_at hl 1 rfl) ?_
          refine va_get (D := (dC, dI)) (ci := 3) (v := .ref a2) (C := RX3) (T := TX3) (N := 4) hx hb hts uX3 hown hK hP 0 rfl rfl 1 (by decide) (hts _ kfX3_15) (fun _ h9 => h9) rfl dX3_rename_23 ?_
          refine lv_iload_n hx hb dX3_rename_26 rfl (lv_at hl 0 rfl) ?_
          refine lv_iload_n hx hb dX3_rename_27 rfl (lv_at hl 3 rfl) ?_
          refine q_iastN hx hb hK hP hD hS 2 0 rfl rfl (j := i) (x := to) (by omega) (by omega) dX3_rename_28 (fun H locs hP hD hS => ?_)
          have hP : va_P (dC, dI) qCl [(h0, .inr (3, [.ref a1, .ref a2, .int (nI (n)), .int (bI (jn))])), (a1, .inl (cI, 4, .inl (nF nm))), (a2, .inl (cI, 8, .inl (nF (va_up g i to))))] H := hP
          have hD : va_D A [(h0, .inr (3, [.ref a1, .ref a2, .int (nI (n)), .int (bI (jn))])), (a1, .inl (cI, 4, .inl (nF nm))), (a2, .inl (cI, 8, .inl (nF (va_up g i to))))] := hD
          refine lv_iinc (v := (nI (i + 1))) (lv' := [(3, .int (nI (i + 1))), (0, .ref h0), (1, .int (nI (fr))), (2, .int (nI (to)))]) hx hb dX3_rename_29 hl (k := 0) rfl (q_inc _) (by decide) rfl (fun ls hl => ?_)
          refine lv_goto (tgt := 2) hx hb dX3_rename_32 (by decide) ?_
          exact ih2 (va_up g i to) (i + 1) ls _ _ (by omega) (show (va_up g i to) = f_ren pl (i + 1) fr to from by (first | (rw [hg]; exact f_ren_t to (by rw [hg, f_ren_at] at *; omega)) | (rw [hg]; exact f_ren_f to (by rw [hg, f_ren_at] at *; omega)))) (show (i + 1) ≤ 2 * n from by omega) (lv_sub hl [0, 1, 2, 3] rfl) (hP.sub [0, 1, 2] rfl) (hD.sub [0, 1, 2] (by decide) rfl) hS
  exact L2 _ pl 0 ls _ _ (by exact Nat.lt_succ_self _) (show pl = f_ren pl 0 fr to from by (exact (f_ren_0 pl fr to).symm)) (show 0 ≤ 2 * n from by omega) (lv_sub hl [0, 1, 2, 3] rfl) (hP.sub [0, 1, 2] rfl) (hD.sub [0, 1, 2] (by decide) rfl) hS
abbrev rm_c_Form_add : Room := { frames := 1, cells := 0, slots := 0, locals := 24 }
set_option maxHeartbeats 4000000 in
set_option maxRecDepth 100000 in
theorem c_Form_add (l : Launch) (dC : Nat → ClassId) (dI : Nat → Nat → Nat) (cI cL cQ cZ : ClassId) (h0 : Nat) (a1 : Nat) (a2 : Nat) (n : Nat) (jn : Bool) (nm : Nat → Nat) (pl : Nat → Nat) (x : Nat) (a : Nat) (b : Nat) (hn : n < 4) : Met l yX3_add wkX3_add rm_c_Form_add (q_W (dC, dI) qCl (qT cI cL cQ cZ) [(h0, .inr (3, [.ref a1, .ref a2, .int (nI (n)), .int (bI (jn))])), (a1, .inl (cI, 4, .inl (nF nm))), (a2, .inl (cI, 8, .inl (nF pl)))] [.ref h0, .int (nI (x)), .int (nI (a)), .int (nI (b))]) (va_Qv (fun (u : Unit) => True) (fun (u : Unit) t => va_P (dC, dI) qCl [(h0, .inr (3, [.ref a1, .ref a2, .int (nI (n + 1)), .int (bI (jn))])), (a1, .inl (cI, 4, .inl (nF (va_up nm n x)))), (a2, .inl (cI, 8, .inl (nF (f_put pl n a b))))] t.heap) (q_A [(h0, .inr (3, [.ref a1, .ref a2, .int (nI (n)), .int (bI (jn))])), (a1, .inl (cI, 4, .inl (nF nm))), (a2, .inl (cI, 8, .inl (nF pl)))])) 0 0 (q_A [(h0, .inr (3, [.ref a1, .ref a2, .int (nI (n)), .int (bI (jn))])), (a1, .inl (cI, 4, .inl (nF nm))), (a2, .inl (cI, 8, .inl (nF pl)))]) := by
  refine Met.ofW (cc := cX3_add) (maxL := 4) (ret := none) (by decide) rfl ?_
  intro p e s m args below meth c s₁ B hml hv
  obtain ⟨hargs, hP, hK, hD0⟩ := hv
  have hx := B.exec
  have hb := B.bytes
  have hr := B.returns
  have hts : ∀ w ∈ qW, w.before args s = true := fun w h => atoms_spec (ws := wkX3_add) B.pre w (List.mem_cons_of_mem _ h)
  have hown : s.vm.findClass RX3 = some m.cls := findClass_of_methodNamed B.named
  have hlocks := B.notSynchronized
  refine q_named (fun Q hQ => ?_)
  have hD : va_D (q_A [(h0, .inr (3, [.ref a1, .ref a2, .int (nI (n)), .int (bI (jn))])), (a1, .inl (cI, 4, .inl (nF nm))), (a2, .inl (cI, 8, .inl (nF pl)))]) [(h0, .inr (3, [.ref a1, .ref a2, .int (nI (n)), .int (bI (jn))])), (a1, .inl (cI, 4, .inl (nF nm))), (a2, .inl (cI, 8, .inl (nF pl)))] := ⟨hD0.1, fun k q h => ⟨k, q.2, h⟩⟩
  generalize hAe : q_A [(h0, .inr (3, [.ref a1, .ref a2, .int (nI (n)), .int (bI (jn))])), (a1, .inl (cI, 4, .inl (nF nm))), (a2, .inl (cI, 8, .inl (nF pl)))] = A at hD
  have hS : va_S A s.heap s.heap [] := va_S.rf
  refine q_entry hargs (Nat.le_of_ble_eq_true rfl) (fun ls hl => ?_)
  have hl : lv_has ls 4 [(0, .ref h0), (1, .int (nI (x))), (2, .int (nI (a))), (3, .int (nI (b)))] := hl
  obtain ⟨H, locs, eH, eL⟩ : ∃ (H : Heap) (locs : List Loc), s.heap = H ∧ ([] : List Loc) = locs := ⟨_, _, rfl, rfl⟩
  have hS : va_S A s.heap H locs := by rw [← eH, ← eL]; exact hS
  have hP : va_P (dC, dI) qCl [(h0, .inr (3, [.ref a1, .ref a2, .int (nI (n)), .int (bI (jn))])), (a1, .inl (cI, 4, .inl (nF nm))), (a2, .inl (cI, 8, .inl (nF pl)))] H := by rw [← eH]; exact hP
  refine W_at eH eL ?_
  refine lv_aload_n hx hb dX3_add_0 rfl (lv_at hl 0 rfl) ?_
  refine va_get (D := (dC, dI)) (ci := 3) (v := .int (nI (n))) (C := RX3) (T := TX3) (N := 4) hx hb hts uX3 hown hK hP 0 rfl rfl 2 (by decide) (hts _ kfX3_18) (fun _ h9 => h9) rfl dX3_add_1 ?_
  refine lv_iconst (v := (nI (4))) hx hb dX3_add_4 (by decide) ?_
  refine q_icmp_ge (x := n) (y := 4) (tgt := 29) hx hb dX3_add_5 (by decide) (by omega) (by omega) (fun c5_1 => ?_) (fun c5_1 => ?_)
  · (exfalso; omega)
  · refine lv_aload_n hx hb dX3_add_8 rfl (lv_at hl 0 rfl) ?_
    refine lv_aload_n hx hb dX3_add_9 rfl (lv_at hl 0 rfl) ?_
    refine va_get (D := (dC, dI)) (ci := 3) (v := .int (nI (n))) (C := RX3) (T := TX3) (N := 4) hx hb hts uX3 hown hK hP 0 rfl rfl 2 (by decide) (hts _ kfX3_18) (fun _ h9 => h9) rfl dX3_add_10 ?_
    refine lv_iload_n hx hb dX3_add_13 rfl (lv_at hl 1 rfl) ?_
    refine lv_iload_n hx hb dX3_add_14 rfl (lv_at hl 2 rfl) ?_
    refine lv_iload_n hx hb dX3_add_15 rfl (lv_at hl 3 rfl) ?_
    refine q_joinv (wr := []) (va_runV (As := [.int (nI (n)), .int (nI (x)), .int (nI (a)), .int (nI (b))]) (rest := []) ⟨hx, hb, hml, hown, hts⟩ (c_Form_put l dC dI cI cL cQ cZ h0 a1 a2 n jn nm pl n x a b (show n < 4 from by first | assumption | omega)) (q_cwV 4 hts gkX3_put kmX3_46 knX3_put klX3_put kiX3 rfl rfl rfl (by decide +kernel) ⟨Nat.le_of_ble_eq_true rfl, Nat.le_of_ble_eq_true rfl⟩) (q_preVW hK hP hD [0, 1, 2] rfl (by decide) 0 (ci := 3) (r := (RX3, TX3, 4)) rfl rfl) rfl rfl hl.1 rfl (lv_room (Nat.le_of_ble_eq_true rfl)) dX3_add_16 ⟨Nat.zero_le _, Nat.zero_le _⟩) hP hD hS [0, 1, 2] [] rfl rfl (by decide) (fun _ => rfl) (fun _ H locs hq3 hP hD hS => ?_)
    have hP : va_P (dC, dI) qCl [(h0, .inr (3, [.ref a1, .ref a2, .int (nI (n)), .int (bI (jn))])), (a1, .inl (cI, 4, .inl (nF (va_up nm n x)))), (a2, .inl (cI, 8, .inl (nF (f_put pl n a b))))] H := hP
    have hD : va_D A [(h0, .inr (3, [.ref a1, .ref a2, .int (nI (n)), .int (bI (jn))])), (a1, .inl (cI, 4, .inl (nF (va_up nm n x)))), (a2, .inl (cI, 8, .inl (nF (f_put pl n a b))))] := hD
    refine lv_aload_n hx hb dX3_add_19 rfl (lv_at hl 0 rfl) ?_
    refine lv_dup hx hb dX3_add_20 rfl ?_
    refine va_get (D := (dC, dI)) (ci := 3) (v := .int (nI (n))) (C := RX3) (T := TX3) (N := 4) hx hb hts uX3 hown hK hP 0 rfl rfl 2 (by decide) (hts _ kfX3_18) (fun _ h9 => h9) rfl dX3_add_21 ?_
    refine lv_iconst (v := (nI (1))) hx hb dX3_add_24 (by decide) ?_
    refine q_iadd (x := n) (y := 1) hx hb dX3_add_25 ?_
    refine va_put (D := (dC, dI)) (ci := 3) (v := .int (nI (n + 1))) (ty := .int) (C := RX3) (T := TX3) (N := 4) hx hb hts uX3 tyX3 tyX3_ok nmX3 hown hK hP hD hS 0 rfl rfl 2 (by decide) (hts _ kfX3_18) (fun _ h9 => h9) rfl (by decide +kernel) (rfl) (rfl) (Nat.le_of_ble_eq_true rfl) dX3_add_26 (fun H locs hP hD hS => ?_)
    have hP : va_P (dC, dI) qCl [(h0, .inr (3, [.ref a1, .ref a2, .int (nI (n + 1)), .int (bI (jn))])), (a1, .inl (cI, 4, .inl (nF (va_up nm n x)))), (a2, .inl (cI, 8, .inl (nF (f_put pl n a b))))] H := hP
    have hD : va_D A [(h0, .inr (3, [.ref a1, .ref a2, .int (nI (n + 1)), .int (bI (jn))])), (a1, .inl (cI, 4, .inl (nF (va_up nm n x)))), (a2, .inl (cI, 8, .inl (nF (f_put pl n a b))))] := hD
    subst hQ
    subst hAe
    have hP9 := hP.sub (ws' := [(h0, .inr (3, [.ref a1, .ref a2, .int (nI (n + 1)), .int (bI (jn))])), (a1, .inl (cI, 4, .inl (nF (va_up nm n x)))), (a2, .inl (cI, 8, .inl (nF (f_put pl n a b))))]) [0, 1, 2] rfl
    exact W.vret hx hb hr (fun t9 h9 _ => ⟨⟨(), rfl, trivial, by show va_P _ _ _ t9.heap; rw [h9]; exact hP9⟩, hS.F h9⟩) hS.2.2 dX3_add_29
abbrev rm_c_Axioms_add : Room := { frames := 0, cells := 0, slots := 0, locals := 0 }
set_option maxHeartbeats 4000000 in
set_option maxRecDepth 100000 in
theorem c_Axioms_add (l : Launch) (dC : Nat → ClassId) (dI : Nat → Nat → Nat) (cI cL cQ cZ : ClassId) (h0 : Nat) (k1 : Nat) (k2 : Nat) (k3 : Nat) (na : Nat) (kd : Nat → Nat) (lf : Nat → Nat) (rg : Nat → Nat) (k : Nat) (a : Nat) (b : Nat) (hna : na < 16) : Met l yX0_add wkX0_add rm_c_Axioms_add (q_W (dC, dI) qCl (qT cI cL cQ cZ) [(h0, .inr (0, [.ref k1, .ref k2, .ref k3, .int (nI (na))])), (k1, .inl (cI, 16, .inl (nF kd))), (k2, .inl (cI, 16, .inl (nF lf))), (k3, .inl (cI, 16, .inl (nF rg)))] [.ref h0, .int (nI (k)), .int (nI (a)), .int (nI (b))]) (va_Qv (fun (u : Unit) => True) (fun (u : Unit) t => va_P (dC, dI) qCl [(h0, .inr (0, [.ref k1, .ref k2, .ref k3, .int (nI (na + 1))])), (k1, .inl (cI, 16, .inl (nF (va_up kd na k)))), (k2, .inl (cI, 16, .inl (nF (va_up lf na a)))), (k3, .inl (cI, 16, .inl (nF (va_up rg na b))))] t.heap) (q_A [(h0, .inr (0, [.ref k1, .ref k2, .ref k3, .int (nI (na))])), (k1, .inl (cI, 16, .inl (nF kd))), (k2, .inl (cI, 16, .inl (nF lf))), (k3, .inl (cI, 16, .inl (nF rg)))])) 0 0 (q_A [(h0, .inr (0, [.ref k1, .ref k2, .ref k3, .int (nI (na))])), (k1, .inl (cI, 16, .inl (nF kd))), (k2, .inl (cI, 16, .inl (nF lf))), (k3, .inl (cI, 16, .inl (nF rg)))]) := by
  refine Met.ofW (cc := cX0_add) (maxL := 4) (ret := none) (by decide) rfl ?_
  intro p e s m args below meth c s₁ B hml hv
  obtain ⟨hargs, hP, hK, hD0⟩ := hv
  have hx := B.exec
  have hb := B.bytes
  have hr := B.returns
  have hts : ∀ w ∈ qW, w.before args s = true := fun w h => atoms_spec (ws := wkX0_add) B.pre w (List.mem_cons_of_mem _ h)
  have hown : s.vm.findClass RX0 = some m.cls := findClass_of_methodNamed B.named
  have hlocks := B.notSynchronized
  refine q_named (fun Q hQ => ?_)
  have hD : va_D (q_A [(h0, .inr (0, [.ref k1, .ref k2, .ref k3, .int (nI (na))])), (k1, .inl (cI, 16, .inl (nF kd))), (k2, .inl (cI, 16, .inl (nF lf))), (k3, .inl (cI, 16, .inl (nF rg)))]) [(h0, .inr (0, [.ref k1, .ref k2, .ref k3, .int (nI (na))])), (k1, .inl (cI, 16, .inl (nF kd))), (k2, .inl (cI, 16, .inl (nF lf))), (k3, .inl (cI, 16, .inl (nF rg)))] := ⟨hD0.1, fun k q h => ⟨k, q.2, h⟩⟩
  generalize hAe : q_A [(h0, .inr (0, [.ref k1, .ref k2, .ref k3, .int (nI (na))])), (k1, .inl (cI, 16, .inl (nF kd))), (k2, .inl (cI, 16, .inl (nF lf))), (k3, .inl (cI, 16, .inl (nF rg)))] = A at hD
  have hS : va_S A s.heap s.heap [] := va_S.rf
  refine q_entry hargs (Nat.le_of_ble_eq_true rfl) (fun ls hl => ?_)
  have hl : lv_has ls 4 [(0, .ref h0), (1, .int (nI (k))), (2, .int (nI (a))), (3, .int (nI (b)))] := hl
  obtain ⟨H, locs, eH, eL⟩ : ∃ (H : Heap) (locs : List Loc), s.heap = H ∧ ([] : List Loc) = locs := ⟨_, _, rfl, rfl⟩
  have hS : va_S A s.heap H locs := by rw [← eH, ← eL]; exact hS
  have hP : va_P (dC, dI) qCl [(h0, .inr (0, [.ref k1, .ref k2, .ref k3, .int (nI (na))])), (k1, .inl (cI, 16, .inl (nF kd))), (k2, .inl (cI, 16, .inl (nF lf))), (k3, .inl (cI, 16, .inl (nF rg)))] H := by rw [← eH]; exact hP
  refine W_at eH eL ?_
  refine lv_aload_n hx hb dX0_add_0 rfl (lv_at hl 0 rfl) ?_
  refine va_get (D := (dC, dI)) (ci := 0) (v := .int (nI (na))) (C := RX0) (T := TX0) (N := 4) hx hb hts uX0 hown hK hP 0 rfl rfl 3 (by decide) (hts _ kfX0_21) (fun _ h9 => h9) rfl dX0_add_1 ?_
  refine lv_bipush (v := (nI (16))) hx hb dX0_add_4 (by decide) ?_
  refine q_icmp_ge (x := na) (y := 16) (tgt := 49) hx hb dX0_add_6 (by decide) (by omega) (by omega) (fun c6_1 => ?_) (fun c6_1 => ?_)
  · (exfalso; omega)
  · refine lv_aload_n hx hb dX0_add_9 rfl (lv_at hl 0 rfl) ?_
    refine va_get (D := (dC, dI)) (ci := 0) (v := .ref k1) (C := RX0) (T := TX0) (N := 4) hx hb hts uX0 hown hK hP 0 rfl rfl 0 (by decide) (hts _ kfX0_9) (fun _ h9 => h9) rfl dX0_add_10 ?_
    refine lv_aload_n hx hb dX0_add_13 rfl (lv_at hl 0 rfl) ?_
    refine va_get (D := (dC, dI)) (ci := 0) (v := .int (nI (na))) (C := RX0) (T := TX0) (N := 4) hx hb hts uX0 hown hK hP 0 rfl rfl 3 (by decide) (hts _ kfX0_21) (fun _ h9 => h9) rfl dX0_add_14 ?_
    refine lv_iload_n hx hb dX0_add_17 rfl (lv_at hl 1 rfl) ?_
    refine q_iastN hx hb hK hP hD hS 1 0 rfl rfl (j := na) (x := k) (by omega) (by omega) dX0_add_18 (fun H locs hP hD hS => ?_)
    have hP : va_P (dC, dI) qCl [(h0, .inr (0, [.ref k1, .ref k2, .ref k3, .int (nI (na))])), (k1, .inl (cI, 16, .inl (nF (va_up kd na k)))), (k2, .inl (cI, 16, .inl (nF lf))), (k3, .inl (cI, 16, .inl (nF rg)))] H := hP
    have hD : va_D A [(h0, .inr (0, [.ref k1, .ref k2, .ref k3, .int (nI (na))])), (k1, .inl (cI, 16, .inl (nF (va_up kd na k)))), (k2, .inl (cI, 16, .inl (nF lf))), (k3, .inl (cI, 16, .inl (nF rg)))] := hD
    refine lv_aload_n hx hb dX0_add_19 rfl (lv_at hl 0 rfl) ?_
    refine va_get (D := (dC, dI)) (ci := 0) (v := .ref k2) (C := RX0) (T := TX0) (N := 4) hx hb hts uX0 hown hK hP 0 rfl rfl 1 (by decide) (hts _ kfX0_15) (fun _ h9 => h9) rfl dX0_add_20 ?_
    refine lv_aload_n hx hb dX0_add_23 rfl (lv_at hl 0 rfl) ?_
    refine va_get (D := (dC, dI)) (ci := 0) (v := .int (nI (na))) (C := RX0) (T := TX0) (N := 4) hx hb hts uX0 hown hK hP 0 rfl rfl 3 (by decide) (hts _ kfX0_21) (fun _ h9 => h9) rfl dX0_add_24 ?_
    refine lv_iload_n hx hb dX0_add_27 rfl (lv_at hl 2 rfl) ?_
    refine q_iastN hx hb hK hP hD hS 2 0 rfl rfl (j := na) (x := a) (by omega) (by omega) dX0_add_28 (fun H locs hP hD hS => ?_)
    have hP : va_P (dC, dI) qCl [(h0, .inr (0, [.ref k1, .ref k2, .ref k3, .int (nI (na))])), (k1, .inl (cI, 16, .inl (nF (va_up kd na k)))), (k2, .inl (cI, 16, .inl (nF (va_up lf na a)))), (k3, .inl (cI, 16, .inl (nF rg)))] H := hP
    have hD : va_D A [(h0, .inr (0, [.ref k1, .ref k2, .ref k3, .int (nI (na))])), (k1, .inl (cI, 16, .inl (nF (va_up kd na k)))), (k2, .inl (cI, 16, .inl (nF (va_up lf na a)))), (k3, .inl (cI, 16, .inl (nF rg)))] := hD
    refine lv_aload_n hx hb dX0_add_29 rfl (lv_at hl 0 rfl) ?_
    refine va_get (D := (dC, dI)) (ci := 0) (v := .ref k3) (C := RX0) (T := TX0) (N := 4) hx hb hts uX0 hown hK hP 0 rfl rfl 2 (by decide) (hts _ kfX0_18) (fun _ h9 => h9) rfl dX0_add_30 ?_
    refine lv_aload_n hx hb dX0_add_33 rfl (lv_at hl 0 rfl) ?_
    refine va_get (D := (dC, dI)) (ci := 0) (v := .int (nI (na))) (C := RX0) (T := TX0) (N := 4) hx hb hts uX0 hown hK hP 0 rfl rfl 3 (by decide) (hts _ kfX0_21) (fun _ h9 => h9) rfl dX0_add_34 ?_
    refine lv_iload_n hx hb dX0_add_37 rfl (lv_at hl 3 rfl) ?_
    refine q_iastN hx hb hK hP hD hS 3 0 rfl rfl (j := na) (x := b) (by omega) (by omega) dX0_add_38 (fun H locs hP hD hS => ?_)
    have hP : va_P (dC, dI) qCl [(h0, .inr (0, [.ref k1, .ref k2, .ref k3, .int (nI (na))])), (k1, .inl (cI, 16, .inl (nF (va_up kd na k)))), (k2, .inl (cI, 16, .inl (nF (va_up lf na a)))), (k3, .inl (cI, 16, .inl (nF (va_up rg na b))))] H := hP
    have hD : va_D A [(h0, .inr (0, [.ref k1, .ref k2, .ref k3, .int (nI (na))])), (k1, .inl (cI, 16, .inl (nF (va_up kd na k)))), (k2, .inl (cI, 16, .inl (nF (va_up lf na a)))), (k3, .inl (cI, 16, .inl (nF (va_up rg na b))))] := hD
    refine lv_aload_n hx hb dX0_add_39 rfl (lv_at hl 0 rfl) ?_
    refine lv_dup hx hb dX0_add_40 rfl ?_
    refine va_get (D := (dC, dI)) (ci := 0) (v := .int (nI (na))) (C := RX0) (T := TX0) (N := 4) hx hb hts uX0 hown hK hP 0 rfl rfl 3 (by decide) (hts _ kfX0_21) (fun _ h9 => h9) rfl dX0_add_41 ?_
    refine lv_iconst (v := (nI (1))) hx hb dX0_add_44 (by decide) ?_
    refine q_iadd (x := na) (y := 1) hx hb dX0_add_45 ?_
    refine va_put (D := (dC, dI)) (ci := 0) (v := .int (nI (na + 1))) (ty := .int) (C := RX0) (T := TX0) (N := 4) hx hb hts uX0 tyX0 tyX0_ok nmX0 hown hK hP hD hS 0 rfl rfl 3 (by decide) (hts _ kfX0_21) (fun _ h9 => h9) rfl (by decide +kernel) (rfl) (rfl) (Nat.le_of_ble_eq_true rfl) dX0_add_46 (fun H locs hP hD hS => ?_)
    have hP : va_P (dC, dI) qCl [(h0, .inr (0, [.ref k1, .ref k2, .ref k3, .int (nI (na + 1))])), (k1, .inl (cI, 16, .inl (nF (va_up kd na k)))), (k2, .inl (cI, 16, .inl (nF (va_up lf na a)))), (k3, .inl (cI, 16, .inl (nF (va_up rg na b))))] H := hP
    have hD : va_D A [(h0, .inr (0, [.ref k1, .ref k2, .ref k3, .int (nI (na + 1))])), (k1, .inl (cI, 16, .inl (nF (va_up kd na k)))), (k2, .inl (cI, 16, .inl (nF (va_up lf na a)))), (k3, .inl (cI, 16, .inl (nF (va_up rg na b))))] := hD
    subst hQ
    subst hAe
    have hP9 := hP.sub (ws' := [(h0, .inr (0, [.ref k1, .ref k2, .ref k3, .int (nI (na + 1))])), (k1, .inl (cI, 16, .inl (nF (va_up kd na k)))), (k2, .inl (cI, 16, .inl (nF (va_up lf na a)))), (k3, .inl (cI, 16, .inl (nF (va_up rg na b))))]) [0, 1, 2, 3] rfl
    exact W.vret hx hb hr (fun t9 h9 _ => ⟨⟨(), rfl, trivial, by show va_P _ _ _ t9.heap; rw [h9]; exact hP9⟩, hS.F h9⟩) hS.2.2 dX0_add_49
abbrev rm_c_Axioms_forbids : Room := { frames := 0, cells := 0, slots := 0, locals := 0 }
set_option maxHeartbeats 4000000 in
set_option maxRecDepth 100000 in
theorem c_Axioms_forbids (l : Launch) (dC : Nat → ClassId) (dI : Nat → Nat → Nat) (cI cL cQ cZ : ClassId) (h0 : Nat) (k1 : Nat) (k2 : Nat) (k3 : Nat) (na : Nat) (kd : Nat → Nat) (lf : Nat → Nat) (rg : Nat → Nat) (i : Nat) (hi : i < 16) (hkd : ∀ j, kd j < 4) : Met l yX0_forbids wkX0_forbids rm_c_Axioms_forbids (q_R (dC, dI) qCl (qT cI cL cQ cZ) [(h0, .inr (0, [.ref k1, .ref k2, .ref k3, .int (nI (na))])), (k1, .inl (cI, 16, .inl (nF kd))), (k2, .inl (cI, 16, .inl (nF lf))), (k3, .inl (cI, 16, .inl (nF rg)))] [.ref h0, .int (nI (i))]) (vp_Si (fun r => r = (bI (decide (kd i = 2 ∨ kd i = 3))))) 0 0 (fun _ => False) := by
  refine Met.ofW (cc := cX0_forbids) (maxL := 2) (ret := (some .boolean)) (by decide) rfl ?_
  intro p e s m args below meth c s₁ B hml hv
  obtain ⟨hargs, hP, hK⟩ := hv
  have hx := B.exec
  have hb := B.bytes
  have hr := B.returns
  have hts : ∀ w ∈ qW, w.before args s = true := fun w h => atoms_spec (ws := wkX0_forbids) B.pre w (List.mem_cons_of_mem _ h)
  have hown : s.vm.findClass RX0 = some m.cls := findClass_of_methodNamed B.named
  have hlocks := B.notSynchronized
  refine q_named (fun Q hQ => ?_)
  refine q_entry hargs (Nat.le_of_ble_eq_true rfl) (fun ls hl => ?_)
  have hl : lv_has ls 2 [(0, .ref h0), (1, .int (nI (i)))] := hl
  refine lv_aload_n hx hb dX0_forbids_0 rfl (lv_at hl 0 rfl) ?_
  refine va_get (D := (dC, dI)) (ci := 0) (v := .ref k1) (C := RX0) (T := TX0) (N := 4) hx hb hts uX0 hown hK hP 0 rfl rfl 0 (by decide) (hts _ kfX0_9) (fun _ h9 => h9) rfl dX0_forbids_1 ?_
  refine lv_iload_n hx hb dX0_forbids_4 rfl (lv_at hl 1 rfl) ?_
  refine q_ialdN hx hb hK hP 1 0 rfl rfl (j := i) (by omega) (by omega) dX0_forbids_5 ?_
  have bd1 := hkd i
  refine lv_iconst (v := (nI (2))) hx hb dX0_forbids_6 (by decide) ?_
  refine q_icmp_eq (x := kd i) (y := 2) (tgt := 20) hx hb dX0_forbids_7 (by decide) (by omega) (by omega) (fun c7_2 => ?_) (fun c7_2 => ?_)
  · refine lv_iconst (v := (nI (1))) hx hb dX0_forbids_20 (by decide) ?_
    refine lv_goto (tgt := 25) hx hb dX0_forbids_21 (by decide) ?_
    subst hQ
    exact W.zret (v := (nI (1))) hx hb hr (by decide) (fun t9 h9 _ => ⟨_, rfl, bI_1 (show decide (kd i = 2 ∨ kd i = 3) = true from by (simp; omega)), h9⟩) (fun q hq => by cases hq) dX0_forbids_25
  · refine lv_aload_n hx hb dX0_forbids_10 rfl (lv_at hl 0 rfl) ?_
    refine va_get (D := (dC, dI)) (ci := 0) (v := .ref k1) (C := RX0) (T := TX0) (N := 4) hx hb hts uX0 hown hK hP 0 rfl rfl 0 (by decide) (hts _ kfX0_9) (fun _ h9 => h9) rfl dX0_forbids_11 ?_
    refine lv_iload_n hx hb dX0_forbids_14 rfl (lv_at hl 1 rfl) ?_
    refine q_ialdN hx hb hK hP 1 0 rfl rfl (j := i) (by omega) (by omega) dX0_forbids_15 ?_
    have bd3 := hkd i
    refine lv_iconst (v := (nI (3))) hx hb dX0_forbids_16 (by decide) ?_
    refine q_icmp_ne (x := kd i) (y := 3) (tgt := 24) hx hb dX0_forbids_17 (by decide) (by omega) (by omega) (fun c17_4 => ?_) (fun c17_4 => ?_)
    · refine lv_iconst (v := (nI (0))) hx hb dX0_forbids_24 (by decide) ?_
      subst hQ
      exact W.zret (v := (nI (0))) hx hb hr (by decide) (fun t9 h9 _ => ⟨_, rfl, bI_0 (show decide (kd i = 2 ∨ kd i = 3) = false from by (simp; omega)), h9⟩) (fun q hq => by cases hq) dX0_forbids_25
    · refine lv_iconst (v := (nI (1))) hx hb dX0_forbids_20 (by decide) ?_
      refine lv_goto (tgt := 25) hx hb dX0_forbids_21 (by decide) ?_
      subst hQ
      exact W.zret (v := (nI (1))) hx hb hr (by decide) (fun t9 h9 _ => ⟨_, rfl, bI_1 (show decide (kd i = 2 ∨ kd i = 3) = true from by (simp; omega)), h9⟩) (fun q hq => by cases hq) dX0_forbids_25
abbrev rm_c_Axioms_memberOf : Room := { frames := 0, cells := 0, slots := 0, locals := 0 }
set_option maxHeartbeats 4000000 in
set_option maxRecDepth 100000 in
theorem c_Axioms_memberOf (l : Launch) (dC : Nat → ClassId) (dI : Nat → Nat → Nat) (cI cL cQ cZ : ClassId) (s9 : Nat) (x : Nat) (a : Nat) (b : Nat) (hs9 : s9 < 64) (hx9 : x < 64) (ha9 : a < 16) (hb9 : b < 16) : Met l yX0_memberOf wkX0_memberOf rm_c_Axioms_memberOf (q_R (dC, dI) qCl (qT cI cL cQ cZ) [] [.int (nI (s9)), .int (nI (x)), .int (nI (a)), .int (nI (b))]) (vp_Si (fun r => r = (nI (f_mem s9 x a b)))) 0 0 (fun _ => False) := by
  refine Met.ofW (cc := cX0_memberOf) (maxL := 4) (ret := (some .int)) (by decide) rfl ?_
  intro p e s m args below meth c s₁ B hml hv
  obtain ⟨hargs, hP, hK⟩ := hv
  have hx := B.exec
  have hb := B.bytes
  have hr := B.returns
  have hts : ∀ w ∈ qW, w.before args s = true := fun w h => atoms_spec (ws := wkX0_memberOf) B.pre w (List.mem_cons_of_mem _ h)
  have hown : s.vm.findClass RX0 = some m.cls := findClass_of_methodNamed B.named
  have hlocks := B.notSynchronized
  refine q_named (fun Q hQ => ?_)
  refine q_entry hargs (Nat.le_of_ble_eq_true rfl) (fun ls hl => ?_)
  have hl : lv_has ls 4 [(0, .int (nI (s9))), (1, .int (nI (x))), (2, .int (nI (a))), (3, .int (nI (b)))] := hl
  refine lv_iload_n hx hb dX0_memberOf_0 rfl (lv_at hl 0 rfl) ?_
  refine lv_bipush (v := (nI (20))) hx hb dX0_memberOf_1 (by decide) ?_
  refine q_icmp_ge (x := s9) (y := 20) (tgt := 18) hx hb dX0_memberOf_3 (by decide) (by omega) (by omega) (fun c3_1 => ?_) (fun c3_1 => ?_)
  · refine lv_iload_n hx hb dX0_memberOf_18 rfl (lv_at hl 1 rfl) ?_
    refine lv_bipush (v := (nI (32))) hx hb dX0_memberOf_19 (by decide) ?_
    refine lv_iload_n hx hb dX0_memberOf_21 rfl (lv_at hl 0 rfl) ?_
    refine lv_bipush (v := (nI (20))) hx hb dX0_memberOf_22 (by decide) ?_
    refine q_isub (x := s9) (y := 20) hx hb (by omega) dX0_memberOf_24 ?_
    refine lv_iconst (v := (nI (2))) hx hb dX0_memberOf_25 (by decide) ?_
    refine q_idiv (x := s9 - 20) (y := 2) hx hb (by omega) (by omega) (by omega) dX0_memberOf_26 ?_
    refine q_iadd (x := 32) (y := (s9 - 20) / 2) hx hb dX0_memberOf_27 ?_
    refine q_icmp_eq (x := x) (y := 32 + ((s9 - 20) / 2)) (tgt := 34) hx hb dX0_memberOf_28 (by decide) (by omega) (by omega) (fun c28_2 => ?_) (fun c28_2 => ?_)
    · refine lv_iload_n hx hb dX0_memberOf_34 rfl (lv_at hl 0 rfl) ?_
      refine lv_iconst (v := (nI (2))) hx hb dX0_memberOf_35 (by decide) ?_
      refine q_irem (x := s9) (y := 2) hx hb (by omega) (by omega) (by omega) dX0_memberOf_36 ?_
      refine q_if_ne (x := s9 % 2) (tgt := 53) hx hb dX0_memberOf_37 (by decide) (by omega) (fun c37_3 => ?_) (fun c37_3 => ?_)
      · refine lv_iload_n hx hb dX0_memberOf_53 rfl (lv_at hl 2 rfl) ?_
        refine lv_bipush (v := (nI (6))) hx hb dX0_memberOf_54 (by decide) ?_
        refine q_icmp_ne (x := a) (y := 6) (tgt := 63) hx hb dX0_memberOf_56 (by decide) (by omega) (by omega) (fun c56_4 => ?_) (fun c56_4 => ?_)
        · refine lv_bipush (v := (nI (7))) hx hb dX0_memberOf_63 (by decide) ?_
          subst hQ
          exact W.iret (v := (nI (7))) hx hb hr (fun t9 h9 _ => ⟨_, rfl, congrArg nI (show 7 = f_mem s9 x a b from by (unfold f_mem; split <;> (try split) <;> (try split) <;> (try split) <;> omega)), h9⟩) (fun q hq => by cases hq) dX0_memberOf_65
        · refine lv_iload_n hx hb dX0_memberOf_59 rfl (lv_at hl 3 rfl) ?_
          refine lv_goto (tgt := 65) hx hb dX0_memberOf_60 (by decide) ?_
          subst hQ
          exact W.iret (v := (nI (b))) hx hb hr (fun t9 h9 _ => ⟨_, rfl, congrArg nI (show b = f_mem s9 x a b from by (unfold f_mem; split <;> (try split) <;> (try split) <;> (try split) <;> omega)), h9⟩) (fun q hq => by cases hq) dX0_memberOf_65
      · refine lv_iload_n hx hb dX0_memberOf_40 rfl (lv_at hl 3 rfl) ?_
        refine lv_bipush (v := (nI (6))) hx hb dX0_memberOf_41 (by decide) ?_
        refine q_icmp_ne (x := b) (y := 6) (tgt := 50) hx hb dX0_memberOf_43 (by decide) (by omega) (by omega) (fun c43_5 => ?_) (fun c43_5 => ?_)
        · refine lv_bipush (v := (nI (7))) hx hb dX0_memberOf_50 (by decide) ?_
          subst hQ
          exact W.iret (v := (nI (7))) hx hb hr (fun t9 h9 _ => ⟨_, rfl, congrArg nI (show 7 = f_mem s9 x a b from by (unfold f_mem; split <;> (try split) <;> (try split) <;> (try split) <;> omega)), h9⟩) (fun q hq => by cases hq) dX0_memberOf_52
        · refine lv_iload_n hx hb dX0_memberOf_46 rfl (lv_at hl 2 rfl) ?_
          refine lv_goto (tgt := 52) hx hb dX0_memberOf_47 (by decide) ?_
          subst hQ
          exact W.iret (v := (nI (a))) hx hb hr (fun t9 h9 _ => ⟨_, rfl, congrArg nI (show a = f_mem s9 x a b from by (unfold f_mem; split <;> (try split) <;> (try split) <;> (try split) <;> omega)), h9⟩) (fun q hq => by cases hq) dX0_memberOf_52
    · refine lv_bipush (v := (nI (7))) hx hb dX0_memberOf_31 (by decide) ?_
      subst hQ
      exact W.iret (v := (nI (7))) hx hb hr (fun t9 h9 _ => ⟨_, rfl, congrArg nI (show 7 = f_mem s9 x a b from by (unfold f_mem; split <;> (try split) <;> (try split) <;> (try split) <;> omega)), h9⟩) (fun q hq => by cases hq) dX0_memberOf_33
  · refine lv_iload_n hx hb dX0_memberOf_6 rfl (lv_at hl 1 rfl) ?_
    refine lv_iload_n hx hb dX0_memberOf_7 rfl (lv_at hl 0 rfl) ?_
    refine q_icmp_ne (x := x) (y := s9) (tgt := 15) hx hb dX0_memberOf_8 (by decide) (by omega) (by omega) (fun c8_6 => ?_) (fun c8_6 => ?_)
    · refine lv_bipush (v := (nI (7))) hx hb dX0_memberOf_15 (by decide) ?_
      subst hQ
      exact W.iret (v := (nI (7))) hx hb hr (fun t9 h9 _ => ⟨_, rfl, congrArg nI (show 7 = f_mem s9 x a b from by (unfold f_mem; split <;> (try split) <;> (try split) <;> (try split) <;> omega)), h9⟩) (fun q hq => by cases hq) dX0_memberOf_17
    · refine lv_iload_n hx hb dX0_memberOf_11 rfl (lv_at hl 2 rfl) ?_
      refine lv_goto (tgt := 17) hx hb dX0_memberOf_12 (by decide) ?_
      subst hQ
      exact W.iret (v := (nI (a))) hx hb hr (fun t9 h9 _ => ⟨_, rfl, congrArg nI (show a = f_mem s9 x a b from by (unfold f_mem; split <;> (try split) <;> (try split) <;> (try split) <;> omega)), h9⟩) (fun q hq => by cases hq) dX0_memberOf_17
