abbrev cX3_sizeOf : ByteArray := prog_5_method_2_code
def yX3_sizeOf : MethodName := ⟨RX3, "sizeOf", "(J)I"⟩
def wkX3_sizeOf : List Cond := .code yX3_sizeOf cX3_sizeOf 2 (some .int) :: qW
set_option maxRecDepth 40000 in
theorem gkX3_sizeOf : GoodIn qW wkX3_sizeOf := q_good (qw 430 rfl rfl)
set_option maxRecDepth 40000 in
theorem ksX3_sizeOf : Cond.static yX3_sizeOf ∈ qW := qw 429 rfl rfl
theorem dX3_sizeOf_0 : decode cX3_sizeOf 0 = .ok (.lload_n 0, 1) := by decide +kernel
theorem dX3_sizeOf_1 : decode cX3_sizeOf 1 = .ok (.bipush 48, 2) := by decide +kernel
theorem dX3_sizeOf_3 : decode cX3_sizeOf 3 = .ok (.lshr, 1) := by decide +kernel
theorem dX3_sizeOf_4 : decode cX3_sizeOf 4 = .ok (.l2i, 1) := by decide +kernel
theorem dX3_sizeOf_5 : decode cX3_sizeOf 5 = .ok (.bipush 7, 2) := by decide +kernel
theorem dX3_sizeOf_7 : decode cX3_sizeOf 7 = .ok (.iand, 1) := by decide +kernel
theorem dX3_sizeOf_8 : decode cX3_sizeOf 8 = .ok (.ireturn, 1) := by decide +kernel
abbrev cX3_isJoined : ByteArray := prog_5_method_3_code
def yX3_isJoined : MethodName := ⟨RX3, "isJoined", "(J)Z"⟩
def wkX3_isJoined : List Cond := .code yX3_isJoined cX3_isJoined 2 (some .boolean) :: qW
set_option maxRecDepth 40000 in
theorem gkX3_isJoined : GoodIn qW wkX3_isJoined := q_good (qw 436 rfl rfl)
set_option maxRecDepth 40000 in
theorem ksX3_isJoined : Cond.static yX3_isJoined ∈ qW := qw 435 rfl rfl
theorem dX3_isJoined_0 : decode cX3_isJoined 0 = .ok (.lload_n 0, 1) := by decide +kernel
theorem dX3_isJoined_1 : decode cX3_isJoined 1 = .ok (.bipush 51, 2) := by decide +kernel
theorem dX3_isJoined_3 : decode cX3_isJoined 3 = .ok (.lshr, 1) := by decide +kernel
theorem dX3_isJoined_4 : decode cX3_isJoined 4 = .ok (.lconst 1, 1) := by decide +kernel
theorem dX3_isJoined_5 : decode cX3_isJoined 5 = .ok (.land, 1) := by decide +kernel
theorem dX3_isJoined_6 : decode cX3_isJoined 6 = .ok (.lconst 0, 1) := by decide +kernel
theorem dX3_isJoined_7 : decode cX3_isJoined 7 = .ok (.lcmp, 1) := by decide +kernel
theorem dX3_isJoined_8 : decode cX3_isJoined 8 = .ok (.ifCond .eq 7, 3) := by decide +kernel
theorem dX3_isJoined_11 : decode cX3_isJoined 11 = .ok (.iconst 1, 1) := by decide +kernel
theorem dX3_isJoined_12 : decode cX3_isJoined 12 = .ok (.goto 4, 3) := by decide +kernel
theorem dX3_isJoined_15 : decode cX3_isJoined 15 = .ok (.iconst 0, 1) := by decide +kernel
theorem dX3_isJoined_16 : decode cX3_isJoined 16 = .ok (.ireturn, 1) := by decide +kernel
abbrev cX3_codeOf : ByteArray := prog_5_method_4_code
def yX3_codeOf : MethodName := ⟨RX3, "codeOf", "(JI)I"⟩
def wkX3_codeOf : List Cond := .code yX3_codeOf cX3_codeOf 3 (some .int) :: qW
set_option maxRecDepth 40000 in
theorem gkX3_codeOf : GoodIn qW wkX3_codeOf := q_good (qw 439 rfl rfl)
set_option maxRecDepth 40000 in
theorem ksX3_codeOf : Cond.static yX3_codeOf ∈ qW := qw 438 rfl rfl
theorem dX3_codeOf_0 : decode cX3_codeOf 0 = .ok (.lload_n 0, 1) := by decide +kernel
theorem dX3_codeOf_1 : decode cX3_codeOf 1 = .ok (.bipush 12, 2) := by decide +kernel
theorem dX3_codeOf_3 : decode cX3_codeOf 3 = .ok (.iconst 3, 1) := by decide +kernel
theorem dX3_codeOf_4 : decode cX3_codeOf 4 = .ok (.iload_n 2, 1) := by decide +kernel
theorem dX3_codeOf_5 : decode cX3_codeOf 5 = .ok (.isub, 1) := by decide +kernel
theorem dX3_codeOf_6 : decode cX3_codeOf 6 = .ok (.imul, 1) := by decide +kernel
theorem dX3_codeOf_7 : decode cX3_codeOf 7 = .ok (.lshr, 1) := by decide +kernel
theorem dX3_codeOf_8 : decode cX3_codeOf 8 = .ok (.l2i, 1) := by decide +kernel
theorem dX3_codeOf_9 : decode cX3_codeOf 9 = .ok (.sipush 4095, 3) := by decide +kernel
theorem dX3_codeOf_12 : decode cX3_codeOf 12 = .ok (.iand, 1) := by decide +kernel
theorem dX3_codeOf_13 : decode cX3_codeOf 13 = .ok (.ireturn, 1) := by decide +kernel
abbrev cX3_rowOf : ByteArray := prog_5_method_5_code
def yX3_rowOf : MethodName := ⟨RX3, "rowOf", "([I)J"⟩
def wkX3_rowOf : List Cond := .code yX3_rowOf cX3_rowOf 5 (some .long) :: qW
set_option maxRecDepth 40000 in
theorem gkX3_rowOf : GoodIn qW wkX3_rowOf := q_good (qw 418 rfl rfl)
set_option maxRecDepth 40000 in
theorem knX3_rowOf : Cond.instanceMethod yX3_rowOf ∈ qW := qw 416 rfl rfl
set_option maxRecDepth 40000 in
theorem klX3_rowOf : Cond.selects RX3 yX3_rowOf yX3_rowOf ∈ qW := qw 417 rfl rfl
theorem dX3_rowOf_0 : decode cX3_rowOf 0 = .ok (.aload_n 0, 1) := by decide +kernel
theorem dX3_rowOf_1 : decode cX3_rowOf 1 = .ok (.getfield 22, 3) := by decide +kernel
theorem dX3_rowOf_4 : decode cX3_rowOf 4 = .ok (.ifCond .eq 9, 3) := by decide +kernel
theorem dX3_rowOf_7 : decode cX3_rowOf 7 = .ok (.ldc2_w 26, 3) := by decide +kernel
theorem dX3_rowOf_10 : decode cX3_rowOf 10 = .ok (.goto 4, 3) := by decide +kernel
theorem dX3_rowOf_13 : decode cX3_rowOf 13 = .ok (.lconst 0, 1) := by decide +kernel
theorem dX3_rowOf_14 : decode cX3_rowOf 14 = .ok (.aload_n 0, 1) := by decide +kernel
theorem dX3_rowOf_15 : decode cX3_rowOf 15 = .ok (.getfield 18, 3) := by decide +kernel
theorem dX3_rowOf_18 : decode cX3_rowOf 18 = .ok (.i2l, 1) := by decide +kernel
theorem dX3_rowOf_19 : decode cX3_rowOf 19 = .ok (.bipush 48, 2) := by decide +kernel
theorem dX3_rowOf_21 : decode cX3_rowOf 21 = .ok (.lshl, 1) := by decide +kernel
theorem dX3_rowOf_22 : decode cX3_rowOf 22 = .ok (.lor, 1) := by decide +kernel
theorem dX3_rowOf_23 : decode cX3_rowOf 23 = .ok (.lstore_n 2, 1) := by decide +kernel
theorem dX3_rowOf_24 : decode cX3_rowOf 24 = .ok (.iconst 0, 1) := by decide +kernel
theorem dX3_rowOf_25 : decode cX3_rowOf 25 = .ok (.istore 4, 2) := by decide +kernel
theorem dX3_rowOf_27 : decode cX3_rowOf 27 = .ok (.iload 4, 2) := by decide +kernel
theorem dX3_rowOf_29 : decode cX3_rowOf 29 = .ok (.aload_n 0, 1) := by decide +kernel
theorem dX3_rowOf_30 : decode cX3_rowOf 30 = .ok (.getfield 18, 3) := by decide +kernel
theorem dX3_rowOf_33 : decode cX3_rowOf 33 = .ok (.if_icmp .ge 25, 3) := by decide +kernel
theorem dX3_rowOf_36 : decode cX3_rowOf 36 = .ok (.lload_n 2, 1) := by decide +kernel
theorem dX3_rowOf_37 : decode cX3_rowOf 37 = .ok (.aload_n 1, 1) := by decide +kernel
theorem dX3_rowOf_38 : decode cX3_rowOf 38 = .ok (.iload 4, 2) := by decide +kernel
theorem dX3_rowOf_40 : decode cX3_rowOf 40 = .ok (.iaload, 1) := by decide +kernel
theorem dX3_rowOf_41 : decode cX3_rowOf 41 = .ok (.i2l, 1) := by decide +kernel
theorem dX3_rowOf_42 : decode cX3_rowOf 42 = .ok (.bipush 12, 2) := by decide +kernel
theorem dX3_rowOf_44 : decode cX3_rowOf 44 = .ok (.iconst 3, 1) := by decide +kernel
theorem dX3_rowOf_45 : decode cX3_rowOf 45 = .ok (.iload 4, 2) := by decide +kernel
theorem dX3_rowOf_47 : decode cX3_rowOf 47 = .ok (.isub, 1) := by decide +kernel
theorem dX3_rowOf_48 : decode cX3_rowOf 48 = .ok (.imul, 1) := by decide +kernel
theorem dX3_rowOf_49 : decode cX3_rowOf 49 = .ok (.lshl, 1) := by decide +kernel
theorem dX3_rowOf_50 : decode cX3_rowOf 50 = .ok (.lor, 1) := by decide +kernel
theorem dX3_rowOf_51 : decode cX3_rowOf 51 = .ok (.lstore_n 2, 1) := by decide +kernel
theorem dX3_rowOf_52 : decode cX3_rowOf 52 = .ok (.iinc 4 1, 3) := by decide +kernel
theorem dX3_rowOf_55 : decode cX3_rowOf 55 = .ok (.goto (-28), 3) := by decide +kernel
theorem dX3_rowOf_58 : decode cX3_rowOf 58 = .ok (.lload_n 2, 1) := by decide +kernel
theorem dX3_rowOf_59 : decode cX3_rowOf 59 = .ok (.lreturn, 1) := by decide +kernel
abbrev cX3_read : ByteArray := prog_5_method_6_code
def yX3_read : MethodName := ⟨RX3, "read", "(J)V"⟩
def wkX3_read : List Cond := .code yX3_read cX3_read 5 none :: qW
set_option maxRecDepth 40000 in
theorem gkX3_read : GoodIn qW wkX3_read := q_good (qw 427 rfl rfl)
set_option maxRecDepth 40000 in
theorem knX3_read : Cond.instanceMethod yX3_read ∈ qW := qw 425 rfl rfl
set_option maxRecDepth 40000 in
theorem klX3_read : Cond.selects RX3 yX3_read yX3_read ∈ qW := qw 426 rfl rfl
theorem dX3_read_0 : decode cX3_read 0 = .ok (.aload_n 0, 1) := by decide +kernel
theorem dX3_read_1 : decode cX3_read 1 = .ok (.lload_n 1, 1) := by decide +kernel
theorem dX3_read_2 : decode cX3_read 2 = .ok (.invokestatic 28, 3) := by decide +kernel
theorem dX3_read_5 : decode cX3_read 5 = .ok (.iconst 4, 1) := by decide +kernel
theorem dX3_read_6 : decode cX3_read 6 = .ok (.invokestatic 32, 3) := by decide +kernel
theorem dX3_read_9 : decode cX3_read 9 = .ok (.putfield 18, 3) := by decide +kernel
theorem dX3_read_12 : decode cX3_read 12 = .ok (.aload_n 0, 1) := by decide +kernel
theorem dX3_read_13 : decode cX3_read 13 = .ok (.lload_n 1, 1) := by decide +kernel
theorem dX3_read_14 : decode cX3_read 14 = .ok (.invokestatic 38, 3) := by decide +kernel
theorem dX3_read_17 : decode cX3_read 17 = .ok (.putfield 22, 3) := by decide +kernel
theorem dX3_read_20 : decode cX3_read 20 = .ok (.iconst 0, 1) := by decide +kernel
theorem dX3_read_21 : decode cX3_read 21 = .ok (.istore_n 3, 1) := by decide +kernel
theorem dX3_read_22 : decode cX3_read 22 = .ok (.iload_n 3, 1) := by decide +kernel
theorem dX3_read_23 : decode cX3_read 23 = .ok (.aload_n 0, 1) := by decide +kernel
theorem dX3_read_24 : decode cX3_read 24 = .ok (.getfield 18, 3) := by decide +kernel
theorem dX3_read_27 : decode cX3_read 27 = .ok (.if_icmp .ge 39, 3) := by decide +kernel
theorem dX3_read_30 : decode cX3_read 30 = .ok (.lload_n 1, 1) := by decide +kernel
theorem dX3_read_31 : decode cX3_read 31 = .ok (.iload_n 3, 1) := by decide +kernel
theorem dX3_read_32 : decode cX3_read 32 = .ok (.invokestatic 42, 3) := by decide +kernel
theorem dX3_read_35 : decode cX3_read 35 = .ok (.istore 4, 2) := by decide +kernel
theorem dX3_read_37 : decode cX3_read 37 = .ok (.aload_n 0, 1) := by decide +kernel
theorem dX3_read_38 : decode cX3_read 38 = .ok (.iload_n 3, 1) := by decide +kernel
theorem dX3_read_39 : decode cX3_read 39 = .ok (.iload 4, 2) := by decide +kernel
theorem dX3_read_41 : decode cX3_read 41 = .ok (.bipush 64, 2) := by decide +kernel
theorem dX3_read_43 : decode cX3_read 43 = .ok (.idiv, 1) := by decide +kernel
theorem dX3_read_44 : decode cX3_read 44 = .ok (.iload 4, 2) := by decide +kernel
theorem dX3_read_46 : decode cX3_read 46 = .ok (.bipush 8, 2) := by decide +kernel
theorem dX3_read_48 : decode cX3_read 48 = .ok (.idiv, 1) := by decide +kernel
theorem dX3_read_49 : decode cX3_read 49 = .ok (.bipush 8, 2) := by decide +kernel
theorem dX3_read_51 : decode cX3_read 51 = .ok (.irem, 1) := by decide +kernel
theorem dX3_read_52 : decode cX3_read 52 = .ok (.iload 4, 2) := by decide +kernel
theorem dX3_read_54 : decode cX3_read 54 = .ok (.bipush 8, 2) := by decide +kernel
theorem dX3_read_56 : decode cX3_read 56 = .ok (.irem, 1) := by decide +kernel
theorem dX3_read_57 : decode cX3_read 57 = .ok (.invokevirtual 46, 3) := by decide +kernel
theorem dX3_read_60 : decode cX3_read 60 = .ok (.iinc 3 1, 3) := by decide +kernel
theorem dX3_read_63 : decode cX3_read 63 = .ok (.goto (-41), 3) := by decide +kernel
theorem dX3_read_66 : decode cX3_read 66 = .ok (.return_, 1) := by decide +kernel
abbrev cX3_copy : ByteArray := prog_5_method_7_code
def yX3_copy : MethodName := ⟨RX3, "copy", "(LQlRewrite$Form;)V"⟩
def wkX3_copy : List Cond := .code yX3_copy cX3_copy 2 none :: qW
set_option maxRecDepth 40000 in
theorem gkX3_copy : GoodIn qW wkX3_copy := q_good (qw 377 rfl rfl)
set_option maxRecDepth 40000 in
theorem knX3_copy : Cond.instanceMethod yX3_copy ∈ qW := qw 375 rfl rfl
set_option maxRecDepth 40000 in
theorem klX3_copy : Cond.selects RX3 yX3_copy yX3_copy ∈ qW := qw 376 rfl rfl
theorem dX3_copy_0 : decode cX3_copy 0 = .ok (.aload_n 0, 1) := by decide +kernel
theorem dX3_copy_1 : decode cX3_copy 1 = .ok (.aload_n 1, 1) := by decide +kernel
theorem dX3_copy_2 : decode cX3_copy 2 = .ok (.getfield 18, 3) := by decide +kernel
theorem dX3_copy_5 : decode cX3_copy 5 = .ok (.putfield 18, 3) := by decide +kernel
theorem dX3_copy_8 : decode cX3_copy 8 = .ok (.aload_n 0, 1) := by decide +kernel
theorem dX3_copy_9 : decode cX3_copy 9 = .ok (.aload_n 1, 1) := by decide +kernel
theorem dX3_copy_10 : decode cX3_copy 10 = .ok (.getfield 22, 3) := by decide +kernel
theorem dX3_copy_13 : decode cX3_copy 13 = .ok (.putfield 22, 3) := by decide +kernel
theorem dX3_copy_16 : decode cX3_copy 16 = .ok (.aload_n 1, 1) := by decide +kernel
theorem dX3_copy_17 : decode cX3_copy 17 = .ok (.getfield 11, 3) := by decide +kernel
theorem dX3_copy_20 : decode cX3_copy 20 = .ok (.iconst 0, 1) := by decide +kernel
theorem dX3_copy_21 : decode cX3_copy 21 = .ok (.aload_n 0, 1) := by decide +kernel
theorem dX3_copy_22 : decode cX3_copy 22 = .ok (.getfield 11, 3) := by decide +kernel
theorem dX3_copy_25 : decode cX3_copy 25 = .ok (.iconst 0, 1) := by decide +kernel
theorem dX3_copy_26 : decode cX3_copy 26 = .ok (.iconst 4, 1) := by decide +kernel
theorem dX3_copy_27 : decode cX3_copy 27 = .ok (.invokestatic 50, 3) := by decide +kernel
theorem dX3_copy_30 : decode cX3_copy 30 = .ok (.aload_n 1, 1) := by decide +kernel
theorem dX3_copy_31 : decode cX3_copy 31 = .ok (.getfield 15, 3) := by decide +kernel
theorem dX3_copy_34 : decode cX3_copy 34 = .ok (.iconst 0, 1) := by decide +kernel
theorem dX3_copy_35 : decode cX3_copy 35 = .ok (.aload_n 0, 1) := by decide +kernel
theorem dX3_copy_36 : decode cX3_copy 36 = .ok (.getfield 15, 3) := by decide +kernel
theorem dX3_copy_39 : decode cX3_copy 39 = .ok (.iconst 0, 1) := by decide +kernel
theorem dX3_copy_40 : decode cX3_copy 40 = .ok (.bipush 8, 2) := by decide +kernel
theorem dX3_copy_42 : decode cX3_copy 42 = .ok (.invokestatic 50, 3) := by decide +kernel
theorem dX3_copy_45 : decode cX3_copy 45 = .ok (.return_, 1) := by decide +kernel
set_option maxRecDepth 40000 in
theorem kmX3_28 : Cond.methodLink RX3 28 yX3_sizeOf ∈ qW := qw 428 rfl rfl
set_option maxRecDepth 40000 in
theorem kmX3_32 : Cond.methodLink RX3 32 Lib.Math.min.name ∈ qW := qw 431 rfl rfl
set_option maxRecDepth 40000 in
theorem k_mmin_s : Cond.static Lib.Math.min.name ∈ qW := qw 432 rfl rfl
set_option maxRecDepth 40000 in
theorem k_m_i : Cond.initialized "java/lang/Math" ∈ qW := qw 54 rfl rfl
set_option maxRecDepth 40000 in
theorem k_mmin_c : Cond.code Lib.Math.min.name Lib.Math.min.code 2 (some .int) ∈ qW := qw 433 rfl rfl
set_option maxRecDepth 40000 in
theorem kmX3_38 : Cond.methodLink RX3 38 yX3_isJoined ∈ qW := qw 434 rfl rfl
set_option maxRecDepth 40000 in
theorem kmX3_42 : Cond.methodLink RX3 42 yX3_codeOf ∈ qW := qw 437 rfl rfl
set_option maxRecDepth 40000 in
theorem kmX3_50 : Cond.methodLink RX3 50 arraycopyName ∈ qW := qw 378 rfl rfl
set_option maxRecDepth 40000 in
theorem k_acn : Cond.native arraycopyName ∈ qW := qw 380 rfl rfl
set_option maxRecDepth 40000 in
theorem k_acs : Cond.static arraycopyName ∈ qW := qw 379 rfl rfl
set_option maxRecDepth 40000 in
theorem k_aci : Cond.initialized "java/lang/System" ∈ qW := qw 53 rfl rfl
abbrev rm_c_Form_sizeOf : Room := { frames := 0, cells := 0, slots := 0, locals := 0 }
set_option maxHeartbeats 4000000 in
set_option maxRecDepth 100000 in
theorem c_Form_sizeOf (l : Launch) (dC : Nat → ClassId) (dI : Nat → Nat → Nat) (cI cL cQ cZ : ClassId) (r9 : Nat) (hr9 : r9 < 2 ^ 52) : Met l yX3_sizeOf wkX3_sizeOf rm_c_Form_sizeOf (q_R (dC, dI) qCl (qT cI cL cQ cZ) [] [.long (lN (r9))]) (vp_Si (fun r => r = (nI (r9 / 2 ^ 48 % 8)))) 0 0 (fun _ => False) := by
  refine Met.ofW (cc := cX3_sizeOf) (maxL := 2) (ret := (some .int)) (by decide) rfl ?_
  intro p e s m args below meth c s₁ B hml hv
  obtain ⟨hargs, hP, hK⟩ := hv
  have hx := B.exec
  have hb := B.bytes
  have hr := B.returns
  have hts : ∀ w ∈ qW, w.before args s = true := fun w h => atoms_spec (ws := wkX3_sizeOf) B.pre w (List.mem_cons_of_mem _ h)
  have hown : s.vm.findClass RX3 = some m.cls := findClass_of_methodNamed B.named
  have hlocks := B.notSynchronized
  refine q_named (fun Q hQ => ?_)
  refine q_entry hargs (Nat.le_of_ble_eq_true rfl) (fun ls hl => ?_)
  have hl : lv_has ls 2 [(0, .long (lN (r9)))] := hl
  refine lv_lload_n hx hb dX3_sizeOf_0 rfl (lv_at hl 0 rfl) ?_
  refine lv_bipush (v := (nI (48))) hx hb dX3_sizeOf_1 (by decide) ?_
  refine lv_lshr (v := (lN (r9 / 2 ^ 48))) hx hb dX3_sizeOf_3 (l_shr (sh64 48 (by decide)) (by omega)) ?_
  refine lv_l2i (v := (nI (r9 / 2 ^ 48))) hx hb dX3_sizeOf_4 (lN_i _) ?_
  refine lv_bipush (v := (nI (7))) hx hb dX3_sizeOf_5 (by decide) ?_
  refine lv_iand hx hb dX3_sizeOf_7 ?_
  refine q_top (show ((nI (r9 / 2 ^ 48)) &&& (nI (7))) = (nI (r9 / 2 ^ 48 % 8)) from (i_mask _ 3 (by decide) (by decide))) ?_
  subst hQ
  exact W.iret (v := (nI (r9 / 2 ^ 48 % 8))) hx hb hr (fun t9 h9 _ => ⟨_, rfl, congrArg nI (show r9 / 2 ^ 48 % 8 = r9 / 2 ^ 48 % 8 from by omega), h9⟩) (fun q hq => by cases hq) dX3_sizeOf_8
abbrev rm_c_Form_isJoined : Room := { frames := 0, cells := 0, slots := 0, locals := 0 }
set_option maxHeartbeats 4000000 in
set_option maxRecDepth 100000 in
theorem c_Form_isJoined (l : Launch) (dC : Nat → ClassId) (dI : Nat → Nat → Nat) (cI cL cQ cZ : ClassId) (r9 : Nat) (hr9 : r9 < 2 ^ 52) : Met l yX3_isJoined wkX3_isJoined rm_c_Form_isJoined (q_R (dC, dI) qCl (qT cI cL cQ cZ) [] [.long (lN (r9))]) (vp_Si (fun r => r = (bI (decide (r9 / 2 ^ 51 % 2 = 1))))) 0 0 (fun _ => False) := by
  refine Met.ofW (cc := cX3_isJoined) (maxL := 2) (ret := (some .boolean)) (by decide) rfl ?_
  intro p e s m args below meth c s₁ B hml hv
  obtain ⟨hargs, hP, hK⟩ := hv
  have hx := B.exec
  have hb := B.bytes
  have hr := B.returns
  have hts : ∀ w ∈ qW, w.before args s = true := fun w h => atoms_spec (ws := wkX3_isJoined) B.pre w (List.mem_cons_of_mem _ h)
  have hown : s.vm.findClass RX3 = some m.cls := findClass_of_methodNamed B.named
  have hlocks := B.notSynchronized
  refine q_named (fun Q hQ => ?_)
  refine q_entry hargs (Nat.le_of_ble_eq_true rfl) (fun ls hl => ?_)
  have hl : lv_has ls 2 [(0, .long (lN (r9)))] := hl
  refine lv_lload_n hx hb dX3_isJoined_0 rfl (lv_at hl 0 rfl) ?_
  refine lv_bipush (v := (nI (51))) hx hb dX3_isJoined_1 (by decide) ?_
  refine lv_lshr (v := (lN (r9 / 2 ^ 51))) hx hb dX3_isJoined_3 (l_shr (sh64 51 (by decide)) (by omega)) ?_
  refine lv_lconst (v := lN 1) hx hb dX3_isJoined_4 (by decide) ?_
  refine lv_land hx hb dX3_isJoined_5 ?_
  refine q_topl (show ((lN (r9 / 2 ^ 51)) &&& (lN (1))) = (lN (r9 / 2 ^ 51 % 2)) from (by rw [l_and]; exact congrArg lN (Nat.and_two_pow_sub_one_eq_mod (r9 / 2 ^ 51) 1))) ?_
  refine lv_lconst (v := lN 0) hx hb dX3_isJoined_6 (by decide) ?_
  refine W.lcmp hx hb dX3_isJoined_7 ?_
  refine q_top (show (lg_cmp (lN (r9 / 2 ^ 51 % 2)) (lN (0))) = (nI (r9 / 2 ^ 51 % 2)) from (lcmp0 (by omega))) ?_
  refine q_if_eq (x := r9 / 2 ^ 51 % 2) (tgt := 15) hx hb dX3_isJoined_8 (by decide) (by omega) (fun c8_1 => ?_) (fun c8_1 => ?_)
  · refine lv_iconst (v := (nI (0))) hx hb dX3_isJoined_15 (by decide) ?_
    subst hQ
    exact W.zret (v := (nI (0))) hx hb hr (by decide) (fun t9 h9 _ => ⟨_, rfl, bI_0 (show decide (r9 / 2 ^ 51 % 2 = 1) = false from by (simp only [decide_eq_true_eq, decide_eq_false_iff_not]; omega)), h9⟩) (fun q hq => by cases hq) dX3_isJoined_16
  · refine lv_iconst (v := (nI (1))) hx hb dX3_isJoined_11 (by decide) ?_
    refine lv_goto (tgt := 16) hx hb dX3_isJoined_12 (by decide) ?_
    subst hQ
    exact W.zret (v := (nI (1))) hx hb hr (by decide) (fun t9 h9 _ => ⟨_, rfl, bI_1 (show decide (r9 / 2 ^ 51 % 2 = 1) = true from by (simp only [decide_eq_true_eq, decide_eq_false_iff_not]; omega)), h9⟩) (fun q hq => by cases hq) dX3_isJoined_16
abbrev rm_c_Form_codeOf : Room := { frames := 0, cells := 0, slots := 0, locals := 0 }
set_option maxHeartbeats 4000000 in
set_option maxRecDepth 100000 in
theorem c_Form_codeOf (l : Launch) (dC : Nat → ClassId) (dI : Nat → Nat → Nat) (cI cL cQ cZ : ClassId) (r9 : Nat) (i : Nat) (hr9 : r9 < 2 ^ 52) (hi : i < 4) : Met l yX3_codeOf wkX3_codeOf rm_c_Form_codeOf (q_R (dC, dI) qCl (qT cI cL cQ cZ) [] [.long (lN (r9)), .int (nI (i))]) (vp_Si (fun r => r = (nI (r9 / 2 ^ (12 * (3 - i)) % 4096)))) 0 0 (fun _ => False) := by
  refine Met.ofW (cc := cX3_codeOf) (maxL := 3) (ret := (some .int)) (by decide) rfl ?_
  intro p e s m args below meth c s₁ B hml hv
  obtain ⟨hargs, hP, hK⟩ := hv
  have hx := B.exec
  have hb := B.bytes
  have hr := B.returns
  have hts : ∀ w ∈ qW, w.before args s = true := fun w h => atoms_spec (ws := wkX3_codeOf) B.pre w (List.mem_cons_of_mem _ h)
  have hown : s.vm.findClass RX3 = some m.cls := findClass_of_methodNamed B.named
  have hlocks := B.notSynchronized
  refine q_named (fun Q hQ => ?_)
  refine q_entry hargs (Nat.le_of_ble_eq_true rfl) (fun ls hl => ?_)
  have hl : lv_has ls 3 [(0, .long (lN (r9))), (2, .int (nI (i)))] := hl
  refine lv_lload_n hx hb dX3_codeOf_0 rfl (lv_at hl 0 rfl) ?_
  refine lv_bipush (v := (nI (12))) hx hb dX3_codeOf_1 (by decide) ?_
  refine lv_iconst (v := (nI (3))) hx hb dX3_codeOf_3 (by decide) ?_
  refine lv_iload_n hx hb dX3_codeOf_4 rfl (lv_at hl 1 rfl) ?_
  refine q_isub (x := 3) (y := i) hx hb (by omega) dX3_codeOf_5 ?_
  refine q_imul (x := 12) (y := 3 - i) hx hb dX3_codeOf_6 ?_
  refine lv_lshr (v := (lN (r9 / 2 ^ (12 * (3 - i))))) hx hb dX3_codeOf_7 (l_shr (sh64 (12 * (3 - i)) (by omega)) (by omega)) ?_
  refine lv_l2i (v := (nI (r9 / 2 ^ (12 * (3 - i))))) hx hb dX3_codeOf_8 (lN_i _) ?_
  refine lv_sipush (v := (nI (4095))) hx hb dX3_codeOf_9 (by decide) ?_
  refine lv_iand hx hb dX3_codeOf_12 ?_
  refine q_top (show ((nI (r9 / 2 ^ (12 * (3 - i)))) &&& (nI (4095))) = (nI (r9 / 2 ^ (12 * (3 - i)) % 4096)) from (i_mask _ 12 (by decide) (by decide))) ?_
  subst hQ
  exact W.iret (v := (nI (r9 / 2 ^ (12 * (3 - i)) % 4096))) hx hb hr (fun t9 h9 _ => ⟨_, rfl, congrArg nI (show r9 / 2 ^ (12 * (3 - i)) % 4096 = r9 / 2 ^ (12 * (3 - i)) % 4096 from by omega), h9⟩) (fun q hq => by cases hq) dX3_codeOf_13
abbrev rm_c_Form_rowOf : Room := { frames := 0, cells := 0, slots := 0, locals := 0 }
set_option maxHeartbeats 4000000 in
set_option maxRecDepth 100000 in
theorem c_Form_rowOf (l : Launch) (dC : Nat → ClassId) (dI : Nat → Nat → Nat) (cI cL cQ cZ : ClassId) (h0 : Nat) (a1 : Nat) (a2 : Nat) (n : Nat) (jn : Bool) (nm : Nat → Nat) (pl : Nat → Nat) (ar : Nat) (cd : Nat → Nat) (hn : n ≤ 4) (hcd : ∀ j, cd j < 4096) : Met l yX3_rowOf wkX3_rowOf rm_c_Form_rowOf (q_R (dC, dI) qCl (qT cI cL cQ cZ) [(h0, .inr (3, [.ref a1, .ref a2, .int (nI (n)), .int (bI (jn))])), (a1, .inl (cI, 4, .inl (nF nm))), (a2, .inl (cI, 8, .inl (nF pl))), (ar, .inl (cI, 4, .inl (nF cd)))] [.ref h0, .ref ar]) (vp_Sl (fun r => r = (lN (f_row jn n cd)))) 0 0 (fun _ => False) := by
  refine Met.ofW (cc := cX3_rowOf) (maxL := 5) (ret := (some .long)) (by decide) rfl ?_
  intro p e s m args below meth c s₁ B hml hv
  obtain ⟨hargs, hP, hK⟩ := hv
  have hx := B.exec
  have hb := B.bytes
  have hr := B.returns
  have hts : ∀ w ∈ qW, w.before args s = true := fun w h => atoms_spec (ws := wkX3_rowOf) B.pre w (List.mem_cons_of_mem _ h)
  have hown : s.vm.findClass RX3 = some m.cls := findClass_of_methodNamed B.named
  have hlocks := B.notSynchronized
  refine q_named (fun Q hQ => ?_)
  refine q_entry hargs (Nat.le_of_ble_eq_true rfl) (fun ls hl => ?_)
  have hl : lv_has ls 5 [(0, .ref h0), (1, .ref ar)] := hl
  refine lv_aload_n hx hb dX3_rowOf_0 rfl (lv_at hl 0 rfl) ?_
  refine va_get (D := (dC, dI)) (ci := 3) (v := .int (bI (jn))) (C := RX3) (T := TX3) (N := 4) hx hb hts uX3 hown hK hP 0 rfl rfl 3 (by decide) (hts _ kfX3_22) (fun _ h9 => h9) rfl dX3_rowOf_1 ?_
  refine q_ifb_eq (b := jn) (tgt := 13) hx hb dX3_rowOf_4 (by decide) (fun c4_1 => ?_) (fun c4_1 => ?_)
  · refine lv_lconst (v := lN 0) hx hb dX3_rowOf_13 (by decide) ?_
    refine lv_aload_n hx hb dX3_rowOf_14 rfl (lv_at hl 0 rfl) ?_
    refine va_get (D := (dC, dI)) (ci := 3) (v := .int (nI (n))) (C := RX3) (T := TX3) (N := 4) hx hb hts uX3 hown hK hP 0 rfl rfl 2 (by decide) (hts _ kfX3_18) (fun _ h9 => h9) rfl dX3_rowOf_15 ?_
    refine lv_i2l (v := (lN (n))) hx hb dX3_rowOf_18 (nI_l (by omega)) ?_
    refine lv_bipush (v := (nI (48))) hx hb dX3_rowOf_19 (by decide) ?_
    refine lv_lshl (v := (lN (n * 2 ^ 48))) hx hb dX3_rowOf_21 (l_shl n (k := 48) (by decide)) ?_
    refine lv_lor hx hb dX3_rowOf_22 ?_
    refine q_topl (show ((lN (0)) ||| (lN (n * 2 ^ 48))) = (lN (n * 2 ^ 48)) from (by rw [l_or]; exact congrArg lN (by simp))) ?_
    refine lv_lstore_n (lv' := [(2, .long (lN (n * 2 ^ 48))), (0, .ref h0), (1, .ref ar)]) hx hb dX3_rowOf_23 rfl hl (by decide) rfl (fun ls hl => ?_)
    refine lv_iconst (v := (nI (0))) hx hb dX3_rowOf_24 (by decide) ?_
    refine lv_istore (lv' := [(4, .int (nI (0))), (2, .long (lN (n * 2 ^ 48))), (0, .ref h0), (1, .ref ar)]) hx hb dX3_rowOf_25 hl (by decide) rfl (fun ls hl => ?_)
    have L27 : ∀ (fu : Nat) (w : Nat) (i : Nat) (ls : Array Slot), n - i < fu → (w = f_rowb jn n cd i * 2 ^ (12 * (4 - i))) → (i ≤ n) → lv_has ls 5 [(4, .int (nI (i))), (2, .long (lN (w))), (0, .ref h0), (1, .ref ar)] → W p l e (headSpec wkX3_rowOf rm_c_Form_rowOf).room s m args below meth c s.heap [] 0 0 Q (F0 m 27 ls []) := by
      intro fu
      induction fu with
      | zero => intro w i ls hmu; exact absurd hmu (Nat.not_lt_zero _)
      | succ fu ih27 =>
        intro w i ls hmu hw hi hl
        refine lv_iload hx hb dX3_rowOf_27 (lv_at hl 0 rfl) ?_
        refine lv_aload_n hx hb dX3_rowOf_29 rfl (lv_at hl 2 rfl) ?_
        refine va_get (D := (dC, dI)) (ci := 3) (v := .int (nI (n))) (C := RX3) (T := TX3) (N := 4) hx hb hts uX3 hown hK hP 0 rfl rfl 2 (by decide) (hts _ kfX3_18) (fun _ h9 => h9) rfl dX3_rowOf_30 ?_
        refine q_icmp_ge (x := i) (y := n) (tgt := 58) hx hb dX3_rowOf_33 (by decide) (by omega) (by omega) (fun c33_2 => ?_) (fun c33_2 => ?_)
        · refine lv_lload_n hx hb dX3_rowOf_58 rfl (lv_at hl 1 rfl) ?_
          subst hQ
          exact W.lret (v := (lN (w))) hx hb hr (fun t9 h9 _ => ⟨_, rfl, show (lN (w)) = (lN (f_row jn n cd)) from by (rw [hw, f_row, show i = n by omega]), h9⟩) (fun q hq => by cases hq) dX3_rowOf_59
        · refine lv_lload_n hx hb dX3_rowOf_36 rfl (lv_at hl 1 rfl) ?_
          refine lv_aload_n hx hb dX3_rowOf_37 rfl (lv_at hl 3 rfl) ?_
          refine lv_iload hx hb dX3_rowOf_38 (lv_at hl 0 rfl) ?_
          refine q_ialdN hx hb hK hP 3 0 rfl rfl (j := i) (by omega) (by omega) dX3_rowOf_40 ?_
          have bd3 := hcd i
          refine lv_i2l (v := (lN (cd i))) hx hb dX3_rowOf_41 (nI_l (by omega)) ?_
          refine lv_bipush (v := (nI (12))) hx hb dX3_rowOf_42 (by decide) ?_
          refine lv_iconst (v := (nI (3))) hx hb dX3_rowOf_44 (by decide) ?_
          refine lv_iload hx hb dX3_rowOf_45 (lv_at hl 0 rfl) ?_
          refine q_isub (x := 3) (y := i) hx hb (by omega) dX3_rowOf_47 ?_
          refine q_imul (x := 12) (y := 3 - i) hx hb dX3_rowOf_48 ?_
          refine lv_lshl (v := (lN (cd i * 2 ^ (12 * (3 - i))))) hx hb dX3_rowOf_49 (l_shl (cd i) (k := 12 * (3 - i)) (by omega)) ?_
          refine lv_lor hx hb dX3_rowOf_50 ?_
          refine q_topl (show ((lN (w)) ||| (lN (cd i * 2 ^ (12 * (3 - i))))) = (lN (w ||| cd i * 2 ^ (12 * (3 - i)))) from (l_or _ _)) ?_
          refine lv_lstore_n (lv' := [(2, .long (lN (w ||| cd i * 2 ^ (12 * (3 - i))))), (4, .int (nI (i))), (0, .ref h0), (1, .ref ar)]) hx hb dX3_rowOf_51 rfl hl (by decide) rfl (fun ls hl => ?_)
          refine lv_iinc (v := (nI (i + 1))) (lv' := [(4, .int (nI (i + 1))), (2, .long (lN (w ||| cd i * 2 ^ (12 * (3 - i))))), (0, .ref h0), (1, .ref ar)]) hx hb dX3_rowOf_52 hl (k := 1) rfl (q_inc _) (by decide) rfl (fun ls hl => ?_)
          refine lv_goto (tgt := 27) hx hb dX3_rowOf_55 (by decide) ?_
          exact ih27 (w ||| cd i * 2 ^ (12 * (3 - i))) (i + 1) ls (by omega) (show (w ||| cd i * 2 ^ (12 * (3 - i))) = f_rowb jn n cd (i + 1) * 2 ^ (12 * (4 - (i + 1))) from by (rw [hw]; exact f_rowb_s hn hcd (by omega))) (show (i + 1) ≤ n from by omega) (lv_sub hl [0, 1, 2, 3] rfl)
    exact L27 _ (n * 2 ^ 48) 0 ls (by exact Nat.lt_succ_self _) (show (n * 2 ^ 48) = f_rowb jn n cd 0 * 2 ^ (12 * (4 - 0)) from by (simp [f_rowb, *]; try omega)) (show 0 ≤ n from by omega) (lv_sub hl [0, 1, 2, 3] rfl)
  · refine lv_ldc2 (v := lN 2251799813685248) hx hb hown (hts (.constantLong RX3 26 (2251799813685248)) (by decide +kernel)) dX3_rowOf_7 ?_
    refine lv_goto (tgt := 14) hx hb dX3_rowOf_10 (by decide) ?_
    refine lv_aload_n hx hb dX3_rowOf_14 rfl (lv_at hl 0 rfl) ?_
    refine va_get (D := (dC, dI)) (ci := 3) (v := .int (nI (n))) (C := RX3) (T := TX3) (N := 4) hx hb hts uX3 hown hK hP 0 rfl rfl 2 (by decide) (hts _ kfX3_18) (fun _ h9 => h9) rfl dX3_rowOf_15 ?_
    refine lv_i2l (v := (lN (n))) hx hb dX3_rowOf_18 (nI_l (by omega)) ?_
    refine lv_bipush (v := (nI (48))) hx hb dX3_rowOf_19 (by decide) ?_
    refine lv_lshl (v := (lN (n * 2 ^ 48))) hx hb dX3_rowOf_21 (l_shl n (k := 48) (by decide)) ?_
    refine lv_lor hx hb dX3_rowOf_22 ?_
    refine q_topl (show ((lN (2251799813685248)) ||| (lN (n * 2 ^ 48))) = (lN (2251799813685248 + n * 2 ^ 48)) from (by rw [l_or]; exact congrArg lN (by rw [Nat.or_comm, show (2251799813685248 : Nat) = 8 * 2 ^ 48 from rfl]; exact or8 hn))) ?_
    refine lv_lstore_n (lv' := [(2, .long (lN (2251799813685248 + n * 2 ^ 48))), (0, .ref h0), (1, .ref ar)]) hx hb dX3_rowOf_23 rfl hl (by decide) rfl (fun ls hl => ?_)
    refine lv_iconst (v := (nI (0))) hx hb dX3_rowOf_24 (by decide) ?_
    refine lv_istore (lv' := [(4, .int (nI (0))), (2, .long (lN (2251799813685248 + n * 2 ^ 48))), (0, .ref h0), (1, .ref ar)]) hx hb dX3_rowOf_25 hl (by decide) rfl (fun ls hl => ?_)
    have L27 : ∀ (fu : Nat) (w : Nat) (i : Nat) (ls : Array Slot), n - i < fu → (w = f_rowb jn n cd i * 2 ^ (12 * (4 - i))) → (i ≤ n) → lv_has ls 5 [(4, .int (nI (i))), (2, .long (lN (w))), (0, .ref h0), (1, .ref ar)] → W p l e (headSpec wkX3_rowOf rm_c_Form_rowOf).room s m args below meth c s.heap [] 0 0 Q (F0 m 27 ls []) := by
      intro fu
      induction fu with
      | zero => intro w i ls hmu; exact absurd hmu (Nat.not_lt_zero _)
      | succ fu ih27 =>
        intro w i ls hmu hw hi hl
        refine lv_iload hx hb dX3_rowOf_27 (lv_at hl 0 rfl) ?_
        refine lv_aload_n hx hb dX3_rowOf_29 rfl (lv_at hl 2 rfl) ?_
        refine va_get (D := (dC, dI)) (ci := 3) (v := .int (nI (n))) (C := RX3) (T := TX3) (N := 4) hx hb hts uX3 hown hK hP 0 rfl rfl 2 (by decide) (hts _ kfX3_18) (fun _ h9 => h9) rfl dX3_rowOf_30 ?_
        refine q_icmp_ge (x := i) (y := n) (tgt := 58) hx hb dX3_rowOf_33 (by decide) (by omega) (by omega) (fun c33_4 => ?_) (fun c33_4 => ?_)
        · refine lv_lload_n hx hb dX3_rowOf_58 rfl (lv_at hl 1 rfl) ?_
          subst hQ
          exact W.lret (v := (lN (w))) hx hb hr (fun t9 h9 _ => ⟨_, rfl, show (lN (w)) = (lN (f_row jn n cd)) from by (rw [hw, f_row, show i = n by omega]), h9⟩) (fun q hq => by cases hq) dX3_rowOf_59
        · refine lv_lload_n hx hb dX3_rowOf_36 rfl (lv_at hl 1 rfl) ?_
          refine lv_aload_n hx hb dX3_rowOf_37 rfl (lv_at hl 3 rfl) ?_
          refine lv_iload hx hb dX3_rowOf_38 (lv_at hl 0 rfl) ?_
          refine q_ialdN hx hb hK hP 3 0 rfl rfl (j := i) (by omega) (by omega) dX3_rowOf_40 ?_
          have bd5 := hcd i
          refine lv_i2l (v := (lN (cd i))) hx hb dX3_rowOf_41 (nI_l (by omega)) ?_
          refine lv_bipush (v := (nI (12))) hx hb dX3_rowOf_42 (by decide) ?_
          refine lv_iconst (v := (nI (3))) hx hb dX3_rowOf_44 (by decide) ?_
          refine lv_iload hx hb dX3_rowOf_45 (lv_at hl 0 rfl) ?_
          refine q_isub (x := 3) (y := i) hx hb (by omega) dX3_rowOf_47 ?_
          refine q_imul (x := 12) (y := 3 - i) hx hb dX3_rowOf_48 ?_
          refine lv_lshl (v := (lN (cd i * 2 ^ (12 * (3 - i))))) hx hb dX3_rowOf_49 (l_shl (cd i) (k := 12 * (3 - i)) (by omega)) ?_
          refine lv_lor hx hb dX3_rowOf_50 ?_
          refine q_topl (show ((lN (w)) ||| (lN (cd i * 2 ^ (12 * (3 - i))))) = (lN (w ||| cd i * 2 ^ (12 * (3 - i)))) from (l_or _ _)) ?_
          refine lv_lstore_n (lv' := [(2, .long (lN (w ||| cd i * 2 ^ (12 * (3 - i))))), (4, .int (nI (i))), (0, .ref h0), (1, .ref ar)]) hx hb dX3_rowOf_51 rfl hl (by decide) rfl (fun ls hl => ?_)
          refine lv_iinc (v := (nI (i + 1))) (lv' := [(4, .int (nI (i + 1))), (2, .long (lN (w ||| cd i * 2 ^ (12 * (3 - i))))), (0, .ref h0), (1, .ref ar)]) hx hb dX3_rowOf_52 hl (k := 1) rfl (q_inc _) (by decide) rfl (fun ls hl => ?_)
          refine lv_goto (tgt := 27) hx hb dX3_rowOf_55 (by decide) ?_
          exact ih27 (w ||| cd i * 2 ^ (12 * (3 - i))) (i + 1) ls (by omega) (show (w ||| cd i * 2 ^ (12 * (3 - i))) = f_rowb jn n cd (i + 1) * 2 ^ (12 * (4 - (i + 1))) from by (rw [hw]; exact f_rowb_s hn hcd (by omega))) (show (i + 1) ≤ n from by omega) (lv_sub hl [0, 1, 2, 3] rfl)
    exact L27 _ (2251799813685248 + n * 2 ^ 48) 0 ls (by exact Nat.lt_succ_self _) (show (2251799813685248 + n * 2 ^ 48) = f_rowb jn n cd 0 * 2 ^ (12 * (4 - 0)) from by (simp [f_rowb, *]; try omega)) (show 0 ≤ n from by omega) (lv_sub hl [0, 1, 2, 3] rfl)
abbrev rm_c_Form_read : Room := { frames := 1, cells := 0, slots := 0, locals := 40 }
set_option maxHeartbeats 4000000 in
set_option maxRecDepth 100000 in
theorem c_Form_read (l : Launch) (dC : Nat → ClassId) (dI : Nat → Nat → Nat) (cI cL cQ cZ : ClassId) (h0 : Nat) (a1 : Nat) (a2 : Nat) (n : Nat) (jn : Bool) (nm : Nat → Nat) (pl : Nat → Nat) (r9 : Nat) (hr9 : r9 < 2 ^ 52) (hnm : ∀ j, nm j < 64) (hpl : ∀ j, pl j < 16) : Met l yX3_read wkX3_read rm_c_Form_read (q_W (dC, dI) qCl (qT cI cL cQ cZ) [(h0, .inr (3, [.ref a1, .ref a2, .int (nI (n)), .int (bI (jn))])), (a1, .inl (cI, 4, .inl (nF nm))), (a2, .inl (cI, 8, .inl (nF pl)))] [.ref h0, .long (lN (r9))]) (va_Qv (fun (u : (Nat → Nat) × (Nat → Nat)) => (∀ j, u.1 j < 64) ∧ (∀ j, u.2 j < 16) ∧ (f_rd r9 u.1 u.2 (min (r9 / 2 ^ 48 % 8) 4))) (fun (u : (Nat → Nat) × (Nat → Nat)) t => va_P (dC, dI) qCl [(h0, .inr (3, [.ref a1, .ref a2, .int (nI (min (r9 / 2 ^ 48 % 8) 4)), .int (bI (decide (r9 / 2 ^ 51 % 2 = 1)))])), (a1, .inl (cI, 4, .inl (nF u.1))), (a2, .inl (cI, 8, .inl (nF u.2)))] t.heap) (q_A [(h0, .inr (3, [.ref a1, .ref a2, .int (nI (n)), .int (bI (jn))])), (a1, .inl (cI, 4, .inl (nF nm))), (a2, .inl (cI, 8, .inl (nF pl)))])) 0 0 (q_A [(h0, .inr (3, [.ref a1, .ref a2, .int (nI (n)), .int (bI (jn))])), (a1, .inl (cI, 4, .inl (nF nm))), (a2, .inl (cI, 8, .inl (nF pl)))]) := by
  refine Met.ofW (cc := cX3_read) (maxL := 5) (ret := none) (by decide) rfl ?_
  intro p e s m args below meth c s₁ B hml hv
  obtain ⟨hargs, hP, hK, hD0⟩ := hv
  have hx := B.exec
  have hb := B.bytes
  have hr := B.returns
  have hts : ∀ w ∈ qW, w.before args s = true := fun w h => atoms_spec (ws := wkX3_read) B.pre w (List.mem_cons_of_mem _ h)
  have hown : s.vm.findClass RX3 = some m.cls := findClass_of_methodNamed B.named
  have hlocks := B.notSynchronized
  refine q_named (fun Q hQ => ?_)
  have hD : va_D (q_A [(h0, .inr (3, [.ref a1, .ref a2, .int (nI (n)), .int (bI (jn))])), (a1, .inl (cI, 4, .inl (nF nm))), (a2, .inl (cI, 8, .inl (nF pl)))]) [(h0, .inr (3, [.ref a1, .ref a2, .int (nI (n)), .int (bI (jn))])), (a1, .inl (cI, 4, .inl (nF nm))), (a2, .inl (cI, 8, .inl (nF pl)))] := ⟨hD0.1, fun k q h => ⟨k, q.2, h⟩⟩
  generalize hAe : q_A [(h0, .inr (3, [.ref a1, .ref a2, .int (nI (n)), .int (bI (jn))])), (a1, .inl (cI, 4, .inl (nF nm))), (a2, .inl (cI, 8, .inl (nF pl)))] = A at hD
  have hS : va_S A s.heap s.heap [] := va_S.rf
  refine q_entry hargs (Nat.le_of_ble_eq_true rfl) (fun ls hl => ?_)
  have hl : lv_has ls 5 [(0, .ref h0), (1, .long (lN (r9)))] := hl
  obtain ⟨H, locs, eH, eL⟩ : ∃ (H : Heap) (locs : List Loc), s.heap = H ∧ ([] : List Loc) = locs := ⟨_, _, rfl, rfl⟩
  have hS : va_S A s.heap H locs := by rw [← eH, ← eL]; exact hS
  have hP : va_P (dC, dI) qCl [(h0, .inr (3, [.ref a1, .ref a2, .int (nI (n)), .int (bI (jn))])), (a1, .inl (cI, 4, .inl (nF nm))), (a2, .inl (cI, 8, .inl (nF pl)))] H := by rw [← eH]; exact hP
  refine W_at eH eL ?_
  refine lv_aload_n hx hb dX3_read_0 rfl (lv_at hl 0 rfl) ?_
  refine lv_lload_n hx hb dX3_read_1 rfl (lv_at hl 1 rfl) ?_
  refine vp_callSi (va_Run.run (va_runS (As := [.long (lN (r9))]) (rest := [.ref h0]) ⟨hx, hb, hml, hown, hts⟩ (c_Form_sizeOf l dC dI cI cL cQ cZ r9 (show r9 < 2 ^ 52 from by first | assumption | omega)) (q_cwS 1 hts gkX3_sizeOf kmX3_28 ksX3_sizeOf kiX3 rfl rfl rfl (by decide +kernel) ⟨Nat.le_of_ble_eq_true rfl, Nat.le_of_ble_eq_true rfl⟩) (q_preS hK hP [] rfl) rfl rfl hl.1 rfl (lv_room (Nat.le_of_ble_eq_true rfl)) dX3_read_2 ⟨Nat.zero_le _, Nat.zero_le _⟩)) (fun r1 hr1 => ?_)
  subst hr1
  refine lv_iconst (v := (nI (4))) hx hb dX3_read_5 (by decide) ?_
  refine q_mmin (x := r9 / 2 ^ 48 % 8) (y := 4) hx hb (hml.trans hl.1.symm) hown (hts _ kmX3_32) (hts _ k_mmin_s) (hts _ k_m_i) (hts _ k_mmin_c) (Nat.le_of_ble_eq_true rfl) (Nat.le_of_ble_eq_true rfl) (Nat.zero_le _) (Nat.zero_le _) (by omega) (by omega) dX3_read_6 ?_
  refine va_put (D := (dC, dI)) (ci := 3) (v := .int (nI (min (r9 / 2 ^ 48 % 8) 4))) (ty := .int) (C := RX3) (T := TX3) (N := 4) hx hb hts uX3 tyX3 tyX3_ok nmX3 hown hK hP hD hS 0 rfl rfl 2 (by decide) (hts _ kfX3_18) (fun _ h9 => h9) rfl (by decide +kernel) (rfl) (rfl) (Nat.le_of_ble_eq_true rfl) dX3_read_9 (fun H locs hP hD hS => ?_)
  have hP : va_P (dC, dI) qCl [(h0, .inr (3, [.ref a1, .ref a2, .int (nI (min (r9 / 2 ^ 48 % 8) 4)), .int (bI (jn))])), (a1, .inl (cI, 4, .inl (nF nm))), (a2, .inl (cI, 8, .inl (nF pl)))] H := hP
  have hD : va_D A [(h0, .inr (3, [.ref a1, .ref a2, .int (nI (min (r9 / 2 ^ 48 % 8) 4)), .int (bI (jn))])), (a1, .inl (cI, 4, .inl (nF nm))), (a2, .inl (cI, 8, .inl (nF pl)))] := hD
  refine lv_aload_n hx hb dX3_read_12 rfl (lv_at hl 0 rfl) ?_
  refine lv_lload_n hx hb dX3_read_13 rfl (lv_at hl 1 rfl) ?_
  refine vp_callSi (va_Run.run (va_runS (As := [.long (lN (r9))]) (rest := [.ref h0]) ⟨hx, hb, hml, hown, hts⟩ (c_Form_isJoined l dC dI cI cL cQ cZ r9 (show r9 < 2 ^ 52 from by first | assumption | omega)) (q_cwS 1 hts gkX3_isJoined kmX3_38 ksX3_isJoined kiX3 rfl rfl rfl (by decide +kernel) ⟨Nat.le_of_ble_eq_true rfl, Nat.le_of_ble_eq_true rfl⟩) (q_preS hK hP [] rfl) rfl rfl hl.1 rfl (lv_room (Nat.le_of_ble_eq_true rfl)) dX3_read_14 ⟨Nat.zero_le _, Nat.zero_le _⟩)) (fun r2 hr2 => ?_)
  subst hr2
  refine va_put (D := (dC, dI)) (ci := 3) (v := .int (bI (decide (r9 / 2 ^ 51 % 2 = 1)))) (ty := .boolean) (C := RX3) (T := TX3) (N := 4) hx hb hts uX3 tyX3 tyX3_ok nmX3 hown hK hP hD hS 0 rfl rfl 3 (by decide) (hts _ kfX3_22) (fun _ h9 => h9) rfl (by decide +kernel) (bI_nar _) ((by cases (decide (r9 / 2 ^ 51 % 2 = 1)) <;> rfl)) (Nat.le_of_ble_eq_true rfl) dX3_read_17 (fun H locs hP hD hS => ?_)
  have hP : va_P (dC, dI) qCl [(h0, .inr (3, [.ref a1, .ref a2, .int (nI (min (r9 / 2 ^ 48 % 8) 4)), .int (bI (decide (r9 / 2 ^ 51 % 2 = 1)))])), (a1, .inl (cI, 4, .inl (nF nm))), (a2, .inl (cI, 8, .inl (nF pl)))] H := hP
  have hD : va_D A [(h0, .inr (3, [.ref a1, .ref a2, .int (nI (min (r9 / 2 ^ 48 % 8) 4)), .int (bI (decide (r9 / 2 ^ 51 % 2 = 1)))])), (a1, .inl (cI, 4, .inl (nF nm))), (a2, .inl (cI, 8, .inl (nF pl)))] := hD
  refine lv_iconst (v := (nI (0))) hx hb dX3_read_20 (by decide) ?_
  refine lv_istore_n (lv' := [(3, .int (nI (0))), (0, .ref h0), (1, .long (lN (r9)))]) hx hb dX3_read_21 rfl hl (by decide) rfl (fun ls hl => ?_)
  have L22 : ∀ (fu : Nat) (g1 : Nat → Nat) (g2 : Nat → Nat) (i : Nat) (ls : Array Slot) (H : Heap) (locs : List Loc), min (r9 / 2 ^ 48 % 8) 4 - i < fu → (∀ j, g1 j < 64) → (∀ j, g2 j < 16) → (f_rd r9 g1 g2 i) → (i ≤ min (r9 / 2 ^ 48 % 8) 4) → lv_has ls 5 [(3, .int (nI (i))), (0, .ref h0), (1, .long (lN (r9)))] → va_P (dC, dI) qCl [(h0, .inr (3, [.ref a1, .ref a2, .int (nI (min (r9 / 2 ^ 48 % 8) 4)), .int (bI (decide (r9 / 2 ^ 51 % 2 = 1)))])), (a1, .inl (cI, 4, .inl (nF g1))), (a2, .inl (cI, 8, .inl (nF g2)))] H → va_D A [(h0, .inr (3, [.ref a1, .ref a2, .int (nI (min (r9 / 2 ^ 48 % 8) 4)), .int (bI (decide (r9 / 2 ^ 51 % 2 = 1)))])), (a1, .inl (cI, 4, .inl (nF g1))), (a2, .inl (cI, 8, .inl (nF g2)))] → va_S A s.heap H locs → W p l e (headSpec wkX3_read rm_c_Form_read).room s m args below meth c H locs 0 0 Q (F0 m 22 ls []) := by
    intro fu
    induction fu with
    | zero => intro g1 g2 i ls H locs hmu; exact absurd hmu (Nat.not_lt_zero _)
    | succ fu ih22 =>
      intro g1 g2 i ls H locs hmu hg1 hg2 ha hi hl hP hD hS
      refine lv_iload_n hx hb dX3_read_22 rfl (lv_at hl 0 rfl) ?_
      refine lv_aload_n hx hb dX3_read_23 rfl (lv_at hl 1 rfl) ?_
      refine va_get (D := (dC, dI)) (ci := 3) (v := .int (nI (min (r9 / 2 ^ 48 % 8) 4))) (C := RX3) (T := TX3) (N := 4) hx hb hts uX3 hown hK hP 0 rfl rfl 2 (by decide) (hts _ kfX3_18) (fun _ h9 => h9) rfl dX3_read_24 ?_
      refine q_icmp_ge (x := i) (y := min (r9 / 2 ^ 48 % 8) 4) (tgt := 66) hx hb dX3_read_27 (by decide) (by omega) (by omega) (fun c27_3 => ?_) (fun c27_3 => ?_)
      · subst hQ
        subst hAe
        have hP9 := hP.sub (ws' := [(h0, .inr (3, [.ref a1, .ref a2, .int (nI (min (r9 / 2 ^ 48 % 8) 4)), .int (bI (decide (r9 / 2 ^ 51 % 2 = 1)))])), (a1, .inl (cI, 4, .inl (nF g1))), (a2, .inl (cI, 8, .inl (nF g2)))]) [0, 1, 2] rfl
        exact W.vret hx hb hr (fun t9 h9 _ => ⟨⟨(g1, g2), rfl, ⟨(show ∀ j, g1 j < 64 from by (exact hg1)), (show ∀ j, g2 j < 16 from by (exact hg2)), (show f_rd r9 g1 g2 (min (r9 / 2 ^ 48 % 8) 4) from by (rw [show min (r9 / 2 ^ 48 % 8) 4 = i by omega]; exact ha))⟩, by show va_P _ _ _ t9.heap; rw [h9]; exact hP9⟩, hS.F h9⟩) hS.2.2 dX3_read_66
      · refine lv_lload_n hx hb dX3_read_30 rfl (lv_at hl 2 rfl) ?_
        refine lv_iload_n hx hb dX3_read_31 rfl (lv_at hl 0 rfl) ?_
        refine vp_callSi (va_Run.run (va_runS (As := [.long (lN (r9)), .int (nI (i))]) (rest := []) ⟨hx, hb, hml, hown, hts⟩ (c_Form_codeOf l dC dI cI cL cQ cZ r9 i (show r9 < 2 ^ 52 from by first | assumption | omega) (show i < 4 from by first | assumption | omega)) (q_cwS 2 hts gkX3_codeOf kmX3_42 ksX3_codeOf kiX3 rfl rfl rfl (by decide +kernel) ⟨Nat.le_of_ble_eq_true rfl, Nat.le_of_ble_eq_true rfl⟩) (q_preS hK hP [] rfl) rfl rfl hl.1 rfl (lv_room (Nat.le_of_ble_eq_true rfl)) dX3_read_32 ⟨Nat.zero_le _, Nat.zero_le _⟩)) (fun r4 hr4 => ?_)
        subst hr4
        refine lv_istore (lv' := [(4, .int (nI (r9 / 2 ^ (12 * (3 - i)) % 4096))), (3, .int (nI (i))), (0, .ref h0), (1, .long (lN (r9)))]) hx hb dX3_read_35 hl (by decide) rfl (fun ls hl => ?_)
        refine lv_aload_n hx hb dX3_read_37 rfl (lv_at hl 2 rfl) ?_
        refine lv_iload_n hx hb dX3_read_38 rfl (lv_at hl 1 rfl) ?_
        refine lv_iload hx hb dX3_read_39 (lv_at hl 0 rfl) ?_
        refine lv_bipush (v := (nI (64))) hx hb dX3_read_41 (by decide) ?_
        refine q_idiv (x := r9 / 2 ^ (12 * (3 - i)) % 4096) (y := 64) hx hb (by omega) (by omega) (by omega) dX3_read_43 ?_
        refine lv_iload hx hb dX3_read_44 (lv_at hl 0 rfl) ?_
        refine lv_bipush (v := (nI (8))) hx hb dX3_read_46 (by decide) ?_
        refine q_idiv (x := r9 / 2 ^ (12 * (3 - i)) % 4096) (y := 8) hx hb (by omega) (by omega) (by omega) dX3_read_48 ?_
        refine lv_bipush (v := (nI (8))) hx hb dX3_read_49 (by decide) ?_
        refine q_irem (x := (r9 / 2 ^ (12 * (3 - i)) % 4096) / 8) (y := 8) hx hb (by omega) (by omega) (by omega) dX3_read_51 ?_
        refine lv_iload hx hb dX3_read_52 (lv_at hl 0 rfl) ?_
        refine lv_bipush (v := (nI (8))) hx hb dX3_read_54 (by decide) ?_
        refine q_irem (x := r9 / 2 ^ (12 * (3 - i)) % 4096) (y := 8) hx hb (by omega) (by omega) (by omega) dX3_read_56 ?_
        refine q_joinv (wr := []) (va_runV (As := [.int (nI (i)), .int (nI ((r9 / 2 ^ (12 * (3 - i)) % 4096) / 64)), .int (nI (((r9 / 2 ^ (12 * (3 - i)) % 4096) / 8) % 8)), .int (nI ((r9 / 2 ^ (12 * (3 - i)) % 4096) % 8))]) (rest := []) ⟨hx, hb, hml, hown, hts⟩ (c_Form_put l dC dI cI cL cQ cZ h0 a1 a2 (min (r9 / 2 ^ 48 % 8) 4) (decide (r9 / 2 ^ 51 % 2 = 1)) g1 g2 i ((r9 / 2 ^ (12 * (3 - i)) % 4096) / 64) (((r9 / 2 ^ (12 * (3 - i)) % 4096) / 8) % 8) ((r9 / 2 ^ (12 * (3 - i)) % 4096) % 8) (show i < 4 from by first | assumption | omega)) (q_cwV 4 hts gkX3_put kmX3_46 knX3_put klX3_put kiX3 rfl rfl rfl (by decide +kernel) ⟨Nat.le_of_ble_eq_true rfl, Nat.le_of_ble_eq_true rfl⟩) (q_preVW hK hP hD [0, 1, 2] rfl (by decide) 0 (ci := 3) (r := (RX3, TX3, 4)) rfl rfl) rfl rfl hl.1 rfl (lv_room (Nat.le_of_ble_eq_true rfl)) dX3_read_57 ⟨Nat.zero_le _, Nat.zero_le _⟩) hP hD hS [0, 1, 2] [] rfl rfl (by decide) (fun _ => rfl) (fun _ H locs hq6 hP hD hS => ?_)
        have hP : va_P (dC, dI) qCl [(h0, .inr (3, [.ref a1, .ref a2, .int (nI (min (r9 / 2 ^ 48 % 8) 4)), .int (bI (decide (r9 / 2 ^ 51 % 2 = 1)))])), (a1, .inl (cI, 4, .inl (nF (va_up g1 i ((r9 / 2 ^ (12 * (3 - i)) % 4096) / 64))))), (a2, .inl (cI, 8, .inl (nF (f_put g2 i (((r9 / 2 ^ (12 * (3 - i)) % 4096) / 8) % 8) ((r9 / 2 ^ (12 * (3 - i)) % 4096) % 8)))))] H := hP
        have hD : va_D A [(h0, .inr (3, [.ref a1, .ref a2, .int (nI (min (r9 / 2 ^ 48 % 8) 4)), .int (bI (decide (r9 / 2 ^ 51 % 2 = 1)))])), (a1, .inl (cI, 4, .inl (nF (va_up g1 i ((r9 / 2 ^ (12 * (3 - i)) % 4096) / 64))))), (a2, .inl (cI, 8, .inl (nF (f_put g2 i (((r9 / 2 ^ (12 * (3 - i)) % 4096) / 8) % 8) ((r9 / 2 ^ (12 * (3 - i)) % 4096) % 8)))))] := hD
        refine lv_iinc (v := (nI (i + 1))) (lv' := [(3, .int (nI (i + 1))), (4, .int (nI (r9 / 2 ^ (12 * (3 - i)) % 4096))), (0, .ref h0), (1, .long (lN (r9)))]) hx hb dX3_read_60 hl (k := 1) rfl (q_inc _) (by decide) rfl (fun ls hl => ?_)
        refine lv_goto (tgt := 22) hx hb dX3_read_63 (by decide) ?_
        exact ih22 (va_up g1 i ((r9 / 2 ^ (12 * (3 - i)) % 4096) / 64)) (f_put g2 i (((r9 / 2 ^ (12 * (3 - i)) % 4096) / 8) % 8) ((r9 / 2 ^ (12 * (3 - i)) % 4096) % 8)) (i + 1) ls _ _ (by omega) (show ∀ j, (va_up g1 i ((r9 / 2 ^ (12 * (3 - i)) % 4096) / 64)) j < 64 from by (exact up_lt hg1 (by omega))) (show ∀ j, (f_put g2 i (((r9 / 2 ^ (12 * (3 - i)) % 4096) / 8) % 8) ((r9 / 2 ^ (12 * (3 - i)) % 4096) % 8)) j < 16 from by (exact up_lt (up_lt hg2 (by omega)) (by omega))) (show f_rd r9 (va_up g1 i ((r9 / 2 ^ (12 * (3 - i)) % 4096) / 64)) (f_put g2 i (((r9 / 2 ^ (12 * (3 - i)) % 4096) / 8) % 8) ((r9 / 2 ^ (12 * (3 - i)) % 4096) % 8)) (i + 1) from by (exact f_rd_s ha)) (show (i + 1) ≤ min (r9 / 2 ^ 48 % 8) 4 from by omega) (lv_sub hl [0, 2, 3] rfl) (hP.sub [0, 1, 2] rfl) (hD.sub [0, 1, 2] (by decide) rfl) hS
  exact L22 _ nm pl 0 ls _ _ (by exact Nat.lt_succ_self _) (show ∀ j, nm j < 64 from by (exact hnm)) (show ∀ j, pl j < 16 from by (exact hpl)) (show f_rd r9 nm pl 0 from by (intro j hj; omega)) (show 0 ≤ min (r9 / 2 ^ 48 % 8) 4 from by omega) (lv_sub hl [0, 1, 2] rfl) (hP.sub [0, 1, 2] rfl) (hD.sub [0, 1, 2] (by decide) rfl) hS
abbrev rm_c_Form_copy : Room := { frames := 1, cells := 0, slots := 0, locals := 60 }
set_option maxHeartbeats 4000000 in
set_option maxRecDepth 100000 in
theorem c_Form_copy (l : Launch) (dC : Nat → ClassId) (dI : Nat → Nat → Nat) (cI cL cQ cZ : ClassId) (h0 : Nat) (a1 : Nat) (a2 : Nat) (n : Nat) (jn : Bool) (nm : Nat → Nat) (pl : Nat → Nat) (o0 : Nat) (o1 : Nat) (o2 : Nat) (n2 : Nat) (jn2 : Bool) (nm2 : Nat → Nat) (pl2 : Nat → Nat)  : Met l yX3_copy wkX3_copy rm_c_Form_copy (q_W (dC, dI) qCl (qT cI cL cQ cZ) [(h0, .inr (3, [.ref a1, .ref a2, .int (nI (n)), .int (bI (jn))])), (a1, .inl (cI, 4, .inl (nF nm))), (a2, .inl (cI, 8, .inl (nF pl))), (o0, .inr (3, [.ref o1, .ref o2, .int (nI (n2)), .int (bI (jn2))])), (o1, .inl (cI, 4, .inl (nF nm2))), (o2, .inl (cI, 8, .inl (nF pl2)))] [.ref h0, .ref o0]) (va_Qv (fun (u : Unit) => True) (fun (u : Unit) t => va_P (dC, dI) qCl [(h0, .inr (3, [.ref a1, .ref a2, .int (nI (n2)), .int (bI (jn2))])), (a1, .inl (cI, 4, .inl (nF nm2))), (a2, .inl (cI, 8, .inl (nF pl2))), (o0, .inr (3, [.ref o1, .ref o2, .int (nI (n2)), .int (bI (jn2))])), (o1, .inl (cI, 4, .inl (nF nm2))), (o2, .inl (cI, 8, .inl (nF pl2)))] t.heap) (q_A [(h0, .inr (3, [.ref a1, .ref a2, .int (nI (n)), .int (bI (jn))])), (a1, .inl (cI, 4, .inl (nF nm))), (a2, .inl (cI, 8, .inl (nF pl))), (o0, .inr (3, [.ref o1, .ref o2, .int (nI (n2)), .int (bI (jn2))])), (o1, .inl (cI, 4, .inl (nF nm2))), (o2, .inl (cI, 8, .inl (nF pl2)))])) 0 0 (q_A [(h0, .inr (3, [.ref a1, .ref a2, .int (nI (n)), .int (bI (jn))])), (a1, .inl (cI, 4, .inl (nF nm))), (a2, .inl (cI, 8, .inl (nF pl))), (o0, .inr (3, [.ref o1, .ref o2, .int (nI (n2)), .int (bI (jn2))])), (o1, .inl (cI, 4, .inl (nF nm2))), (o2, .inl (cI, 8, .inl (nF pl2)))]) := by
  refine Met.ofW (cc := cX3_copy) (maxL := 2) (ret := none) (by decide) rfl ?_
  intro p e s m args below meth c s₁ B hml hv
  obtain ⟨hargs, hP, hK, hD0⟩ := hv
  have hx := B.exec
  have hb := B.bytes
  have hr := B.returns
  have hts : ∀ w ∈ qW, w.before args s = true := fun w h => atoms_spec (ws := wkX3_copy) B.pre w (List.mem_cons_of_mem _ h)
  have hown : s.vm.findClass RX3 = some m.cls := findClass_of_methodNamed B.named
  have hlocks := B.notSynchronized
  refine q_named (fun Q hQ => ?_)
  have hD : va_D (q_A [(h0, .inr (3, [.ref a1, .ref a2, .int (nI (n)), .int (bI (jn))])), (a1, .inl (cI, 4, .inl (nF nm))), (a2, .inl (cI, 8, .inl (nF pl))), (o0, .inr (3, [.ref o1, .ref o2, .int (nI (n2)), .int (bI (jn2))])), (o1, .inl (cI, 4, .inl (nF nm2))), (o2, .inl (cI, 8, .inl (nF pl2)))]) [(h0, .inr (3, [.ref a1, .ref a2, .int (nI (n)), .int (bI (jn))])), (a1, .inl (cI, 4, .inl (nF nm))), (a2, .inl (cI, 8, .inl (nF pl))), (o0, .inr (3, [.ref o1, .ref o2, .int (nI (n2)), .int (bI (jn2))])), (o1, .inl (cI, 4, .inl (nF nm2))), (o2, .inl (cI, 8, .inl (nF pl2)))] := ⟨hD0.1, fun k q h => ⟨k, q.2, h⟩⟩
  generalize hAe : q_A [(h0, .inr (3, [.ref a1, .ref a2, .int (nI (n)), .int (bI (jn))])), (a1, .inl (cI, 4, .inl (nF nm))), (a2, .inl (cI, 8, .inl (nF pl))), (o0, .inr (3, [.ref o1, .ref o2, .int (nI (n2)), .int (bI (jn2))])), (o1, .inl (cI, 4, .inl (nF nm2))), (o2, .inl (cI, 8, .inl (nF pl2)))] = A at hD
  have hS : va_S A s.heap s.heap [] := va_S.rf
  refine q_entry hargs (Nat.le_of_ble_eq_true rfl) (fun ls hl => ?_)
  have hl : lv_has ls 2 [(0, .ref h0), (1, .ref o0)] := hl
  obtain ⟨H, locs, eH, eL⟩ : ∃ (H : Heap) (locs : List Loc), s.heap = H ∧ ([] : List Loc) = locs := ⟨_, _, rfl, rfl⟩
  have hS : va_S A s.heap H locs := by rw [← eH, ← eL]; exact hS
  have hP : va_P (dC, dI) qCl [(h0, .inr (3, [.ref a1, .ref a2, .int (nI (n)), .int (bI (jn))])), (a1, .inl (cI, 4, .inl (nF nm))), (a2, .inl (cI, 8, .inl (nF pl))), (o0, .inr (3, [.ref o1, .ref o2, .int (nI (n2)), .int (bI (jn2))])), (o1, .inl (cI, 4, .inl (nF nm2))), (o2, .inl (cI, 8, .inl (nF pl2)))] H := by rw [← eH]; exact hP
  refine W_at eH eL ?_
  refine lv_aload_n hx hb dX3_copy_0 rfl (lv_at hl 0 rfl) ?_
  refine lv_aload_n hx hb dX3_copy_1 rfl (lv_at hl 1 rfl) ?_
  refine va_get (D := (dC, dI)) (ci := 3) (v := .int (nI (n2))) (C := RX3) (T := TX3) (N := 4) hx hb hts uX3 hown hK hP 3 rfl rfl 2 (by decide) (hts _ kfX3_18) (fun _ h9 => h9) rfl dX3_copy_2 ?_
  refine va_put (D := (dC, dI)) (ci := 3) (v := .int (nI (n2))) (ty := .int) (C := RX3) (T := TX3) (N := 4) hx hb hts uX3 tyX3 tyX3_ok nmX3 hown hK hP hD hS 0 rfl rfl 2 (by decide) (hts _ kfX3_18) (fun _ h9 => h9) rfl (by decide +kernel) (rfl) (rfl) (Nat.le_of_ble_eq_true rfl) dX3_copy_5 (fun H locs hP hD hS => ?_)
  have hP : va_P (dC, dI) qCl [(h0, .inr (3, [.ref a1, .ref a2, .int (nI (n2)), .int (bI (jn))])), (a1, .inl (cI, 4, .inl (nF nm))), (a2, .inl (cI, 8, .inl (nF pl))), (o0, .inr (3, [.ref o1, .ref o2, .int (nI (n2)), .int (bI (jn2))])), (o1, .inl (cI, 4, .inl (nF nm2))), (o2, .inl (cI, 8, .inl (nF pl2)))] H := hP
  have hD : va_D A [(h0, .inr (3, [.ref a1, .ref a2, .int (nI (n2)), .int (bI (jn))])), (a1, .inl (cI, 4, .inl (nF nm))), (a2, .inl (cI, 8, .inl (nF pl))), (o0, .inr (3, [.ref o1, .ref o2, .int (nI (n2)), .int (bI (jn2))])), (o1, .inl (cI, 4, .inl (nF nm2))), (o2, .inl (cI, 8, .inl (nF pl2)))] := hD
  refine lv_aload_n hx hb dX3_copy_8 rfl (lv_at hl 0 rfl) ?_
  refine lv_aload_n hx hb dX3_copy_9 rfl (lv_at hl 1 rfl) ?_
  refine va_get (D := (dC, dI)) (ci := 3) (v := .int (bI (jn2))) (C := RX3) (T := TX3) (N := 4) hx hb hts uX3 hown hK hP 3 rfl rfl 3 (by decide) (hts _ kfX3_22) (fun _ h9 => h9) rfl dX3_copy_10 ?_
  refine va_put (D := (dC, dI)) (ci := 3) (v := .int (bI (jn2))) (ty := .boolean) (C := RX3) (T := TX3) (N := 4) hx hb hts uX3 tyX3 tyX3_ok nmX3 hown hK hP hD hS 0 rfl rfl 3 (by decide) (hts _ kfX3_22) (fun _ h9 => h9) rfl (by decide +kernel) (bI_nar _) ((by cases jn2 <;> rfl)) (Nat.le_of_ble_eq_true rfl) dX3_copy_13 (fun H locs hP hD hS => ?_)
  have hP : va_P (dC, dI) qCl [(h0, .inr (3, [.ref a1, .ref a2, .int (nI (n2)), .int (bI (jn2))])), (a1, .inl (cI, 4, .inl (nF nm))), (a2, .inl (cI, 8, .inl (nF pl))), (o0, .inr (3, [.ref o1, .ref o2, .int (nI (n2)), .int (bI (jn2))])), (o1, .inl (cI, 4, .inl (nF nm2))), (o2, .inl (cI, 8, .inl (nF pl2)))] H := hP
  have hD : va_D A [(h0, .inr (3, [.ref a1, .ref a2, .int (nI (n2)), .int (bI (jn2))])), (a1, .inl (cI, 4, .inl (nF nm))), (a2, .inl (cI, 8, .inl (nF pl))), (o0, .inr (3, [.ref o1, .ref o2, .int (nI (n2)), .int (bI (jn2))])), (o1, .inl (cI, 4, .inl (nF nm2))), (o2, .inl (cI, 8, .inl (nF pl2)))] := hD
  refine lv_aload_n hx hb dX3_copy_16 rfl (lv_at hl 1 rfl) ?_
  refine va_get (D := (dC, dI)) (ci := 3) (v := .ref o1) (C := RX3) (T := TX3) (N := 4) hx hb hts uX3 hown hK hP 3 rfl rfl 0 (by decide) (hts _ kfX3_11) (fun _ h9 => h9) rfl dX3_copy_17 ?_
  refine lv_iconst (v := (nI (0))) hx hb dX3_copy_20 (by decide) ?_
  refine lv_aload_n hx hb dX3_copy_21 rfl (lv_at hl 0 rfl) ?_
  refine va_get (D := (dC, dI)) (ci := 3) (v := .ref a1) (C := RX3) (T := TX3) (N := 4) hx hb hts uX3 hown hK hP 0 rfl rfl 0 (by decide) (hts _ kfX3_11) (fun _ h9 => h9) rfl dX3_copy_22 ?_
  refine lv_iconst (v := (nI (0))) hx hb dX3_copy_25 (by decide) ?_
  refine lv_iconst (v := (nI (4))) hx hb dX3_copy_26 (by decide) ?_
  refine q_copyN (n := 4) hx hb (hml.trans hl.1.symm) hown (hts _ kmX3_50) (hts _ k_acn) (hts _ k_acs) (hts _ k_aci) hK hP hD hS 4 1 0 0 rfl rfl rfl rfl (by decide) (by decide) (Nat.le_of_ble_eq_true rfl) (Nat.le_of_ble_eq_true rfl) dX3_copy_27 (fun H locs hP hD hS => ?_)
  have hP : va_P (dC, dI) qCl [(h0, .inr (3, [.ref a1, .ref a2, .int (nI (n2)), .int (bI (jn2))])), (a1, .inl (cI, 4, .inl (nF (va_cpy nm2 nm 0 0 4)))), (a2, .inl (cI, 8, .inl (nF pl))), (o0, .inr (3, [.ref o1, .ref o2, .int (nI (n2)), .int (bI (jn2))])), (o1, .inl (cI, 4, .inl (nF nm2))), (o2, .inl (cI, 8, .inl (nF pl2)))] H := hP
  have hD : va_D A [(h0, .inr (3, [.ref a1, .ref a2, .int (nI (n2)), .int (bI (jn2))])), (a1, .inl (cI, 4, .inl (nF (va_cpy nm2 nm 0 0 4)))), (a2, .inl (cI, 8, .inl (nF pl))), (o0, .inr (3, [.ref o1, .ref o2, .int (nI (n2)), .int (bI (jn2))])), (o1, .inl (cI, 4, .inl (nF nm2))), (o2, .inl (cI, 8, .inl (nF pl2)))] := hD
  refine lv_aload_n hx hb dX3_copy_30 rfl (lv_at hl 1 rfl) ?_
  refine va_get (D := (dC, dI)) (ci := 3) (v := .ref o2) (C := RX3) (T := TX3) (N := 4) hx hb hts uX3 hown hK hP 3 rfl rfl 1 (by decide) (hts _ kfX3_15) (fun _ h9 => h9) rfl dX3_copy_31 ?_
  refine lv_iconst (v := (nI (0))) hx hb dX3_copy_34 (by decide) ?_
  refine lv_aload_n hx hb dX3_copy_35 rfl (lv_at hl 0 rfl) ?_
  refine va_get (D := (dC, dI)) (ci := 3) (v := .ref a2) (C := RX3) (T := TX3) (N := 4) hx hb hts uX3 hown hK hP 0 rfl rfl 1 (by decide) (hts _ kfX3_15) (fun _ h9 => h9) rfl dX3_copy_36 ?_
  refine lv_iconst (v := (nI (0))) hx hb dX3_copy_39 (by decide) ?_
  refine lv_bipush (v := (nI (8))) hx hb dX3_copy_40 (by decide) ?_
  refine q_copyN (n := 8) hx hb (hml.trans hl.1.symm) hown (hts _ kmX3_50) (hts _ k_acn) (hts _ k_acs) (hts _ k_aci) hK hP hD hS 5 2 0 0 rfl rfl rfl rfl (by decide) (by decide) (Nat.le_of_ble_eq_true rfl) (Nat.le_of_ble_eq_true rfl) dX3_copy_42 (fun H locs hP hD hS => ?_)
  have hP : va_P (dC, dI) qCl [(h0, .inr (3, [.ref a1, .ref a2, .int (nI (n2)), .int (bI (jn2))])), (a1, .inl (cI, 4, .inl (nF (va_cpy nm2 nm 0 0 4)))), (a2, .inl (cI, 8, .inl (nF (va_cpy pl2 pl 0 0 8)))), (o0, .inr (3, [.ref o1, .ref o2, .int (nI (n2)), .int (bI (jn2))])), (o1, .inl (cI, 4, .inl (nF nm2))), (o2, .inl (cI, 8, .inl (nF pl2)))] H := hP
  have hD : va_D A [(h0, .inr (3, [.ref a1, .ref a2, .int (nI (n2)), .int (bI (jn2))])), (a1, .inl (cI, 4, .inl (nF (va_cpy nm2 nm 0 0 4)))), (a2, .inl (cI, 8, .inl (nF (va_cpy pl2 pl 0 0 8)))), (o0, .inr (3, [.ref o1, .ref o2, .int (nI (n2)), .int (bI (jn2))])), (o1, .inl (cI, 4, .inl (nF nm2))), (o2, .inl (cI, 8, .inl (nF pl2)))] := hD
  have hP := q_ext hP 1 rfl (f' := nF nm2) (fun j hj => congrArg nI (show (va_cpy nm2 nm 0 0 4) j = nm2 j from by (simp [va_cpy, hj])))
  have hD := q_Daddr (w' := [(h0, .inr (3, [.ref a1, .ref a2, .int (nI (n2)), .int (bI (jn2))])), (a1, .inl (cI, 4, .inl (nF nm2))), (a2, .inl (cI, 8, .inl (nF (va_cpy pl2 pl 0 0 8)))), (o0, .inr (3, [.ref o1, .ref o2, .int (nI (n2)), .int (bI (jn2))])), (o1, .inl (cI, 4, .inl (nF nm2))), (o2, .inl (cI, 8, .inl (nF pl2)))]) hD rfl
  have hP : va_P (dC, dI) qCl [(h0, .inr (3, [.ref a1, .ref a2, .int (nI (n2)), .int (bI (jn2))])), (a1, .inl (cI, 4, .inl (nF nm2))), (a2, .inl (cI, 8, .inl (nF (va_cpy pl2 pl 0 0 8)))), (o0, .inr (3, [.ref o1, .ref o2, .int (nI (n2)), .int (bI (jn2))])), (o1, .inl (cI, 4, .inl (nF nm2))), (o2, .inl (cI, 8, .inl (nF pl2)))] H := hP
  have hD : va_D A [(h0, .inr (3, [.ref a1, .ref a2, .int (nI (n2)), .int (bI (jn2))])), (a1, .inl (cI, 4, .inl (nF nm2))), (a2, .inl (cI, 8, .inl (nF (va_cpy pl2 pl 0 0 8)))), (o0, .inr (3, [.ref o1, .ref o2, .int (nI (n2)), .int (bI (jn2))])), (o1, .inl (cI, 4, .inl (nF nm2))), (o2, .inl (cI, 8, .inl (nF pl2)))] := hD
  have hP := q_ext hP 2 rfl (f' := nF pl2) (fun j hj => congrArg nI (show (va_cpy pl2 pl 0 0 8) j = pl2 j from by (simp [va_cpy, hj])))
  have hD := q_Daddr (w' := [(h0, .inr (3, [.ref a1, .ref a2, .int (nI (n2)), .int (bI (jn2))])), (a1, .inl (cI, 4, .inl (nF nm2))), (a2, .inl (cI, 8, .inl (nF pl2))), (o0, .inr (3, [.ref o1, .ref o2, .int (nI (n2)), .int (bI (jn2))])), (o1, .inl (cI, 4, .inl (nF nm2))), (o2, .inl (cI, 8, .inl (nF pl2)))]) hD rfl
  have hP : va_P (dC, dI) qCl [(h0, .inr (3, [.ref a1, .ref a2, .int (nI (n2)), .int (bI (jn2))])), (a1, .inl (cI, 4, .inl (nF nm2))), (a2, .inl (cI, 8, .inl (nF pl2))), (o0, .inr (3, [.ref o1, .ref o2, .int (nI (n2)), .int (bI (jn2))])), (o1, .inl (cI, 4, .inl (nF nm2))), (o2, .inl (cI, 8, .inl (nF pl2)))] H := hP
  have hD : va_D A [(h0, .inr (3, [.ref a1, .ref a2, .int (nI (n2)), .int (bI (jn2))])), (a1, .inl (cI, 4, .inl (nF nm2))), (a2, .inl (cI, 8, .inl (nF pl2))), (o0, .inr (3, [.ref o1, .ref o2, .int (nI (n2)), .int (bI (jn2))])), (o1, .inl (cI, 4, .inl (nF nm2))), (o2, .inl (cI, 8, .inl (nF pl2)))] := hD
  subst hQ
  subst hAe
  have hP9 := hP.sub (ws' := [(h0, .inr (3, [.ref a1, .ref a2, .int (nI (n2)), .int (bI (jn2))])), (a1, .inl (cI, 4, .inl (nF nm2))), (a2, .inl (cI, 8, .inl (nF pl2))), (o0, .inr (3, [.ref o1, .ref o2, .int (nI (n2)), .int (bI (jn2))])), (o1, .inl (cI, 4, .inl (nF nm2))), (o2, .inl (cI, 8, .inl (nF pl2)))]) [0, 1, 2, 3, 4, 5] rfl
  exact W.vret hx hb hr (fun t9 h9 _ => ⟨⟨(), rfl, trivial, by show va_P _ _ _ t9.heap; rw [h9]; exact hP9⟩, hS.F h9⟩) hS.2.2 dX3_copy_45
