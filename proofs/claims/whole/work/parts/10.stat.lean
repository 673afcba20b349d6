abbrev cX7_isBelow : ByteArray := prog_1_method_15_code
def yX7_isBelow : MethodName := ⟨RX7, "isBelow", "(II)Z"⟩
def wkX7_isBelow : List Cond := .code yX7_isBelow cX7_isBelow 2 (some .boolean) :: qW
set_option maxRecDepth 40000 in
theorem gkX7_isBelow : GoodIn qW wkX7_isBelow := q_good (qw 297 rfl rfl)
set_option maxRecDepth 40000 in
theorem ksX7_isBelow : Cond.static yX7_isBelow ∈ qW := qw 296 rfl rfl
theorem dX7_isBelow_0 : decode cX7_isBelow 0 = .ok (.iload_n 0, 1) := by decide +kernel
theorem dX7_isBelow_1 : decode cX7_isBelow 1 = .ok (.ifCond .lt 12, 3) := by decide +kernel
theorem dX7_isBelow_4 : decode cX7_isBelow 4 = .ok (.iload_n 0, 1) := by decide +kernel
theorem dX7_isBelow_5 : decode cX7_isBelow 5 = .ok (.iload_n 1, 1) := by decide +kernel
theorem dX7_isBelow_6 : decode cX7_isBelow 6 = .ok (.if_icmp .ge 7, 3) := by decide +kernel
theorem dX7_isBelow_9 : decode cX7_isBelow 9 = .ok (.iconst 1, 1) := by decide +kernel
theorem dX7_isBelow_10 : decode cX7_isBelow 10 = .ok (.goto 4, 3) := by decide +kernel
theorem dX7_isBelow_13 : decode cX7_isBelow 13 = .ok (.iconst 0, 1) := by decide +kernel
theorem dX7_isBelow_14 : decode cX7_isBelow 14 = .ok (.ireturn, 1) := by decide +kernel
abbrev cX7_isSort : ByteArray := prog_1_method_16_code
def yX7_isSort : MethodName := ⟨RX7, "isSort", "(I)Z"⟩
def wkX7_isSort : List Cond := .code yX7_isSort cX7_isSort 1 (some .boolean) :: qW
set_option maxRecDepth 40000 in
theorem gkX7_isSort : GoodIn qW wkX7_isSort := q_good (qw 294 rfl rfl)
set_option maxRecDepth 40000 in
theorem ksX7_isSort : Cond.static yX7_isSort ∈ qW := qw 293 rfl rfl
theorem dX7_isSort_0 : decode cX7_isSort 0 = .ok (.iload_n 0, 1) := by decide +kernel
theorem dX7_isSort_1 : decode cX7_isSort 1 = .ok (.bipush 10, 2) := by decide +kernel
theorem dX7_isSort_3 : decode cX7_isSort 3 = .ok (.invokestatic 92, 3) := by decide +kernel
theorem dX7_isSort_6 : decode cX7_isSort 6 = .ok (.ifCond .ne 15, 3) := by decide +kernel
theorem dX7_isSort_9 : decode cX7_isSort 9 = .ok (.iload_n 0, 1) := by decide +kernel
theorem dX7_isSort_10 : decode cX7_isSort 10 = .ok (.bipush 20, 2) := by decide +kernel
theorem dX7_isSort_12 : decode cX7_isSort 12 = .ok (.if_icmp .lt 13, 3) := by decide +kernel
theorem dX7_isSort_15 : decode cX7_isSort 15 = .ok (.iload_n 0, 1) := by decide +kernel
theorem dX7_isSort_16 : decode cX7_isSort 16 = .ok (.bipush 36, 2) := by decide +kernel
theorem dX7_isSort_18 : decode cX7_isSort 18 = .ok (.if_icmp .ge 7, 3) := by decide +kernel
theorem dX7_isSort_21 : decode cX7_isSort 21 = .ok (.iconst 1, 1) := by decide +kernel
theorem dX7_isSort_22 : decode cX7_isSort 22 = .ok (.goto 4, 3) := by decide +kernel
theorem dX7_isSort_25 : decode cX7_isSort 25 = .ok (.iconst 0, 1) := by decide +kernel
theorem dX7_isSort_26 : decode cX7_isSort 26 = .ok (.ireturn, 1) := by decide +kernel
abbrev cX7_isAxiom : ByteArray := prog_1_method_17_code
def yX7_isAxiom : MethodName := ⟨RX7, "isAxiom", "(III)Z"⟩
def wkX7_isAxiom : List Cond := .code yX7_isAxiom cX7_isAxiom 3 (some .boolean) :: qW
set_option maxRecDepth 40000 in
theorem gkX7_isAxiom : GoodIn qW wkX7_isAxiom := q_good (qw 291 rfl rfl)
set_option maxRecDepth 40000 in
theorem ksX7_isAxiom : Cond.static yX7_isAxiom ∈ qW := qw 290 rfl rfl
theorem dX7_isAxiom_0 : decode cX7_isAxiom 0 = .ok (.iload_n 0, 1) := by decide +kernel
theorem dX7_isAxiom_1 : decode cX7_isAxiom 1 = .ok (.ifCond .eq 8, 3) := by decide +kernel
theorem dX7_isAxiom_4 : decode cX7_isAxiom 4 = .ok (.iload_n 0, 1) := by decide +kernel
theorem dX7_isAxiom_5 : decode cX7_isAxiom 5 = .ok (.iconst 2, 1) := by decide +kernel
theorem dX7_isAxiom_6 : decode cX7_isAxiom 6 = .ok (.if_icmp .ne 23, 3) := by decide +kernel
theorem dX7_isAxiom_9 : decode cX7_isAxiom 9 = .ok (.iload_n 1, 1) := by decide +kernel
theorem dX7_isAxiom_10 : decode cX7_isAxiom 10 = .ok (.invokestatic 158, 3) := by decide +kernel
theorem dX7_isAxiom_13 : decode cX7_isAxiom 13 = .ok (.ifCond .eq 14, 3) := by decide +kernel
theorem dX7_isAxiom_16 : decode cX7_isAxiom 16 = .ok (.iload_n 2, 1) := by decide +kernel
theorem dX7_isAxiom_17 : decode cX7_isAxiom 17 = .ok (.invokestatic 158, 3) := by decide +kernel
theorem dX7_isAxiom_20 : decode cX7_isAxiom 20 = .ok (.ifCond .eq 7, 3) := by decide +kernel
theorem dX7_isAxiom_23 : decode cX7_isAxiom 23 = .ok (.iconst 1, 1) := by decide +kernel
theorem dX7_isAxiom_24 : decode cX7_isAxiom 24 = .ok (.goto 4, 3) := by decide +kernel
theorem dX7_isAxiom_27 : decode cX7_isAxiom 27 = .ok (.iconst 0, 1) := by decide +kernel
theorem dX7_isAxiom_28 : decode cX7_isAxiom 28 = .ok (.ireturn, 1) := by decide +kernel
theorem dX7_isAxiom_29 : decode cX7_isAxiom 29 = .ok (.iload_n 0, 1) := by decide +kernel
theorem dX7_isAxiom_30 : decode cX7_isAxiom 30 = .ok (.iconst 1, 1) := by decide +kernel
theorem dX7_isAxiom_31 : decode cX7_isAxiom 31 = .ok (.if_icmp .eq 8, 3) := by decide +kernel
theorem dX7_isAxiom_34 : decode cX7_isAxiom 34 = .ok (.iload_n 0, 1) := by decide +kernel
theorem dX7_isAxiom_35 : decode cX7_isAxiom 35 = .ok (.iconst 3, 1) := by decide +kernel
theorem dX7_isAxiom_36 : decode cX7_isAxiom 36 = .ok (.if_icmp .ne 27, 3) := by decide +kernel
theorem dX7_isAxiom_39 : decode cX7_isAxiom 39 = .ok (.iload_n 1, 1) := by decide +kernel
theorem dX7_isAxiom_40 : decode cX7_isAxiom 40 = .ok (.bipush 16, 2) := by decide +kernel
theorem dX7_isAxiom_42 : decode cX7_isAxiom 42 = .ok (.invokestatic 92, 3) := by decide +kernel
theorem dX7_isAxiom_45 : decode cX7_isAxiom 45 = .ok (.ifCond .eq 16, 3) := by decide +kernel
theorem dX7_isAxiom_48 : decode cX7_isAxiom 48 = .ok (.iload_n 2, 1) := by decide +kernel
theorem dX7_isAxiom_49 : decode cX7_isAxiom 49 = .ok (.bipush 16, 2) := by decide +kernel
theorem dX7_isAxiom_51 : decode cX7_isAxiom 51 = .ok (.invokestatic 92, 3) := by decide +kernel
theorem dX7_isAxiom_54 : decode cX7_isAxiom 54 = .ok (.ifCond .eq 7, 3) := by decide +kernel
theorem dX7_isAxiom_57 : decode cX7_isAxiom 57 = .ok (.iconst 1, 1) := by decide +kernel
theorem dX7_isAxiom_58 : decode cX7_isAxiom 58 = .ok (.goto 4, 3) := by decide +kernel
theorem dX7_isAxiom_61 : decode cX7_isAxiom 61 = .ok (.iconst 0, 1) := by decide +kernel
theorem dX7_isAxiom_62 : decode cX7_isAxiom 62 = .ok (.ireturn, 1) := by decide +kernel
theorem dX7_isAxiom_63 : decode cX7_isAxiom 63 = .ok (.iconst 0, 1) := by decide +kernel
theorem dX7_isAxiom_64 : decode cX7_isAxiom 64 = .ok (.ireturn, 1) := by decide +kernel
abbrev cX7_isName : ByteArray := prog_1_method_18_code
def yX7_isName : MethodName := ⟨RX7, "isName", "(ZI)Z"⟩
def wkX7_isName : List Cond := .code yX7_isName cX7_isName 2 (some .boolean) :: qW
set_option maxRecDepth 40000 in
theorem gkX7_isName : GoodIn qW wkX7_isName := q_good (qw 315 rfl rfl)
set_option maxRecDepth 40000 in
theorem ksX7_isName : Cond.static yX7_isName ∈ qW := qw 314 rfl rfl
theorem dX7_isName_0 : decode cX7_isName 0 = .ok (.iload_n 1, 1) := by decide +kernel
theorem dX7_isName_1 : decode cX7_isName 1 = .ok (.iload_n 0, 1) := by decide +kernel
theorem dX7_isName_2 : decode cX7_isName 2 = .ok (.ifCond .eq 8, 3) := by decide +kernel
theorem dX7_isName_5 : decode cX7_isName 5 = .ok (.bipush 8, 2) := by decide +kernel
theorem dX7_isName_7 : decode cX7_isName 7 = .ok (.goto 5, 3) := by decide +kernel
theorem dX7_isName_10 : decode cX7_isName 10 = .ok (.bipush 10, 2) := by decide +kernel
theorem dX7_isName_12 : decode cX7_isName 12 = .ok (.invokestatic 92, 3) := by decide +kernel
theorem dX7_isName_15 : decode cX7_isName 15 = .ok (.ireturn, 1) := by decide +kernel
abbrev cX7_isFact : ByteArray := prog_1_method_19_code
def yX7_isFact : MethodName := ⟨RX7, "isFact", "(ZIII)Z"⟩
def wkX7_isFact : List Cond := .code yX7_isFact cX7_isFact 4 (some .boolean) :: qW
set_option maxRecDepth 40000 in
theorem gkX7_isFact : GoodIn qW wkX7_isFact := q_good (qw 312 rfl rfl)
set_option maxRecDepth 40000 in
theorem ksX7_isFact : Cond.static yX7_isFact ∈ qW := qw 311 rfl rfl
theorem dX7_isFact_0 : decode cX7_isFact 0 = .ok (.iload_n 0, 1) := by decide +kernel
theorem dX7_isFact_1 : decode cX7_isFact 1 = .ok (.iload_n 1, 1) := by decide +kernel
theorem dX7_isFact_2 : decode cX7_isFact 2 = .ok (.invokestatic 100, 3) := by decide +kernel
theorem dX7_isFact_5 : decode cX7_isFact 5 = .ok (.ifCond .eq 29, 3) := by decide +kernel
theorem dX7_isFact_8 : decode cX7_isFact 8 = .ok (.iload_n 2, 1) := by decide +kernel
theorem dX7_isFact_9 : decode cX7_isFact 9 = .ok (.bipush 12, 2) := by decide +kernel
theorem dX7_isFact_11 : decode cX7_isFact 11 = .ok (.invokestatic 92, 3) := by decide +kernel
theorem dX7_isFact_14 : decode cX7_isFact 14 = .ok (.ifCond .eq 20, 3) := by decide +kernel
theorem dX7_isFact_17 : decode cX7_isFact 17 = .ok (.iload_n 0, 1) := by decide +kernel
theorem dX7_isFact_18 : decode cX7_isFact 18 = .ok (.ifCond .eq 12, 3) := by decide +kernel
theorem dX7_isFact_21 : decode cX7_isFact 21 = .ok (.iload_n 3, 1) := by decide +kernel
theorem dX7_isFact_22 : decode cX7_isFact 22 = .ok (.bipush 12, 2) := by decide +kernel
theorem dX7_isFact_24 : decode cX7_isFact 24 = .ok (.invokestatic 92, 3) := by decide +kernel
theorem dX7_isFact_27 : decode cX7_isFact 27 = .ok (.ifCond .eq 7, 3) := by decide +kernel
theorem dX7_isFact_30 : decode cX7_isFact 30 = .ok (.iconst 1, 1) := by decide +kernel
theorem dX7_isFact_31 : decode cX7_isFact 31 = .ok (.goto 4, 3) := by decide +kernel
theorem dX7_isFact_34 : decode cX7_isFact 34 = .ok (.iconst 0, 1) := by decide +kernel
theorem dX7_isFact_35 : decode cX7_isFact 35 = .ok (.ireturn, 1) := by decide +kernel
set_option maxRecDepth 40000 in
theorem kmX7_92 : Cond.methodLink RX7 92 yX7_isBelow ∈ qW := qw 295 rfl rfl
set_option maxRecDepth 40000 in
theorem kmX7_158 : Cond.methodLink RX7 158 yX7_isSort ∈ qW := qw 292 rfl rfl
set_option maxRecDepth 40000 in
theorem kmX7_100 : Cond.methodLink RX7 100 yX7_isName ∈ qW := qw 313 rfl rfl
abbrev rm_c__isBelow : Room := { frames := 0, cells := 0, slots := 0, locals := 0 }
set_option maxHeartbeats 4000000 in
set_option maxRecDepth 100000 in
theorem c__isBelow (l : Launch) (dC : Nat → ClassId) (dI : Nat → Nat → Nat) (cI cL cQ cZ : ClassId) (x : Int32) (n : Nat)  : Met l yX7_isBelow wkX7_isBelow rm_c__isBelow (q_R (dC, dI) qCl (qT cI cL cQ cZ) [] [.int (x), .int (nI (n))]) (vp_Si (fun r => r = (bI (p_below x n)))) 0 0 (fun _ => False) := by
  refine Met.ofW (cc := cX7_isBelow) (maxL := 2) (ret := (some .boolean)) (by decide) rfl ?_
  intro p e s m args below meth c s₁ B hml hv
  obtain ⟨hargs, hP, hK⟩ := hv
  have hx := B.exec
  have hb := B.bytes
  have hr := B.returns
  have hts : ∀ w ∈ qW, w.before args s = true := fun w h => atoms_spec (ws := wkX7_isBelow) B.pre w (List.mem_cons_of_mem _ h)
  have hown : s.vm.findClass RX7 = some m.cls := findClass_of_methodNamed B.named
  have hlocks := B.notSynchronized
  refine q_named (fun Q hQ => ?_)
  refine q_entry hargs (Nat.le_of_ble_eq_true rfl) (fun ls hl => ?_)
  have hl : lv_has ls 2 [(0, .int (x)), (1, .int (nI (n)))] := hl
  refine lv_iload_n hx hb dX7_isBelow_0 rfl (lv_at hl 0 rfl) ?_
  refine lv_if_lt (tgt := 13) hx hb dX7_isBelow_1 (by decide) (fun c1_1 => ?_) (fun c1_1 => ?_)
  · refine lv_iconst (v := (nI (0))) hx hb dX7_isBelow_13 (by decide) ?_
    subst hQ
    exact W.zret (v := (nI (0))) hx hb hr (by decide) (fun t9 h9 _ => ⟨_, rfl, bI_0 (show p_below x n = false from by (simp [p_below, *])), h9⟩) (fun q hq => by cases hq) dX7_isBelow_14
  · refine lv_iload_n hx hb dX7_isBelow_4 rfl (lv_at hl 0 rfl) ?_
    refine lv_iload_n hx hb dX7_isBelow_5 rfl (lv_at hl 1 rfl) ?_
    refine lv_icmp_ge (tgt := 13) hx hb dX7_isBelow_6 (by decide) (fun c6_2 => ?_) (fun c6_2 => ?_)
    · refine lv_iconst (v := (nI (0))) hx hb dX7_isBelow_13 (by decide) ?_
      subst hQ
      exact W.zret (v := (nI (0))) hx hb hr (by decide) (fun t9 h9 _ => ⟨_, rfl, bI_0 (show p_below x n = false from by (simp [p_below, *])), h9⟩) (fun q hq => by cases hq) dX7_isBelow_14
    · refine lv_iconst (v := (nI (1))) hx hb dX7_isBelow_9 (by decide) ?_
      refine lv_goto (tgt := 14) hx hb dX7_isBelow_10 (by decide) ?_
      subst hQ
      exact W.zret (v := (nI (1))) hx hb hr (by decide) (fun t9 h9 _ => ⟨_, rfl, bI_1 (show p_below x n = true from by (simp [p_below, *])), h9⟩) (fun q hq => by cases hq) dX7_isBelow_14
abbrev rm_c__isSort : Room := { frames := 1, cells := 0, slots := 0, locals := 21 }
set_option maxHeartbeats 4000000 in
set_option maxRecDepth 100000 in
theorem c__isSort (l : Launch) (dC : Nat → ClassId) (dI : Nat → Nat → Nat) (cI cL cQ cZ : ClassId) (x : Int32)  : Met l yX7_isSort wkX7_isSort rm_c__isSort (q_R (dC, dI) qCl (qT cI cL cQ cZ) [] [.int (x)]) (vp_Si (fun r => r = (bI (p_sort x)))) 0 0 (fun _ => False) := by
  refine Met.ofW (cc := cX7_isSort) (maxL := 1) (ret := (some .boolean)) (by decide) rfl ?_
  intro p e s m args below meth c s₁ B hml hv
  obtain ⟨hargs, hP, hK⟩ := hv
  have hx := B.exec
  have hb := B.bytes
  have hr := B.returns
  have hts : ∀ w ∈ qW, w.before args s = true := fun w h => atoms_spec (ws := wkX7_isSort) B.pre w (List.mem_cons_of_mem _ h)
  have hown : s.vm.findClass RX7 = some m.cls := findClass_of_methodNamed B.named
  have hlocks := B.notSynchronized
  refine q_named (fun Q hQ => ?_)
  refine q_entry hargs (Nat.le_of_ble_eq_true rfl) (fun ls hl => ?_)
  have hl : lv_has ls 1 [(0, .int (x))] := hl
  refine lv_iload_n hx hb dX7_isSort_0 rfl (lv_at hl 0 rfl) ?_
  refine lv_bipush (v := (nI (10))) hx hb dX7_isSort_1 (by decide) ?_
  refine vp_callSi (va_Run.run (va_runS (As := [.int (x), .int (nI (10))]) (rest := []) ⟨hx, hb, hml, hown, hts⟩ (c__isBelow l dC dI cI cL cQ cZ x 10 ) (q_cwS 2 hts gkX7_isBelow kmX7_92 ksX7_isBelow kiX7 rfl rfl rfl (by decide +kernel) ⟨Nat.le_of_ble_eq_true rfl, Nat.le_of_ble_eq_true rfl⟩) (q_preS hK hP [] rfl) rfl rfl hl.1 rfl (lv_room (Nat.le_of_ble_eq_true rfl)) dX7_isSort_3 ⟨Nat.zero_le _, Nat.zero_le _⟩)) (fun r1 hr1 => ?_)
  subst hr1
  refine q_ifb_ne (b := p_below x 10) (tgt := 21) hx hb dX7_isSort_6 (by decide) (fun c6_2 => ?_) (fun c6_2 => ?_)
  · refine lv_iconst (v := (nI (1))) hx hb dX7_isSort_21 (by decide) ?_
    refine lv_goto (tgt := 26) hx hb dX7_isSort_22 (by decide) ?_
    subst hQ
    exact W.zret (v := (nI (1))) hx hb hr (by decide) (fun t9 h9 _ => ⟨_, rfl, bI_1 (show p_sort x = true from by (simp [p_sort, *])), h9⟩) (fun q hq => by cases hq) dX7_isSort_26
  · refine lv_iload_n hx hb dX7_isSort_9 rfl (lv_at hl 0 rfl) ?_
    refine lv_bipush (v := (nI (20))) hx hb dX7_isSort_10 (by decide) ?_
    refine lv_icmp_lt (tgt := 25) hx hb dX7_isSort_12 (by decide) (fun c12_3 => ?_) (fun c12_3 => ?_)
    · refine lv_iconst (v := (nI (0))) hx hb dX7_isSort_25 (by decide) ?_
      subst hQ
      exact W.zret (v := (nI (0))) hx hb hr (by decide) (fun t9 h9 _ => ⟨_, rfl, bI_0 (show p_sort x = false from by (simp [p_sort, *])), h9⟩) (fun q hq => by cases hq) dX7_isSort_26
    · refine lv_iload_n hx hb dX7_isSort_15 rfl (lv_at hl 0 rfl) ?_
      refine lv_bipush (v := (nI (36))) hx hb dX7_isSort_16 (by decide) ?_
      refine lv_icmp_ge (tgt := 25) hx hb dX7_isSort_18 (by decide) (fun c18_4 => ?_) (fun c18_4 => ?_)
      · refine lv_iconst (v := (nI (0))) hx hb dX7_isSort_25 (by decide) ?_
        subst hQ
        exact W.zret (v := (nI (0))) hx hb hr (by decide) (fun t9 h9 _ => ⟨_, rfl, bI_0 (show p_sort x = false from by (simp [p_sort, *])), h9⟩) (fun q hq => by cases hq) dX7_isSort_26
      · refine lv_iconst (v := (nI (1))) hx hb dX7_isSort_21 (by decide) ?_
        refine lv_goto (tgt := 26) hx hb dX7_isSort_22 (by decide) ?_
        subst hQ
        exact W.zret (v := (nI (1))) hx hb hr (by decide) (fun t9 h9 _ => ⟨_, rfl, bI_1 (show p_sort x = true from by (simp [p_sort, *])), h9⟩) (fun q hq => by cases hq) dX7_isSort_26
abbrev rm_c__isAxiom : Room := { frames := 2, cells := 0, slots := 0, locals := 41 }
set_option maxHeartbeats 4000000 in
set_option maxRecDepth 100000 in
theorem c__isAxiom (l : Launch) (dC : Nat → ClassId) (dI : Nat → Nat → Nat) (cI cL cQ cZ : ClassId) (k : Int32) (a : Int32) (b : Int32)  : Met l yX7_isAxiom wkX7_isAxiom rm_c__isAxiom (q_R (dC, dI) qCl (qT cI cL cQ cZ) [] [.int (k), .int (a), .int (b)]) (vp_Si (fun r => r = (bI (p_axiom k a b)))) 0 0 (fun _ => False) := by
  refine Met.ofW (cc := cX7_isAxiom) (maxL := 3) (ret := (some .boolean)) (by decide) rfl ?_
  intro p e s m args below meth c s₁ B hml hv
  obtain ⟨hargs, hP, hK⟩ := hv
  have hx := B.exec
  have hb := B.bytes
  have hr := B.returns
  have hts : ∀ w ∈ qW, w.before args s = true := fun w h => atoms_spec (ws := wkX7_isAxiom) B.pre w (List.mem_cons_of_mem _ h)
  have hown : s.vm.findClass RX7 = some m.cls := findClass_of_methodNamed B.named
  have hlocks := B.notSynchronized
  refine q_named (fun Q hQ => ?_)
  refine q_entry hargs (Nat.le_of_ble_eq_true rfl) (fun ls hl => ?_)
  have hl : lv_has ls 3 [(0, .int (k)), (1, .int (a)), (2, .int (b))] := hl
  refine lv_iload_n hx hb dX7_isAxiom_0 rfl (lv_at hl 0 rfl) ?_
  refine lv_if_eq (tgt := 9) hx hb dX7_isAxiom_1 (by decide) (fun c1_1 => ?_) (fun c1_1 => ?_)
  · refine lv_iload_n hx hb dX7_isAxiom_9 rfl (lv_at hl 1 rfl) ?_
    refine vp_callSi (va_Run.run (va_runS (As := [.int (a)]) (rest := []) ⟨hx, hb, hml, hown, hts⟩ (c__isSort l dC dI cI cL cQ cZ a ) (q_cwS 1 hts gkX7_isSort kmX7_158 ksX7_isSort kiX7 rfl rfl rfl (by decide +kernel) ⟨Nat.le_of_ble_eq_true rfl, Nat.le_of_ble_eq_true rfl⟩) (q_preS hK hP [] rfl) rfl rfl hl.1 rfl (lv_room (Nat.le_of_ble_eq_true rfl)) dX7_isAxiom_10 ⟨Nat.zero_le _, Nat.zero_le _⟩)) (fun r2 hr2 => ?_)
    subst hr2
    refine q_ifb_eq (b := p_sort a) (tgt := 27) hx hb dX7_isAxiom_13 (by decide) (fun c13_3 => ?_) (fun c13_3 => ?_)
    · refine lv_iconst (v := (nI (0))) hx hb dX7_isAxiom_27 (by decide) ?_
      subst hQ
      exact W.zret (v := (nI (0))) hx hb hr (by decide) (fun t9 h9 _ => ⟨_, rfl, bI_0 (show p_axiom k a b = false from by (unfold p_axiom; split <;> (try split) <;> simp_all)), h9⟩) (fun q hq => by cases hq) dX7_isAxiom_28
    · refine lv_iload_n hx hb dX7_isAxiom_16 rfl (lv_at hl 2 rfl) ?_
      refine vp_callSi (va_Run.run (va_runS (As := [.int (b)]) (rest := []) ⟨hx, hb, hml, hown, hts⟩ (c__isSort l dC dI cI cL cQ cZ b ) (q_cwS 1 hts gkX7_isSort kmX7_158 ksX7_isSort kiX7 rfl rfl rfl (by decide +kernel) ⟨Nat.le_of_ble_eq_true rfl, Nat.le_of_ble_eq_true rfl⟩) (q_preS hK hP [] rfl) rfl rfl hl.1 rfl (lv_room (Nat.le_of_ble_eq_true rfl)) dX7_isAxiom_17 ⟨Nat.zero_le _, Nat.zero_le _⟩)) (fun r4 hr4 => ?_)
      subst hr4
      refine q_ifb_eq (b := p_sort b) (tgt := 27) hx hb dX7_isAxiom_20 (by decide) (fun c20_5 => ?_) (fun c20_5 => ?_)
      · refine lv_iconst (v := (nI (0))) hx hb dX7_isAxiom_27 (by decide) ?_
        subst hQ
        exact W.zret (v := (nI (0))) hx hb hr (by decide) (fun t9 h9 _ => ⟨_, rfl, bI_0 (show p_axiom k a b = false from by (unfold p_axiom; split <;> (try split) <;> simp_all)), h9⟩) (fun q hq => by cases hq) dX7_isAxiom_28
      · refine lv_iconst (v := (nI (1))) hx hb dX7_isAxiom_23 (by decide) ?_
        refine lv_goto (tgt := 28) hx hb dX7_isAxiom_24 (by decide) ?_
        subst hQ
        exact W.zret (v := (nI (1))) hx hb hr (by decide) (fun t9 h9 _ => ⟨_, rfl, bI_1 (show p_axiom k a b = true from by (unfold p_axiom; split <;> (try split) <;> simp_all)), h9⟩) (fun q hq => by cases hq) dX7_isAxiom_28
  · refine lv_iload_n hx hb dX7_isAxiom_4 rfl (lv_at hl 0 rfl) ?_
    refine lv_iconst (v := (nI (2))) hx hb dX7_isAxiom_5 (by decide) ?_
    refine lv_icmp_ne (tgt := 29) hx hb dX7_isAxiom_6 (by decide) (fun c6_6 => ?_) (fun c6_6 => ?_)
    · refine lv_iload_n hx hb dX7_isAxiom_29 rfl (lv_at hl 0 rfl) ?_
      refine lv_iconst (v := (nI (1))) hx hb dX7_isAxiom_30 (by decide) ?_
      refine lv_icmp_eq (tgt := 39) hx hb dX7_isAxiom_31 (by decide) (fun c31_7 => ?_) (fun c31_7 => ?_)
      · refine lv_iload_n hx hb dX7_isAxiom_39 rfl (lv_at hl 1 rfl) ?_
        refine lv_bipush (v := (nI (16))) hx hb dX7_isAxiom_40 (by decide) ?_
        refine vp_callSi (va_Run.run (va_runS (As := [.int (a), .int (nI (16))]) (rest := []) ⟨hx, hb, hml, hown, hts⟩ (c__isBelow l dC dI cI cL cQ cZ a 16 ) (q_cwS 2 hts gkX7_isBelow kmX7_92 ksX7_isBelow kiX7 rfl rfl rfl (by decide +kernel) ⟨Nat.le_of_ble_eq_true rfl, Nat.le_of_ble_eq_true rfl⟩) (q_preS hK hP [] rfl) rfl rfl hl.1 rfl (lv_room (Nat.le_of_ble_eq_true rfl)) dX7_isAxiom_42 ⟨Nat.zero_le _, Nat.zero_le _⟩)) (fun r8 hr8 => ?_)
        subst hr8
        refine q_ifb_eq (b := p_below a 16) (tgt := 61) hx hb dX7_isAxiom_45 (by decide) (fun c45_9 => ?_) (fun c45_9 => ?_)
        · refine lv_iconst (v := (nI (0))) hx hb dX7_isAxiom_61 (by decide) ?_
          subst hQ
          exact W.zret (v := (nI (0))) hx hb hr (by decide) (fun t9 h9 _ => ⟨_, rfl, bI_0 (show p_axiom k a b = false from by (unfold p_axiom; split <;> (try split) <;> simp_all)), h9⟩) (fun q hq => by cases hq) dX7_isAxiom_62
        · refine lv_iload_n hx hb dX7_isAxiom_48 rfl (lv_at hl 2 rfl) ?_
          refine lv_bipush (v := (nI (16))) hx hb dX7_isAxiom_49 (by decide) ?_
          refine vp_callSi (va_Run.run (va_runS (As := [.int (b), .int (nI (16))]) (rest := []) ⟨hx, hb, hml, hown, hts⟩ (c__isBelow l dC dI cI cL cQ cZ b 16 ) (q_cwS 2 hts gkX7_isBelow kmX7_92 ksX7_isBelow kiX7 rfl rfl rfl (by decide +kernel) ⟨Nat.le_of_ble_eq_true rfl, Nat.le_of_ble_eq_true rfl⟩) (q_preS hK hP [] rfl) rfl rfl hl.1 rfl (lv_room (Nat.le_of_ble_eq_true rfl)) dX7_isAxiom_51 ⟨Nat.zero_le _, Nat.zero_le _⟩)) (fun r10 hr10 => ?_)
          subst hr10
          refine q_ifb_eq (b := p_below b 16) (tgt := 61) hx hb dX7_isAxiom_54 (by decide) (fun c54_11 => ?_) (fun c54_11 => ?_)
          · refine lv_iconst (v := (nI (0))) hx hb dX7_isAxiom_61 (by decide) ?_
            subst hQ
            exact W.zret (v := (nI (0))) hx hb hr (by decide) (fun t9 h9 _ => ⟨_, rfl, bI_0 (show p_axiom k a b = false from by (unfold p_axiom; split <;> (try split) <;> simp_all)), h9⟩) (fun q hq => by cases hq) dX7_isAxiom_62
          · refine lv_iconst (v := (nI (1))) hx hb dX7_isAxiom_57 (by decide) ?_
            refine lv_goto (tgt := 62) hx hb dX7_isAxiom_58 (by decide) ?_
            subst hQ
            exact W.zret (v := (nI (1))) hx hb hr (by decide) (fun t9 h9 _ => ⟨_, rfl, bI_1 (show p_axiom k a b = true from by (unfold p_axiom; split <;> (try split) <;> simp_all)), h9⟩) (fun q hq => by cases hq) dX7_isAxiom_62
      · refine lv_iload_n hx hb dX7_isAxiom_34 rfl (lv_at hl 0 rfl) ?_
        refine lv_iconst (v := (nI (3))) hx hb dX7_isAxiom_35 (by decide) ?_
        refine lv_icmp_ne (tgt := 63) hx hb dX7_isAxiom_36 (by decide) (fun c36_12 => ?_) (fun c36_12 => ?_)
        · refine lv_iconst (v := (nI (0))) hx hb dX7_isAxiom_63 (by decide) ?_
          subst hQ
          exact W.zret (v := (nI (0))) hx hb hr (by decide) (fun t9 h9 _ => ⟨_, rfl, bI_0 (show p_axiom k a b = false from by (unfold p_axiom; split <;> (try split) <;> simp_all)), h9⟩) (fun q hq => by cases hq) dX7_isAxiom_64
        · refine lv_iload_n hx hb dX7_isAxiom_39 rfl (lv_at hl 1 rfl) ?_
          refine lv_bipush (v := (nI (16))) hx hb dX7_isAxiom_40 (by decide) ?_
          refine vp_callSi (va_Run.run (va_runS (As := [.int (a), .int (nI (16))]) (rest := []) ⟨hx, hb, hml, hown, hts⟩ (c__isBelow l dC dI cI cL cQ cZ a 16 ) (q_cwS 2 hts gkX7_isBelow kmX7_92 ksX7_isBelow kiX7 rfl rfl rfl (by decide +kernel) ⟨Nat.le_of_ble_eq_true rfl, Nat.le_of_ble_eq_true rfl⟩) (q_preS hK hP [] rfl) rfl rfl hl.1 rfl (lv_room (Nat.le_of_ble_eq_true rfl)) dX7_isAxiom_42 ⟨Nat.zero_le _, Nat.zero_le _⟩)) (fun r13 hr13 => ?_)
          subst hr13
          refine q_ifb_eq (b := p_below a 16) (tgt := 61) hx hb dX7_isAxiom_45 (by decide) (fun c45_14 => ?_) (fun c45_14 => ?_)
          · refine lv_iconst (v := (nI (0))) hx hb dX7_isAxiom_61 (by decide) ?_
            subst hQ
            exact W.zret (v := (nI (0))) hx hb hr (by decide) (fun t9 h9 _ => ⟨_, rfl, bI_0 (show p_axiom k a b = false from by (unfold p_axiom; split <;> (try split) <;> simp_all)), h9⟩) (fun q hq => by cases hq) dX7_isAxiom_62
          · refine lv_iload_n hx hb dX7_isAxiom_48 rfl (lv_at hl 2 rfl) ?_
            refine lv_bipush (v := (nI (16))) hx hb dX7_isAxiom_49 (by decide) ?_
            refine vp_callSi (va_Run.run (va_runS (As := [.int (b), .int (nI (16))]) (rest := []) ⟨hx, hb, hml, hown, hts⟩ (c__isBelow l dC dI cI cL cQ cZ b 16 ) (q_cwS 2 hts gkX7_isBelow kmX7_92 ksX7_isBelow kiX7 rfl rfl rfl (by decide +kernel) ⟨Nat.le_of_ble_eq_true rfl, Nat.le_of_ble_eq_true rfl⟩) (q_preS hK hP [] rfl) rfl rfl hl.1 rfl (lv_room (Nat.le_of_ble_eq_true rfl)) dX7_isAxiom_51 ⟨Nat.zero_le _, Nat.zero_le _⟩)) (fun r15 hr15 => ?_)
            subst hr15
            refine q_ifb_eq (b := p_below b 16) (tgt := 61) hx hb dX7_isAxiom_54 (by decide) (fun c54_16 => ?_) (fun c54_16 => ?_)
            · refine lv_iconst (v := (nI (0))) hx hb dX7_isAxiom_61 (by decide) ?_
              subst hQ
              exact W.zret (v := (nI (0))) hx hb hr (by decide) (fun t9 h9 _ => ⟨_, rfl, bI_0 (show p_axiom k a b = false from by (unfold p_axiom; split <;> (try split) <;> simp_all)), h9⟩) (fun q hq => by cases hq) dX7_isAxiom_62
            · refine lv_iconst (v := (nI (1))) hx hb dX7_isAxiom_57 (by decide) ?_
              refine lv_goto (tgt := 62) hx hb dX7_isAxiom_58 (by decide) ?_
              subst hQ
              exact W.zret (v := (nI (1))) hx hb hr (by decide) (fun t9 h9 _ => ⟨_, rfl, bI_1 (show p_axiom k a b = true from by (unfold p_axiom; split <;> (try split) <;> simp_all)), h9⟩) (fun q hq => by cases hq) dX7_isAxiom_62
    · refine lv_iload_n hx hb dX7_isAxiom_9 rfl (lv_at hl 1 rfl) ?_
      refine vp_callSi (va_Run.run (va_runS (As := [.int (a)]) (rest := []) ⟨hx, hb, hml, hown, hts⟩ (c__isSort l dC dI cI cL cQ cZ a ) (q_cwS 1 hts gkX7_isSort kmX7_158 ksX7_isSort kiX7 rfl rfl rfl (by decide +kernel) ⟨Nat.le_of_ble_eq_true rfl, Nat.le_of_ble_eq_true rfl⟩) (q_preS hK hP [] rfl) rfl rfl hl.1 rfl (lv_room (Nat.le_of_ble_eq_true rfl)) dX7_isAxiom_10 ⟨Nat.zero_le _, Nat.zero_le _⟩)) (fun r17 hr17 => ?_)
      subst hr17
      refine q_ifb_eq (b := p_sort a) (tgt := 27) hx hb dX7_isAxiom_13 (by decide) (fun c13_18 => ?_) (fun c13_18 => ?_)
      · refine lv_iconst (v := (nI (0))) hx hb dX7_isAxiom_27 (by decide) ?_
        subst hQ
        exact W.zret (v := (nI (0))) hx hb hr (by decide) (fun t9 h9 _ => ⟨_, rfl, bI_0 (show p_axiom k a b = false from by (unfold p_axiom; split <;> (try split) <;> simp_all)), h9⟩) (fun q hq => by cases hq) dX7_isAxiom_28
      · refine lv_iload_n hx hb dX7_isAxiom_16 rfl (lv_at hl 2 rfl) ?_
        refine vp_callSi (va_Run.run (va_runS (As := [.int (b)]) (rest := []) ⟨hx, hb, hml, hown, hts⟩ (c__isSort l dC dI cI cL cQ cZ b ) (q_cwS 1 hts gkX7_isSort kmX7_158 ksX7_isSort kiX7 rfl rfl rfl (by decide +kernel) ⟨Nat.le_of_ble_eq_true rfl, Nat.le_of_ble_eq_true rfl⟩) (q_preS hK hP [] rfl) rfl rfl hl.1 rfl (lv_room (Nat.le_of_ble_eq_true rfl)) dX7_isAxiom_17 ⟨Nat.zero_le _, Nat.zero_le _⟩)) (fun r19 hr19 => ?_)
        subst hr19
        refine q_ifb_eq (b := p_sort b) (tgt := 27) hx hb dX7_isAxiom_20 (by decide) (fun c20_20 => ?_) (fun c20_20 => ?_)
        · refine lv_iconst (v := (nI (0))) hx hb dX7_isAxiom_27 (by decide) ?_
          subst hQ
          exact W.zret (v := (nI (0))) hx hb hr (by decide) (fun t9 h9 _ => ⟨_, rfl, bI_0 (show p_axiom k a b = false from by (unfold p_axiom; split <;> (try split) <;> simp_all)), h9⟩) (fun q hq => by cases hq) dX7_isAxiom_28
        · refine lv_iconst (v := (nI (1))) hx hb dX7_isAxiom_23 (by decide) ?_
          refine lv_goto (tgt := 28) hx hb dX7_isAxiom_24 (by decide) ?_
          subst hQ
          exact W.zret (v := (nI (1))) hx hb hr (by decide) (fun t9 h9 _ => ⟨_, rfl, bI_1 (show p_axiom k a b = true from by (unfold p_axiom; split <;> (try split) <;> simp_all)), h9⟩) (fun q hq => by cases hq) dX7_isAxiom_28
abbrev rm_c__isName : Room := { frames := 1, cells := 0, slots := 0, locals := 21 }
set_option maxHeartbeats 4000000 in
set_option maxRecDepth 100000 in
theorem c__isName (l : Launch) (dC : Nat → ClassId) (dI : Nat → Nat → Nat) (cI cL cQ cZ : ClassId) (ro : Bool) (x : Int32)  : Met l yX7_isName wkX7_isName rm_c__isName (q_R (dC, dI) qCl (qT cI cL cQ cZ) [] [.int (bI (ro)), .int (x)]) (vp_Si (fun r => r = (bI (p_name ro x)))) 0 0 (fun _ => False) := by
  refine Met.ofW (cc := cX7_isName) (maxL := 2) (ret := (some .boolean)) (by decide) rfl ?_
  intro p e s m args below meth c s₁ B hml hv
  obtain ⟨hargs, hP, hK⟩ := hv
  have hx := B.exec
  have hb := B.bytes
  have hr := B.returns
  have hts : ∀ w ∈ qW, w.before args s = true := fun w h => atoms_spec (ws := wkX7_isName) B.pre w (List.mem_cons_of_mem _ h)
  have hown : s.vm.findClass RX7 = some m.cls := findClass_of_methodNamed B.named
  have hlocks := B.notSynchronized
  refine q_named (fun Q hQ => ?_)
  refine q_entry hargs (Nat.le_of_ble_eq_true rfl) (fun ls hl => ?_)
  have hl : lv_has ls 2 [(0, .int (bI (ro))), (1, .int (x))] := hl
  refine lv_iload_n hx hb dX7_isName_0 rfl (lv_at hl 1 rfl) ?_
  refine lv_iload_n hx hb dX7_isName_1 rfl (lv_at hl 0 rfl) ?_
  refine q_ifb_eq (b := ro) (tgt := 10) hx hb dX7_isName_2 (by decide) (fun c2_1 => ?_) (fun c2_1 => ?_)
  · refine lv_bipush (v := (nI (10))) hx hb dX7_isName_10 (by decide) ?_
    refine vp_callSi (va_Run.run (va_runS (As := [.int (x), .int (nI (10))]) (rest := []) ⟨hx, hb, hml, hown, hts⟩ (c__isBelow l dC dI cI cL cQ cZ x 10 ) (q_cwS 2 hts gkX7_isBelow kmX7_92 ksX7_isBelow kiX7 rfl rfl rfl (by decide +kernel) ⟨Nat.le_of_ble_eq_true rfl, Nat.le_of_ble_eq_true rfl⟩) (q_preS hK hP [] rfl) rfl rfl hl.1 rfl (lv_room (Nat.le_of_ble_eq_true rfl)) dX7_isName_12 ⟨Nat.zero_le _, Nat.zero_le _⟩)) (fun r2 hr2 => ?_)
    subst hr2
    subst hQ
    exact W.zret (v := (bI (p_below x 10))) hx hb hr (bI_nar _) (fun t9 h9 _ => ⟨_, rfl, congrArg bI (show p_below x 10 = p_name ro x from by (simp [p_name, *])), h9⟩) (fun q hq => by cases hq) dX7_isName_15
  · refine lv_bipush (v := (nI (8))) hx hb dX7_isName_5 (by decide) ?_
    refine lv_goto (tgt := 12) hx hb dX7_isName_7 (by decide) ?_
    refine vp_callSi (va_Run.run (va_runS (As := [.int (x), .int (nI (8))]) (rest := []) ⟨hx, hb, hml, hown, hts⟩ (c__isBelow l dC dI cI cL cQ cZ x 8 ) (q_cwS 2 hts gkX7_isBelow kmX7_92 ksX7_isBelow kiX7 rfl rfl rfl (by decide +kernel) ⟨Nat.le_of_ble_eq_true rfl, Nat.le_of_ble_eq_true rfl⟩) (q_preS hK hP [] rfl) rfl rfl hl.1 rfl (lv_room (Nat.le_of_ble_eq_true rfl)) dX7_isName_12 ⟨Nat.zero_le _, Nat.zero_le _⟩)) (fun r3 hr3 => ?_)
    subst hr3
    subst hQ
    exact W.zret (v := (bI (p_below x 8))) hx hb hr (bI_nar _) (fun t9 h9 _ => ⟨_, rfl, congrArg bI (show p_below x 8 = p_name ro x from by (simp [p_name, *])), h9⟩) (fun q hq => by cases hq) dX7_isName_15
abbrev rm_c__isFact : Room := { frames := 2, cells := 0, slots := 0, locals := 42 }
set_option maxHeartbeats 4000000 in
set_option maxRecDepth 100000 in
theorem c__isFact (l : Launch) (dC : Nat → ClassId) (dI : Nat → Nat → Nat) (cI cL cQ cZ : ClassId) (ro : Bool) (x : Int32) (a : Int32) (b : Int32)  : Met l yX7_isFact wkX7_isFact rm_c__isFact (q_R (dC, dI) qCl (qT cI cL cQ cZ) [] [.int (bI (ro)), .int (x), .int (a), .int (b)]) (vp_Si (fun r => r = (bI (p_fact ro x a b)))) 0 0 (fun _ => False) := by
  refine Met.ofW (cc := cX7_isFact) (maxL := 4) (ret := (some .boolean)) (by decide) rfl ?_
  intro p e s m args below meth c s₁ B hml hv
  obtain ⟨hargs, hP, hK⟩ := hv
  have hx := B.exec
  have hb := B.bytes
  have hr := B.returns
  have hts : ∀ w ∈ qW, w.before args s = true := fun w h => atoms_spec (ws := wkX7_isFact) B.pre w (List.mem_cons_of_mem _ h)
  have hown : s.vm.findClass RX7 = some m.cls := findClass_of_methodNamed B.named
  have hlocks := B.notSynchronized
  refine q_named (fun Q hQ => ?_)
  refine q_entry hargs (Nat.le_of_ble_eq_true rfl) (fun ls hl => ?_)
  have hl : lv_has ls 4 [(0, .int (bI (ro))), (1, .int (x)), (2, .int (a)), (3, .int (b))] := hl
  refine lv_iload_n hx hb dX7_isFact_0 rfl (lv_at hl 0 rfl) ?_
  refine lv_iload_n hx hb dX7_isFact_1 rfl (lv_at hl 1 rfl) ?_
  refine vp_callSi (va_Run.run (va_runS (As := [.int (bI (ro)), .int (x)]) (rest := []) ⟨hx, hb, hml, hown, hts⟩ (c__isName l dC dI cI cL cQ cZ ro x ) (q_cwS 2 hts gkX7_isName kmX7_100 ksX7_isName kiX7 rfl rfl rfl (by decide +kernel) ⟨Nat.le_of_ble_eq_true rfl, Nat.le_of_ble_eq_true rfl⟩) (q_preS hK hP [] rfl) rfl rfl hl.1 rfl (lv_room (Nat.le_of_ble_eq_true rfl)) dX7_isFact_2 ⟨Nat.zero_le _, Nat.zero_le _⟩)) (fun r1 hr1 => ?_)
  subst hr1
  refine q_ifb_eq (b := p_name ro x) (tgt := 34) hx hb dX7_isFact_5 (by decide) (fun c5_2 => ?_) (fun c5_2 => ?_)
  · refine lv_iconst (v := (nI (0))) hx hb dX7_isFact_34 (by decide) ?_
    subst hQ
    exact W.zret (v := (nI (0))) hx hb hr (by decide) (fun t9 h9 _ => ⟨_, rfl, bI_0 (show p_fact ro x a b = false from by (simp_all [p_fact])), h9⟩) (fun q hq => by cases hq) dX7_isFact_35
  · refine lv_iload_n hx hb dX7_isFact_8 rfl (lv_at hl 2 rfl) ?_
    refine lv_bipush (v := (nI (12))) hx hb dX7_isFact_9 (by decide) ?_
    refine vp_callSi (va_Run.run (va_runS (As := [.int (a), .int (nI (12))]) (rest := []) ⟨hx, hb, hml, hown, hts⟩ (c__isBelow l dC dI cI cL cQ cZ a 12 ) (q_cwS 2 hts gkX7_isBelow kmX7_92 ksX7_isBelow kiX7 rfl rfl rfl (by decide +kernel) ⟨Nat.le_of_ble_eq_true rfl, Nat.le_of_ble_eq_true rfl⟩) (q_preS hK hP [] rfl) rfl rfl hl.1 rfl (lv_room (Nat.le_of_ble_eq_true rfl)) dX7_isFact_11 ⟨Nat.zero_le _, Nat.zero_le _⟩)) (fun r3 hr3 => ?_)
    subst hr3
    refine q_ifb_eq (b := p_below a 12) (tgt := 34) hx hb dX7_isFact_14 (by decide) (fun c14_4 => ?_) (fun c14_4 => ?_)
    · refine lv_iconst (v := (nI (0))) hx hb dX7_isFact_34 (by decide) ?_
      subst hQ
      exact W.zret (v := (nI (0))) hx hb hr (by decide) (fun t9 h9 _ => ⟨_, rfl, bI_0 (show p_fact ro x a b = false from by (simp_all [p_fact])), h9⟩) (fun q hq => by cases hq) dX7_isFact_35
    · refine lv_iload_n hx hb dX7_isFact_17 rfl (lv_at hl 0 rfl) ?_
      refine q_ifb_eq (b := ro) (tgt := 30) hx hb dX7_isFact_18 (by decide) (fun c18_5 => ?_) (fun c18_5 => ?_)
      · refine lv_iconst (v := (nI (1))) hx hb dX7_isFact_30 (by decide) ?_
        refine lv_goto (tgt := 35) hx hb dX7_isFact_31 (by decide) ?_
        subst hQ
        exact W.zret (v := (nI (1))) hx hb hr (by decide) (fun t9 h9 _ => ⟨_, rfl, bI_1 (show p_fact ro x a b = true from by (simp_all [p_fact])), h9⟩) (fun q hq => by cases hq) dX7_isFact_35
      · refine lv_iload_n hx hb dX7_isFact_21 rfl (lv_at hl 3 rfl) ?_
        refine lv_bipush (v := (nI (12))) hx hb dX7_isFact_22 (by decide) ?_
        refine vp_callSi (va_Run.run (va_runS (As := [.int (b), .int (nI (12))]) (rest := []) ⟨hx, hb, hml, hown, hts⟩ (c__isBelow l dC dI cI cL cQ cZ b 12 ) (q_cwS 2 hts gkX7_isBelow kmX7_92 ksX7_isBelow kiX7 rfl rfl rfl (by decide +kernel) ⟨Nat.le_of_ble_eq_true rfl, Nat.le_of_ble_eq_true rfl⟩) (q_preS hK hP [] rfl) rfl rfl hl.1 rfl (lv_room (Nat.le_of_ble_eq_true rfl)) dX7_isFact_24 ⟨Nat.zero_le _, Nat.zero_le _⟩)) (fun r6 hr6 => ?_)
        subst hr6
        refine q_ifb_eq (b := p_below b 12) (tgt := 34) hx hb dX7_isFact_27 (by decide) (fun c27_7 => ?_) (fun c27_7 => ?_)
        · refine lv_iconst (v := (nI (0))) hx hb dX7_isFact_34 (by decide) ?_
          subst hQ
          exact W.zret (v := (nI (0))) hx hb hr (by decide) (fun t9 h9 _ => ⟨_, rfl, bI_0 (show p_fact ro x a b = false from by (simp_all [p_fact])), h9⟩) (fun q hq => by cases hq) dX7_isFact_35
        · refine lv_iconst (v := (nI (1))) hx hb dX7_isFact_30 (by decide) ?_
          refine lv_goto (tgt := 35) hx hb dX7_isFact_31 (by decide) ?_
          subst hQ
          exact W.zret (v := (nI (1))) hx hb hr (by decide) (fun t9 h9 _ => ⟨_, rfl, bI_1 (show p_fact ro x a b = true from by (simp_all [p_fact])), h9⟩) (fun q hq => by cases hq) dX7_isFact_35
