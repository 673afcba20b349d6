abbrev cX8_isHead : ByteArray := prog_10_method_12_code
def yX8_isHead : MethodName := ⟨RX8, "isHead", "(I)Z"⟩
def wkX8_isHead : List Cond := .code yX8_isHead cX8_isHead 2 (some .boolean) :: qW
set_option maxRecDepth 40000 in
theorem gkX8_isHead : GoodIn qW wkX8_isHead := q_good (qw 745 rfl rfl)
set_option maxRecDepth 40000 in
theorem knX8_isHead : Cond.instanceMethod yX8_isHead ∈ qW := qw 744 rfl rfl
set_option maxRecDepth 40000 in
theorem klX8_isHead : Cond.selects RX8 yX8_isHead yX8_isHead ∈ qW := qw 24 rfl rfl
theorem dX8_isHead_0 : decode cX8_isHead 0 = .ok (.aload_n 0, 1) := by decide +kernel
theorem dX8_isHead_1 : decode cX8_isHead 1 = .ok (.getfield 118, 3) := by decide +kernel
theorem dX8_isHead_4 : decode cX8_isHead 4 = .ok (.ifCond .le 13, 3) := by decide +kernel
theorem dX8_isHead_7 : decode cX8_isHead 7 = .ok (.iload_n 1, 1) := by decide +kernel
theorem dX8_isHead_8 : decode cX8_isHead 8 = .ok (.aload_n 0, 1) := by decide +kernel
theorem dX8_isHead_9 : decode cX8_isHead 9 = .ok (.getfield 65, 3) := by decide +kernel
theorem dX8_isHead_12 : decode cX8_isHead 12 = .ok (.iconst 0, 1) := by decide +kernel
theorem dX8_isHead_13 : decode cX8_isHead 13 = .ok (.iaload, 1) := by decide +kernel
theorem dX8_isHead_14 : decode cX8_isHead 14 = .ok (.if_icmp .eq 21, 3) := by decide +kernel
theorem dX8_isHead_17 : decode cX8_isHead 17 = .ok (.aload_n 0, 1) := by decide +kernel
theorem dX8_isHead_18 : decode cX8_isHead 18 = .ok (.getfield 118, 3) := by decide +kernel
theorem dX8_isHead_21 : decode cX8_isHead 21 = .ok (.iconst 1, 1) := by decide +kernel
theorem dX8_isHead_22 : decode cX8_isHead 22 = .ok (.if_icmp .le 17, 3) := by decide +kernel
theorem dX8_isHead_25 : decode cX8_isHead 25 = .ok (.iload_n 1, 1) := by decide +kernel
theorem dX8_isHead_26 : decode cX8_isHead 26 = .ok (.aload_n 0, 1) := by decide +kernel
theorem dX8_isHead_27 : decode cX8_isHead 27 = .ok (.getfield 65, 3) := by decide +kernel
theorem dX8_isHead_30 : decode cX8_isHead 30 = .ok (.iconst 1, 1) := by decide +kernel
theorem dX8_isHead_31 : decode cX8_isHead 31 = .ok (.iaload, 1) := by decide +kernel
theorem dX8_isHead_32 : decode cX8_isHead 32 = .ok (.if_icmp .ne 7, 3) := by decide +kernel
theorem dX8_isHead_35 : decode cX8_isHead 35 = .ok (.iconst 1, 1) := by decide +kernel
theorem dX8_isHead_36 : decode cX8_isHead 36 = .ok (.goto 4, 3) := by decide +kernel
theorem dX8_isHead_39 : decode cX8_isHead 39 = .ok (.iconst 0, 1) := by decide +kernel
theorem dX8_isHead_40 : decode cX8_isHead 40 = .ok (.ireturn, 1) := by decide +kernel
set_option maxRecDepth 40000 in
theorem kfX8_118 : Cond.fieldLink RX8 118 "QlRewriteModel" "headCount" "I" ∈ qW := qw 595 rfl rfl
set_option maxRecDepth 40000 in
theorem kfX8_65 : Cond.fieldLink RX8 65 "QlRewriteModel" "head" "[I" ∈ qW := qw 594 rfl rfl
abbrev rm_c_Model_isHead : Room := { frames := 0, cells := 0, slots := 0, locals := 0 }
set_option maxHeartbeats 4000000 in
set_option maxRecDepth 100000 in
theorem c_Model_isHead (l : Launch) (dC : Nat → ClassId) (dI : Nat → Nat → Nat) (cI cL cQ cZ : ClassId) (x0 : Nat) (ax : Nat) (z1 : Nat) (z2 : Nat) (z3 : Nat) (fc : Nat) (z5 : Nat) (z6 : Nat) (z7 : Nat) (qs : Nat) (z9 : Nat) (z10 : Nat) (z11 : Nat) (z12 : Nat) (z13 : Nat) (hd : Option Nat) (lg : Bool) (fcn : Nat) (z17 : Nat) (z18 : Nat) (z19 : Nat) (md : Nat) (z21 : Nat) (z22 : Nat) (z23 : Nat) (z24 : Nat) (hc : Nat) (z26 : Nat) (z27 : Nat) (z28 : Nat) (z29 : Nat) (z30 : Nat) (z31 : Nat) (sm : Bool) (z33 : Nat) (z34 : Nat) (he : Nat → Option Nat) (v : Nat) (hhc : hc ≤ 2) (hv : v < 18) (hhe : m_hok he hc) : Met l yX8_isHead wkX8_isHead rm_c_Model_isHead (q_R (dC, dI) qCl (qT cI cL cQ cZ) [(x0, .inr (8, mO ax z1 z2 z3 fc z5 z6 z7 qs z9 z10 z11 z12 z13 hd lg fcn z17 z18 z19 md z21 z22 z23 z24 hc z26 z27 z28 z29 z30 z31 sm z33 z34)), (z24, .inl (cI, 2, .inl (oF he)))] [.ref x0, .int (nI (v))]) (vp_Si (fun r => r = (bI (m_head (m_h he) hc v)))) 0 0 (fun _ => False) := by
  refine Met.ofW (cc := cX8_isHead) (maxL := 2) (ret := (some .boolean)) (by decide) rfl ?_
  intro p e s m args below meth c s₁ B hml hv
  obtain ⟨hargs, hP, hK⟩ := hv
  have hx := B.exec
  have hb := B.bytes
  have hr := B.returns
  have hts : ∀ w ∈ qW, w.before args s = true := fun w h => atoms_spec (ws := wkX8_isHead) B.pre w (List.mem_cons_of_mem _ h)
  have hown : s.vm.findClass RX8 = some m.cls := findClass_of_methodNamed B.named
  have hlocks := B.notSynchronized
  refine q_named (fun Q hQ => ?_)
  refine q_entry hargs (Nat.le_of_ble_eq_true rfl) (fun ls hl => ?_)
  have hl : lv_has ls 2 [(0, .ref x0), (1, .int (nI (v)))] := hl
  refine lv_aload_n hx hb dX8_isHead_0 rfl (lv_at hl 0 rfl) ?_
  refine va_get (D := (dC, dI)) (ci := 8) (v := .int (nI (hc))) (C := RX8) (T := TX8) (N := 35) hx hb hts uX8 hown hK hP 0 rfl rfl 25 (by decide) (hts _ kfX8_118) (fun _ h9 => h9) rfl dX8_isHead_1 ?_
  refine q_if_le (x := hc) (tgt := 17) hx hb dX8_isHead_4 (by decide) (by omega) (fun c4_1 => ?_) (fun c4_1 => ?_)
  · refine lv_aload_n hx hb dX8_isHead_17 rfl (lv_at hl 0 rfl) ?_
    refine va_get (D := (dC, dI)) (ci := 8) (v := .int (nI (hc))) (C := RX8) (T := TX8) (N := 35) hx hb hts uX8 hown hK hP 0 rfl rfl 25 (by decide) (hts _ kfX8_118) (fun _ h9 => h9) rfl dX8_isHead_18 ?_
    refine lv_iconst (v := (nI (1))) hx hb dX8_isHead_21 (by decide) ?_
    refine q_icmp_le (x := hc) (y := 1) (tgt := 39) hx hb dX8_isHead_22 (by decide) (by omega) (by omega) (fun c22_2 => ?_) (fun c22_2 => ?_)
    · refine lv_iconst (v := (nI (0))) hx hb dX8_isHead_39 (by decide) ?_
      subst hQ
      exact W.zret (v := (nI (0))) hx hb hr (by decide) (fun t9 h9 _ => ⟨_, rfl, bI_0 (show m_head (m_h he) hc v = false from by (simp [m_head]; omega)), h9⟩) (fun q hq => by cases hq) dX8_isHead_40
    · refine lv_iload_n hx hb dX8_isHead_25 rfl (lv_at hl 1 rfl) ?_
      refine lv_aload_n hx hb dX8_isHead_26 rfl (lv_at hl 0 rfl) ?_
      refine va_get (D := (dC, dI)) (ci := 8) (v := .ref z24) (C := RX8) (T := TX8) (N := 35) hx hb hts uX8 hown hK hP 0 rfl rfl 24 (by decide) (hts _ kfX8_65) (fun _ h9 => h9) rfl dX8_isHead_27 ?_
      refine lv_iconst (v := (nI (1))) hx hb dX8_isHead_30 (by decide) ?_
      refine q_ialdO hx hb hK hP 1 0 rfl rfl (j := 1) (by omega) (by omega) dX8_isHead_31 ?_
      refine q_top (show (oI (he 1)) = (nI (m_h he 1)) from (congrArg oI (hhe 1 (by omega)).1)) ?_
      have hu1 := (hhe 1 (by omega)).2
      refine q_icmp_ne (x := v) (y := m_h he 1) (tgt := 39) hx hb dX8_isHead_32 (by decide) (by omega) (by omega) (fun c32_3 => ?_) (fun c32_3 => ?_)
      · refine lv_iconst (v := (nI (0))) hx hb dX8_isHead_39 (by decide) ?_
        subst hQ
        exact W.zret (v := (nI (0))) hx hb hr (by decide) (fun t9 h9 _ => ⟨_, rfl, bI_0 (show m_head (m_h he) hc v = false from by (simp [m_head]; omega)), h9⟩) (fun q hq => by cases hq) dX8_isHead_40
      · refine lv_iconst (v := (nI (1))) hx hb dX8_isHead_35 (by decide) ?_
        refine lv_goto (tgt := 40) hx hb dX8_isHead_36 (by decide) ?_
        subst hQ
        exact W.zret (v := (nI (1))) hx hb hr (by decide) (fun t9 h9 _ => ⟨_, rfl, bI_1 (show m_head (m_h he) hc v = true from by (simp [m_head]; omega)), h9⟩) (fun q hq => by cases hq) dX8_isHead_40
  · refine lv_iload_n hx hb dX8_isHead_7 rfl (lv_at hl 1 rfl) ?_
    refine lv_aload_n hx hb dX8_isHead_8 rfl (lv_at hl 0 rfl) ?_
    refine va_get (D := (dC, dI)) (ci := 8) (v := .ref z24) (C := RX8) (T := TX8) (N := 35) hx hb hts uX8 hown hK hP 0 rfl rfl 24 (by decide) (hts _ kfX8_65) (fun _ h9 => h9) rfl dX8_isHead_9 ?_
    refine lv_iconst (v := (nI (0))) hx hb dX8_isHead_12 (by decide) ?_
    refine q_ialdO hx hb hK hP 1 0 rfl rfl (j := 0) (by omega) (by omega) dX8_isHead_13 ?_
    refine q_top (show (oI (he 0)) = (nI (m_h he 0)) from (congrArg oI (hhe 0 (by omega)).1)) ?_
    have hu0 := (hhe 0 (by omega)).2
    refine q_icmp_eq (x := v) (y := m_h he 0) (tgt := 35) hx hb dX8_isHead_14 (by decide) (by omega) (by omega) (fun c14_4 => ?_) (fun c14_4 => ?_)
    · refine lv_iconst (v := (nI (1))) hx hb dX8_isHead_35 (by decide) ?_
      refine lv_goto (tgt := 40) hx hb dX8_isHead_36 (by decide) ?_
      subst hQ
      exact W.zret (v := (nI (1))) hx hb hr (by decide) (fun t9 h9 _ => ⟨_, rfl, bI_1 (show m_head (m_h he) hc v = true from by (simp [m_head]; omega)), h9⟩) (fun q hq => by cases hq) dX8_isHead_40
    · refine lv_aload_n hx hb dX8_isHead_17 rfl (lv_at hl 0 rfl) ?_
      refine va_get (D := (dC, dI)) (ci := 8) (v := .int (nI (hc))) (C := RX8) (T := TX8) (N := 35) hx hb hts uX8 hown hK hP 0 rfl rfl 25 (by decide) (hts _ kfX8_118) (fun _ h9 => h9) rfl dX8_isHead_18 ?_
      refine lv_iconst (v := (nI (1))) hx hb dX8_isHead_21 (by decide) ?_
      refine q_icmp_le (x := hc) (y := 1) (tgt := 39) hx hb dX8_isHead_22 (by decide) (by omega) (by omega) (fun c22_5 => ?_) (fun c22_5 => ?_)
      · refine lv_iconst (v := (nI (0))) hx hb dX8_isHead_39 (by decide) ?_
        subst hQ
        exact W.zret (v := (nI (0))) hx hb hr (by decide) (fun t9 h9 _ => ⟨_, rfl, bI_0 (show m_head (m_h he) hc v = false from by (simp [m_head]; omega)), h9⟩) (fun q hq => by cases hq) dX8_isHead_40
      · refine lv_iload_n hx hb dX8_isHead_25 rfl (lv_at hl 1 rfl) ?_
        refine lv_aload_n hx hb dX8_isHead_26 rfl (lv_at hl 0 rfl) ?_
        refine va_get (D := (dC, dI)) (ci := 8) (v := .ref z24) (C := RX8) (T := TX8) (N := 35) hx hb hts uX8 hown hK hP 0 rfl rfl 24 (by decide) (hts _ kfX8_65) (fun _ h9 => h9) rfl dX8_isHead_27 ?_
        refine lv_iconst (v := (nI (1))) hx hb dX8_isHead_30 (by decide) ?_
        refine q_ialdO hx hb hK hP 1 0 rfl rfl (j := 1) (by omega) (by omega) dX8_isHead_31 ?_
        refine q_top (show (oI (he 1)) = (nI (m_h he 1)) from (congrArg oI (hhe 1 (by omega)).1)) ?_
        have hu1 := (hhe 1 (by omega)).2
        refine q_icmp_ne (x := v) (y := m_h he 1) (tgt := 39) hx hb dX8_isHead_32 (by decide) (by omega) (by omega) (fun c32_6 => ?_) (fun c32_6 => ?_)
        · refine lv_iconst (v := (nI (0))) hx hb dX8_isHead_39 (by decide) ?_
          subst hQ
          exact W.zret (v := (nI (0))) hx hb hr (by decide) (fun t9 h9 _ => ⟨_, rfl, bI_0 (show m_head (m_h he) hc v = false from by (simp [m_head]; omega)), h9⟩) (fun q hq => by cases hq) dX8_isHead_40
        · refine lv_iconst (v := (nI (1))) hx hb dX8_isHead_35 (by decide) ?_
          refine lv_goto (tgt := 40) hx hb dX8_isHead_36 (by decide) ?_
          subst hQ
          exact W.zret (v := (nI (1))) hx hb hr (by decide) (fun t9 h9 _ => ⟨_, rfl, bI_1 (show m_head (m_h he) hc v = true from by (simp [m_head]; omega)), h9⟩) (fun q hq => by cases hq) dX8_isHead_40
