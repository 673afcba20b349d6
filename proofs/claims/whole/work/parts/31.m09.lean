abbrev cX8_headName : ByteArray := prog_10_method_22_code
def yX8_headName : MethodName := ⟨RX8, "headName", "(I)I"⟩
def wkX8_headName : List Cond := .code yX8_headName cX8_headName 2 (some .int) :: qW
set_option maxRecDepth 40000 in
theorem gkX8_headName : GoodIn qW wkX8_headName := q_good (qw 773 rfl rfl)
set_option maxRecDepth 40000 in
theorem knX8_headName : Cond.instanceMethod yX8_headName ∈ qW := qw 772 rfl rfl
set_option maxRecDepth 40000 in
theorem klX8_headName : Cond.selects RX8 yX8_headName yX8_headName ∈ qW := qw 31 rfl rfl
theorem dX8_headName_0 : decode cX8_headName 0 = .ok (.iload_n 1, 1) := by decide +kernel
theorem dX8_headName_1 : decode cX8_headName 1 = .ok (.aload_n 0, 1) := by decide +kernel
theorem dX8_headName_2 : decode cX8_headName 2 = .ok (.getfield 118, 3) := by decide +kernel
theorem dX8_headName_5 : decode cX8_headName 5 = .ok (.if_icmp .lt 7, 3) := by decide +kernel
theorem dX8_headName_8 : decode cX8_headName 8 = .ok (.iconst (-1), 1) := by decide +kernel
theorem dX8_headName_9 : decode cX8_headName 9 = .ok (.goto 28, 3) := by decide +kernel
theorem dX8_headName_12 : decode cX8_headName 12 = .ok (.iload_n 1, 1) := by decide +kernel
theorem dX8_headName_13 : decode cX8_headName 13 = .ok (.iconst 1, 1) := by decide +kernel
theorem dX8_headName_14 : decode cX8_headName 14 = .ok (.if_icmp .ne 22, 3) := by decide +kernel
theorem dX8_headName_17 : decode cX8_headName 17 = .ok (.aload_n 0, 1) := by decide +kernel
theorem dX8_headName_18 : decode cX8_headName 18 = .ok (.getfield 65, 3) := by decide +kernel
theorem dX8_headName_21 : decode cX8_headName 21 = .ok (.iconst 1, 1) := by decide +kernel
theorem dX8_headName_22 : decode cX8_headName 22 = .ok (.iaload, 1) := by decide +kernel
theorem dX8_headName_23 : decode cX8_headName 23 = .ok (.aload_n 0, 1) := by decide +kernel
theorem dX8_headName_24 : decode cX8_headName 24 = .ok (.getfield 65, 3) := by decide +kernel
theorem dX8_headName_27 : decode cX8_headName 27 = .ok (.iconst 0, 1) := by decide +kernel
theorem dX8_headName_28 : decode cX8_headName 28 = .ok (.iaload, 1) := by decide +kernel
theorem dX8_headName_29 : decode cX8_headName 29 = .ok (.if_icmp .eq 7, 3) := by decide +kernel
theorem dX8_headName_32 : decode cX8_headName 32 = .ok (.iconst 1, 1) := by decide +kernel
theorem dX8_headName_33 : decode cX8_headName 33 = .ok (.goto 4, 3) := by decide +kernel
theorem dX8_headName_36 : decode cX8_headName 36 = .ok (.iconst 0, 1) := by decide +kernel
theorem dX8_headName_37 : decode cX8_headName 37 = .ok (.ireturn, 1) := by decide +kernel
abbrev rm_c_Model_headName : Room := { frames := 0, cells := 0, slots := 0, locals := 0 }
set_option maxHeartbeats 4000000 in
set_option maxRecDepth 100000 in
theorem c_Model_headName (l : Launch) (dC : Nat → ClassId) (dI : Nat → Nat → Nat) (cI cL cQ cZ : ClassId) (x0 : Nat) (ax : Nat) (z1 : Nat) (z2 : Nat) (z3 : Nat) (fc : Nat) (z5 : Nat) (z6 : Nat) (z7 : Nat) (qs : Nat) (z9 : Nat) (z10 : Nat) (z11 : Nat) (z12 : Nat) (z13 : Nat) (hd : Option Nat) (lg : Bool) (fcn : Nat) (z17 : Nat) (z18 : Nat) (z19 : Nat) (md : Nat) (z21 : Nat) (z22 : Nat) (z23 : Nat) (z24 : Nat) (hc : Nat) (z26 : Nat) (z27 : Nat) (z28 : Nat) (z29 : Nat) (z30 : Nat) (z31 : Nat) (sm : Bool) (z33 : Nat) (z34 : Nat) (he : Nat → Option Nat) (i : Nat) (hhc : hc ≤ 2) (hi : i < 2) (hhe : m_hok he hc) : Met l yX8_headName wkX8_headName rm_c_Model_headName (q_R (dC, dI) qCl (qT cI cL cQ cZ) [(x0, .inr (8, mO ax z1 z2 z3 fc z5 z6 z7 qs z9 z10 z11 z12 z13 hd lg fcn z17 z18 z19 md z21 z22 z23 z24 hc z26 z27 z28 z29 z30 z31 sm z33 z34)), (z24, .inl (cI, 2, .inl (oF he)))] [.ref x0, .int (nI (i))]) (vp_Si (fun r => r = (oI (m_hn (m_h he) hc i)))) 0 0 (fun _ => False) := by
  refine Met.ofW (cc := cX8_headName) (maxL := 2) (ret := (some .int)) (by decide) rfl ?_
  intro p e s m args below meth c s₁ B hml hv
  obtain ⟨hargs, hP, hK⟩ := hv
  have hx := B.exec
  have hb := B.bytes
  have hr := B.returns
  have hts : ∀ w ∈ qW, w.before args s = true := fun w h => atoms_spec (ws := wkX8_headName) B.pre w (List.mem_cons_of_mem _ h)
  have hown : s.vm.findClass RX8 = some m.cls := findClass_of_methodNamed B.named
  have hlocks := B.notSynchronized
  refine q_named (fun Q hQ => ?_)
  refine q_entry hargs (Nat.le_of_ble_eq_true rfl) (fun ls hl => ?_)
  have hl : lv_has ls 2 [(0, .ref x0), (1, .int (nI (i)))] := hl
  refine lv_iload_n hx hb dX8_headName_0 rfl (lv_at hl 1 rfl) ?_
  refine lv_aload_n hx hb dX8_headName_1 rfl (lv_at hl 0 rfl) ?_
  refine va_get (D := (dC, dI)) (ci := 8) (v := .int (nI (hc))) (C := RX8) (T := TX8) (N := 35) hx hb hts uX8 hown hK hP 0 rfl rfl 25 (by decide) (hts _ kfX8_118) (fun _ h9 => h9) rfl dX8_headName_2 ?_
  refine q_icmp_lt (x := i) (y := hc) (tgt := 12) hx hb dX8_headName_5 (by decide) (by omega) (by omega) (fun c5_1 => ?_) (fun c5_1 => ?_)
  · refine lv_iload_n hx hb dX8_headName_12 rfl (lv_at hl 1 rfl) ?_
    refine lv_iconst (v := (nI (1))) hx hb dX8_headName_13 (by decide) ?_
    refine q_icmp_ne (x := i) (y := 1) (tgt := 36) hx hb dX8_headName_14 (by decide) (by omega) (by omega) (fun c14_2 => ?_) (fun c14_2 => ?_)
    · refine lv_iconst (v := (nI (0))) hx hb dX8_headName_36 (by decide) ?_
      subst hQ
      exact W.iret (v := (nI (0))) hx hb hr (fun t9 h9 _ => ⟨_, rfl, show (nI (0)) = (oI (m_hn (m_h he) hc i)) from by (first | (rw [m_hn, if_pos (by omega)]) | (rw [m_hn, if_neg (by omega), if_pos (by omega)]; rfl) | (rw [m_hn, if_neg (by omega), if_neg (by omega)]; rfl)), h9⟩) (fun q hq => by cases hq) dX8_headName_37
    · refine lv_aload_n hx hb dX8_headName_17 rfl (lv_at hl 0 rfl) ?_
      refine va_get (D := (dC, dI)) (ci := 8) (v := .ref z24) (C := RX8) (T := TX8) (N := 35) hx hb hts uX8 hown hK hP 0 rfl rfl 24 (by decide) (hts _ kfX8_65) (fun _ h9 => h9) rfl dX8_headName_18 ?_
      refine lv_iconst (v := (nI (1))) hx hb dX8_headName_21 (by decide) ?_
      refine q_ialdO hx hb hK hP 1 0 rfl rfl (j := 1) (by omega) (by omega) dX8_headName_22 ?_
      refine q_top (show (oI (he 1)) = (nI (m_h he 1)) from (congrArg oI (hhe 1 (by omega)).1)) ?_
      have hu1 := (hhe 1 (by omega)).2
      refine lv_aload_n hx hb dX8_headName_23 rfl (lv_at hl 0 rfl) ?_
      refine va_get (D := (dC, dI)) (ci := 8) (v := .ref z24) (C := RX8) (T := TX8) (N := 35) hx hb hts uX8 hown hK hP 0 rfl rfl 24 (by decide) (hts _ kfX8_65) (fun _ h9 => h9) rfl dX8_headName_24 ?_
      refine lv_iconst (v := (nI (0))) hx hb dX8_headName_27 (by decide) ?_
      refine q_ialdO hx hb hK hP 1 0 rfl rfl (j := 0) (by omega) (by omega) dX8_headName_28 ?_
      refine q_top (show (oI (he 0)) = (nI (m_h he 0)) from (congrArg oI (hhe 0 (by omega)).1)) ?_
      have hu0 := (hhe 0 (by omega)).2
      refine q_icmp_eq (x := m_h he 1) (y := m_h he 0) (tgt := 36) hx hb dX8_headName_29 (by decide) (by omega) (by omega) (fun c29_3 => ?_) (fun c29_3 => ?_)
      · refine lv_iconst (v := (nI (0))) hx hb dX8_headName_36 (by decide) ?_
        subst hQ
        exact W.iret (v := (nI (0))) hx hb hr (fun t9 h9 _ => ⟨_, rfl, show (nI (0)) = (oI (m_hn (m_h he) hc i)) from by (first | (rw [m_hn, if_pos (by omega)]) | (rw [m_hn, if_neg (by omega), if_pos (by omega)]; rfl) | (rw [m_hn, if_neg (by omega), if_neg (by omega)]; rfl)), h9⟩) (fun q hq => by cases hq) dX8_headName_37
      · refine lv_iconst (v := (nI (1))) hx hb dX8_headName_32 (by decide) ?_
        refine lv_goto (tgt := 37) hx hb dX8_headName_33 (by decide) ?_
        subst hQ
        exact W.iret (v := (nI (1))) hx hb hr (fun t9 h9 _ => ⟨_, rfl, show (nI (1)) = (oI (m_hn (m_h he) hc i)) from by (first | (rw [m_hn, if_pos (by omega)]) | (rw [m_hn, if_neg (by omega), if_pos (by omega)]; rfl) | (rw [m_hn, if_neg (by omega), if_neg (by omega)]; rfl)), h9⟩) (fun q hq => by cases hq) dX8_headName_37
  · refine lv_iconst (v := (oI (none))) hx hb dX8_headName_8 (by decide) ?_
    refine lv_goto (tgt := 37) hx hb dX8_headName_9 (by decide) ?_
    subst hQ
    exact W.iret (v := (oI (none))) hx hb hr (fun t9 h9 _ => ⟨_, rfl, show (oI (none)) = (oI (m_hn (m_h he) hc i)) from by (first | (rw [m_hn, if_pos (by omega)]) | (rw [m_hn, if_neg (by omega), if_pos (by omega)]; rfl) | (rw [m_hn, if_neg (by omega), if_neg (by omega)]; rfl)), h9⟩) (fun q hq => by cases hq) dX8_headName_37
