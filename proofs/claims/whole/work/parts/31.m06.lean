abbrev cX8_isLone : ByteArray := prog_10_method_14_code
def yX8_isLone : MethodName := ⟨RX8, "isLone", "(I)Z"⟩
def wkX8_isLone : List Cond := .code yX8_isLone cX8_isLone 2 (some .boolean) :: qW
set_option maxRecDepth 40000 in
theorem gkX8_isLone : GoodIn qW wkX8_isLone := q_good (qw 741 rfl rfl)
set_option maxRecDepth 40000 in
theorem knX8_isLone : Cond.instanceMethod yX8_isLone ∈ qW := qw 740 rfl rfl
set_option maxRecDepth 40000 in
theorem klX8_isLone : Cond.selects RX8 yX8_isLone yX8_isLone ∈ qW := qw 23 rfl rfl
theorem dX8_isLone_0 : decode cX8_isLone 0 = .ok (.iload_n 1, 1) := by decide +kernel
theorem dX8_isLone_1 : decode cX8_isLone 1 = .ok (.bipush 6, 2) := by decide +kernel
theorem dX8_isLone_3 : decode cX8_isLone 3 = .ok (.if_icmp .eq 24, 3) := by decide +kernel
theorem dX8_isLone_6 : decode cX8_isLone 6 = .ok (.aload_n 0, 1) := by decide +kernel
theorem dX8_isLone_7 : decode cX8_isLone 7 = .ok (.iload_n 1, 1) := by decide +kernel
theorem dX8_isLone_8 : decode cX8_isLone 8 = .ok (.invokevirtual 124, 3) := by decide +kernel
theorem dX8_isLone_11 : decode cX8_isLone 11 = .ok (.ifCond .ne 16, 3) := by decide +kernel
theorem dX8_isLone_14 : decode cX8_isLone 14 = .ok (.aload_n 0, 1) := by decide +kernel
theorem dX8_isLone_15 : decode cX8_isLone 15 = .ok (.iload_n 1, 1) := by decide +kernel
theorem dX8_isLone_16 : decode cX8_isLone 16 = .ok (.invokevirtual 127, 3) := by decide +kernel
theorem dX8_isLone_19 : decode cX8_isLone 19 = .ok (.iconst 1, 1) := by decide +kernel
theorem dX8_isLone_20 : decode cX8_isLone 20 = .ok (.if_icmp .ne 7, 3) := by decide +kernel
theorem dX8_isLone_23 : decode cX8_isLone 23 = .ok (.iconst 1, 1) := by decide +kernel
theorem dX8_isLone_24 : decode cX8_isLone 24 = .ok (.goto 4, 3) := by decide +kernel
theorem dX8_isLone_27 : decode cX8_isLone 27 = .ok (.iconst 0, 1) := by decide +kernel
theorem dX8_isLone_28 : decode cX8_isLone 28 = .ok (.ireturn, 1) := by decide +kernel
set_option maxRecDepth 40000 in
theorem kmX8_124 : Cond.methodLink RX8 124 yX8_isHead ∈ qW := qw 742 rfl rfl
set_option maxRecDepth 40000 in
theorem kmX8_127 : Cond.methodLink RX8 127 yX8_standing ∈ qW := qw 746 rfl rfl
abbrev rm_c_Model_isLone : Room := { frames := 1, cells := 0, slots := 0, locals := 23 }
set_option maxHeartbeats 4000000 in
set_option maxRecDepth 100000 in
theorem c_Model_isLone (l : Launch) (dC : Nat → ClassId) (dI : Nat → Nat → Nat) (cI cL cQ cZ : ClassId) (x0 : Nat) (ax : Nat) (z1 : Nat) (z2 : Nat) (z3 : Nat) (fc : Nat) (z5 : Nat) (z6 : Nat) (z7 : Nat) (qs : Nat) (z9 : Nat) (z10 : Nat) (z11 : Nat) (z12 : Nat) (z13 : Nat) (hd : Option Nat) (lg : Bool) (fcn : Nat) (z17 : Nat) (z18 : Nat) (z19 : Nat) (md : Nat) (z21 : Nat) (z22 : Nat) (z23 : Nat) (z24 : Nat) (hc : Nat) (z26 : Nat) (z27 : Nat) (z28 : Nat) (z29 : Nat) (z30 : Nat) (z31 : Nat) (sm : Bool) (z33 : Nat) (z34 : Nat) (pp : Nat → Nat) (pa : Nat → Nat) (pb : Nat → Nat) (he : Nat → Option Nat) (v : Nat) (hmd : md ≤ 4) (hpp : ∀ j, pp j < 64) (hpa : ∀ j, pa j < 18) (hpb : ∀ j, pb j < 18) (hhc : hc ≤ 2) (hv : v < 18) (hhe : m_hok he hc) : Met l yX8_isLone wkX8_isLone rm_c_Model_isLone (q_R (dC, dI) qCl (qT cI cL cQ cZ) [(x0, .inr (8, mO ax z1 z2 z3 fc z5 z6 z7 qs z9 z10 z11 z12 z13 hd lg fcn z17 z18 z19 md z21 z22 z23 z24 hc z26 z27 z28 z29 z30 z31 sm z33 z34)), (z21, .inl (cI, 4, .inl (nF pp))), (z22, .inl (cI, 4, .inl (nF pa))), (z23, .inl (cI, 4, .inl (nF pb))), (z24, .inl (cI, 2, .inl (oF he)))] [.ref x0, .int (nI (v))]) (vp_Si (fun r => r = (bI (m_lone pp pa pb (m_h he) md hc v)))) 0 0 (fun _ => False) := by
  refine Met.ofW (cc := cX8_isLone) (maxL := 2) (ret := (some .boolean)) (by decide) rfl ?_
  intro p e s m args below meth c s₁ B hml hv
  obtain ⟨hargs, hP, hK⟩ := hv
  have hx := B.exec
  have hb := B.bytes
  have hr := B.returns
  have hts : ∀ w ∈ qW, w.before args s = true := fun w h => atoms_spec (ws := wkX8_isLone) B.pre w (List.mem_cons_of_mem _ h)
  have hown : s.vm.findClass RX8 = some m.cls := findClass_of_methodNamed B.named
  have hlocks := B.notSynchronized
  refine q_named (fun Q hQ => ?_)
  refine q_entry hargs (Nat.le_of_ble_eq_true rfl) (fun ls hl => ?_)
  have hl : lv_has ls 2 [(0, .ref x0), (1, .int (nI (v)))] := hl
  refine lv_iload_n hx hb dX8_isLone_0 rfl (lv_at hl 1 rfl) ?_
  refine lv_bipush (v := (nI (6))) hx hb dX8_isLone_1 (by decide) ?_
  refine q_icmp_eq (x := v) (y := 6) (tgt := 27) hx hb dX8_isLone_3 (by decide) (by (have := m_stn_le pp pa pb v md; omega)) (by omega) (fun c3_1 => ?_) (fun c3_1 => ?_)
  · refine lv_iconst (v := (nI (0))) hx hb dX8_isLone_27 (by decide) ?_
    subst hQ
    exact W.zret (v := (nI (0))) hx hb hr (by decide) (fun t9 h9 _ => ⟨_, rfl, bI_0 (show m_lone pp pa pb (m_h he) md hc v = false from by (simp [m_lone, *])), h9⟩) (fun q hq => by cases hq) dX8_isLone_28
  · refine lv_aload_n hx hb dX8_isLone_6 rfl (lv_at hl 0 rfl) ?_
    refine lv_iload_n hx hb dX8_isLone_7 rfl (lv_at hl 1 rfl) ?_
    refine vp_callSi (va_Run.run (va_runV (As := [.int (nI (v))]) (rest := []) ⟨hx, hb, hml, hown, hts⟩ (c_Model_isHead l dC dI cI cL cQ cZ x0 ax z1 z2 z3 fc z5 z6 z7 qs z9 z10 z11 z12 z13 hd lg fcn z17 z18 z19 md z21 z22 z23 z24 hc z26 z27 z28 z29 z30 z31 sm z33 z34 he v (show hc ≤ 2 from by first | assumption | omega) (show v < 18 from by first | assumption | omega) (show m_hok he hc from by first | assumption | omega)) (q_cwV 1 hts gkX8_isHead kmX8_124 knX8_isHead klX8_isHead kiX8 rfl rfl rfl (by decide +kernel) ⟨Nat.le_of_ble_eq_true rfl, Nat.le_of_ble_eq_true rfl⟩) (q_preV hK hP [0, 4] rfl 0 (ci := 8) (r := (RX8, TX8, 35)) rfl rfl) rfl rfl hl.1 rfl (lv_room (Nat.le_of_ble_eq_true rfl)) dX8_isLone_8 ⟨Nat.zero_le _, Nat.zero_le _⟩)) (fun r2 hr2 => ?_)
    subst hr2
    refine q_ifb_ne (b := m_head (m_h he) hc v) (tgt := 27) hx hb dX8_isLone_11 (by decide) (fun c11_3 => ?_) (fun c11_3 => ?_)
    · refine lv_iconst (v := (nI (0))) hx hb dX8_isLone_27 (by decide) ?_
      subst hQ
      exact W.zret (v := (nI (0))) hx hb hr (by decide) (fun t9 h9 _ => ⟨_, rfl, bI_0 (show m_lone pp pa pb (m_h he) md hc v = false from by (simp [m_lone, *])), h9⟩) (fun q hq => by cases hq) dX8_isLone_28
    · refine lv_aload_n hx hb dX8_isLone_14 rfl (lv_at hl 0 rfl) ?_
      refine lv_iload_n hx hb dX8_isLone_15 rfl (lv_at hl 1 rfl) ?_
      refine vp_callSi (va_Run.run (va_runV (As := [.int (nI (v))]) (rest := []) ⟨hx, hb, hml, hown, hts⟩ (c_Model_standing l dC dI cI cL cQ cZ x0 ax z1 z2 z3 fc z5 z6 z7 qs z9 z10 z11 z12 z13 hd lg fcn z17 z18 z19 md z21 z22 z23 z24 hc z26 z27 z28 z29 z30 z31 sm z33 z34 pp pa pb v (show md ≤ 4 from by first | assumption | omega) (show ∀ j, pp j < 64 from by first | assumption | omega) (show ∀ j, pa j < 18 from by first | assumption | omega) (show ∀ j, pb j < 18 from by first | assumption | omega) (show v < 18 from by first | assumption | omega)) (q_cwV 1 hts gkX8_standing kmX8_127 knX8_standing klX8_standing kiX8 rfl rfl rfl (by decide +kernel) ⟨Nat.le_of_ble_eq_true rfl, Nat.le_of_ble_eq_true rfl⟩) (q_preV hK hP [0, 1, 2, 3] rfl 0 (ci := 8) (r := (RX8, TX8, 35)) rfl rfl) rfl rfl hl.1 rfl (lv_room (Nat.le_of_ble_eq_true rfl)) dX8_isLone_16 ⟨Nat.zero_le _, Nat.zero_le _⟩)) (fun r4 hr4 => ?_)
      subst hr4
      refine lv_iconst (v := (nI (1))) hx hb dX8_isLone_19 (by decide) ?_
      refine q_icmp_ne (x := m_stn pp pa pb v md) (y := 1) (tgt := 27) hx hb dX8_isLone_20 (by decide) (by (have := m_stn_le pp pa pb v md; omega)) (by omega) (fun c20_5 => ?_) (fun c20_5 => ?_)
      · refine lv_iconst (v := (nI (0))) hx hb dX8_isLone_27 (by decide) ?_
        subst hQ
        exact W.zret (v := (nI (0))) hx hb hr (by decide) (fun t9 h9 _ => ⟨_, rfl, bI_0 (show m_lone pp pa pb (m_h he) md hc v = false from by (simp [m_lone, *])), h9⟩) (fun q hq => by cases hq) dX8_isLone_28
      · refine lv_iconst (v := (nI (1))) hx hb dX8_isLone_23 (by decide) ?_
        refine lv_goto (tgt := 28) hx hb dX8_isLone_24 (by decide) ?_
        subst hQ
        exact W.zret (v := (nI (1))) hx hb hr (by decide) (fun t9 h9 _ => ⟨_, rfl, bI_1 (show m_lone pp pa pb (m_h he) md hc v = true from by (simp [m_lone, *])), h9⟩) (fun q hq => by cases hq) dX8_isLone_28
