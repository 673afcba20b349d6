abbrev cX8_mayBe : ByteArray := prog_10_method_6_code
def yX8_mayBe : MethodName := ⟨RX8, "mayBe", "(ZIII)Z"⟩
def wkX8_mayBe : List Cond := .code yX8_mayBe cX8_mayBe 4 (some .boolean) :: qW
set_option maxRecDepth 40000 in
theorem gkX8_mayBe : GoodIn qW wkX8_mayBe := q_good (qw 693 rfl rfl)
set_option maxRecDepth 40000 in
theorem ksX8_mayBe : Cond.static yX8_mayBe ∈ qW := qw 692 rfl rfl
theorem dX8_mayBe_0 : decode cX8_mayBe 0 = .ok (.iload_n 2, 1) := by decide +kernel
theorem dX8_mayBe_1 : decode cX8_mayBe 1 = .ok (.iconst 0, 1) := by decide +kernel
theorem dX8_mayBe_2 : decode cX8_mayBe 2 = .ok (.bipush 11, 2) := by decide +kernel
theorem dX8_mayBe_4 : decode cX8_mayBe 4 = .ok (.invokestatic 93, 3) := by decide +kernel
theorem dX8_mayBe_7 : decode cX8_mayBe 7 = .ok (.ifCond .eq 44, 3) := by decide +kernel
theorem dX8_mayBe_10 : decode cX8_mayBe 10 = .ok (.iload_n 0, 1) := by decide +kernel
theorem dX8_mayBe_11 : decode cX8_mayBe 11 = .ok (.ifCond .eq 26, 3) := by decide +kernel
theorem dX8_mayBe_14 : decode cX8_mayBe 14 = .ok (.iload_n 1, 1) := by decide +kernel
theorem dX8_mayBe_15 : decode cX8_mayBe 15 = .ok (.iconst 0, 1) := by decide +kernel
theorem dX8_mayBe_16 : decode cX8_mayBe 16 = .ok (.bipush 7, 2) := by decide +kernel
theorem dX8_mayBe_18 : decode cX8_mayBe 18 = .ok (.invokestatic 93, 3) := by decide +kernel
theorem dX8_mayBe_21 : decode cX8_mayBe 21 = .ok (.ifCond .eq 30, 3) := by decide +kernel
theorem dX8_mayBe_24 : decode cX8_mayBe 24 = .ok (.iload_n 3, 1) := by decide +kernel
theorem dX8_mayBe_25 : decode cX8_mayBe 25 = .ok (.iconst 0, 1) := by decide +kernel
theorem dX8_mayBe_26 : decode cX8_mayBe 26 = .ok (.bipush 11, 2) := by decide +kernel
theorem dX8_mayBe_28 : decode cX8_mayBe 28 = .ok (.invokestatic 93, 3) := by decide +kernel
theorem dX8_mayBe_31 : decode cX8_mayBe 31 = .ok (.ifCond .eq 20, 3) := by decide +kernel
theorem dX8_mayBe_34 : decode cX8_mayBe 34 = .ok (.goto 13, 3) := by decide +kernel
theorem dX8_mayBe_37 : decode cX8_mayBe 37 = .ok (.iload_n 1, 1) := by decide +kernel
theorem dX8_mayBe_38 : decode cX8_mayBe 38 = .ok (.iconst 0, 1) := by decide +kernel
theorem dX8_mayBe_39 : decode cX8_mayBe 39 = .ok (.bipush 9, 2) := by decide +kernel
theorem dX8_mayBe_41 : decode cX8_mayBe 41 = .ok (.invokestatic 93, 3) := by decide +kernel
theorem dX8_mayBe_44 : decode cX8_mayBe 44 = .ok (.ifCond .eq 7, 3) := by decide +kernel
theorem dX8_mayBe_47 : decode cX8_mayBe 47 = .ok (.iconst 1, 1) := by decide +kernel
theorem dX8_mayBe_48 : decode cX8_mayBe 48 = .ok (.goto 4, 3) := by decide +kernel
theorem dX8_mayBe_51 : decode cX8_mayBe 51 = .ok (.iconst 0, 1) := by decide +kernel
theorem dX8_mayBe_52 : decode cX8_mayBe 52 = .ok (.ireturn, 1) := by decide +kernel
abbrev rm_c_Model_mayBe : Room := { frames := 1, cells := 0, slots := 0, locals := 22 }
set_option maxHeartbeats 4000000 in
set_option maxRecDepth 100000 in
theorem c_Model_mayBe (l : Launch) (dC : Nat → ClassId) (dI : Nat → Nat → Nat) (cI cL cQ cZ : ClassId) (ro : Bool) (x : Int32) (a : Int32) (b : Int32)  : Met l yX8_mayBe wkX8_mayBe rm_c_Model_mayBe (q_R (dC, dI) qCl (qT cI cL cQ cZ) [] [.int (bI (ro)), .int (x), .int (a), .int (b)]) (vp_Si (fun r => r = (bI (m_may ro x a b)))) 0 0 (fun _ => False) := by
  refine Met.ofW (cc := cX8_mayBe) (maxL := 4) (ret := (some .boolean)) (by decide) rfl ?_
  intro p e s m args below meth c s₁ B hml hv
  obtain ⟨hargs, hP, hK⟩ := hv
  have hx := B.exec
  have hb := B.bytes
  have hr := B.returns
  have hts : ∀ w ∈ qW, w.before args s = true := fun w h => atoms_spec (ws := wkX8_mayBe) B.pre w (List.mem_cons_of_mem _ h)
  have hown : s.vm.findClass RX8 = some m.cls := findClass_of_methodNamed B.named
  have hlocks := B.notSynchronized
  refine q_named (fun Q hQ => ?_)
  refine q_entry hargs (Nat.le_of_ble_eq_true rfl) (fun ls hl => ?_)
  have hl : lv_has ls 4 [(0, .int (bI (ro))), (1, .int (x)), (2, .int (a)), (3, .int (b))] := hl
  refine lv_iload_n hx hb dX8_mayBe_0 rfl (lv_at hl 2 rfl) ?_
  refine lv_iconst (v := (nI (0))) hx hb dX8_mayBe_1 (by decide) ?_
  refine lv_bipush (v := (nI (11))) hx hb dX8_mayBe_2 (by decide) ?_
  refine vp_callSi (va_Run.run (va_runS (As := [.int (a), .int (nI (0)), .int (nI (11))]) (rest := []) ⟨hx, hb, hml, hown, hts⟩ (c_Model_isIn l dC dI cI cL cQ cZ a (nI (0)) (nI (11)) ) (q_cwS 3 hts gkX8_isIn kmX8_93 ksX8_isIn kiX8 rfl rfl rfl (by decide +kernel) ⟨Nat.le_of_ble_eq_true rfl, Nat.le_of_ble_eq_true rfl⟩) (q_preS hK hP [] rfl) rfl rfl hl.1 rfl (lv_room (Nat.le_of_ble_eq_true rfl)) dX8_mayBe_4 ⟨Nat.zero_le _, Nat.zero_le _⟩)) (fun r1 hr1 => ?_)
  subst hr1
  refine q_ifb_eq (b := m_in a (nI (0)) (nI (11))) (tgt := 51) hx hb dX8_mayBe_7 (by decide) (fun c7_2 => ?_) (fun c7_2 => ?_)
  · refine lv_iconst (v := (nI (0))) hx hb dX8_mayBe_51 (by decide) ?_
    subst hQ
    exact W.zret (v := (nI (0))) hx hb hr (by decide) (fun t9 h9 _ => ⟨_, rfl, bI_0 (show m_may ro x a b = false from by (simp_all [m_may])), h9⟩) (fun q hq => by cases hq) dX8_mayBe_52
  · refine lv_iload_n hx hb dX8_mayBe_10 rfl (lv_at hl 0 rfl) ?_
    refine q_ifb_eq (b := ro) (tgt := 37) hx hb dX8_mayBe_11 (by decide) (fun c11_3 => ?_) (fun c11_3 => ?_)
    · refine lv_iload_n hx hb dX8_mayBe_37 rfl (lv_at hl 1 rfl) ?_
      refine lv_iconst (v := (nI (0))) hx hb dX8_mayBe_38 (by decide) ?_
      refine lv_bipush (v := (nI (9))) hx hb dX8_mayBe_39 (by decide) ?_
      refine vp_callSi (va_Run.run (va_runS (As := [.int (x), .int (nI (0)), .int (nI (9))]) (rest := []) ⟨hx, hb, hml, hown, hts⟩ (c_Model_isIn l dC dI cI cL cQ cZ x (nI (0)) (nI (9)) ) (q_cwS 3 hts gkX8_isIn kmX8_93 ksX8_isIn kiX8 rfl rfl rfl (by decide +kernel) ⟨Nat.le_of_ble_eq_true rfl, Nat.le_of_ble_eq_true rfl⟩) (q_preS hK hP [] rfl) rfl rfl hl.1 rfl (lv_room (Nat.le_of_ble_eq_true rfl)) dX8_mayBe_41 ⟨Nat.zero_le _, Nat.zero_le _⟩)) (fun r4 hr4 => ?_)
      subst hr4
      refine q_ifb_eq (b := m_in x (nI (0)) (nI (9))) (tgt := 51) hx hb dX8_mayBe_44 (by decide) (fun c44_5 => ?_) (fun c44_5 => ?_)
      · refine lv_iconst (v := (nI (0))) hx hb dX8_mayBe_51 (by decide) ?_
        subst hQ
        exact W.zret (v := (nI (0))) hx hb hr (by decide) (fun t9 h9 _ => ⟨_, rfl, bI_0 (show m_may ro x a b = false from by (simp_all [m_may])), h9⟩) (fun q hq => by cases hq) dX8_mayBe_52
      · refine lv_iconst (v := (nI (1))) hx hb dX8_mayBe_47 (by decide) ?_
        refine lv_goto (tgt := 52) hx hb dX8_mayBe_48 (by decide) ?_
        subst hQ
        exact W.zret (v := (nI (1))) hx hb hr (by decide) (fun t9 h9 _ => ⟨_, rfl, bI_1 (show m_may ro x a b = true from by (simp_all [m_may])), h9⟩) (fun q hq => by cases hq) dX8_mayBe_52
    · refine lv_iload_n hx hb dX8_mayBe_14 rfl (lv_at hl 1 rfl) ?_
      refine lv_iconst (v := (nI (0))) hx hb dX8_mayBe_15 (by decide) ?_
      refine lv_bipush (v := (nI (7))) hx hb dX8_mayBe_16 (by decide) ?_
      refine vp_callSi (va_Run.run (va_runS (As := [.int (x), .int (nI (0)), .int (nI (7))]) (rest := []) ⟨hx, hb, hml, hown, hts⟩ (c_Model_isIn l dC dI cI cL cQ cZ x (nI (0)) (nI (7)) ) (q_cwS 3 hts gkX8_isIn kmX8_93 ksX8_isIn kiX8 rfl rfl rfl (by decide +kernel) ⟨Nat.le_of_ble_eq_true rfl, Nat.le_of_ble_eq_true rfl⟩) (q_preS hK hP [] rfl) rfl rfl hl.1 rfl (lv_room (Nat.le_of_ble_eq_true rfl)) dX8_mayBe_18 ⟨Nat.zero_le _, Nat.zero_le _⟩)) (fun r6 hr6 => ?_)
      subst hr6
      refine q_ifb_eq (b := m_in x (nI (0)) (nI (7))) (tgt := 51) hx hb dX8_mayBe_21 (by decide) (fun c21_7 => ?_) (fun c21_7 => ?_)
      · refine lv_iconst (v := (nI (0))) hx hb dX8_mayBe_51 (by decide) ?_
        subst hQ
        exact W.zret (v := (nI (0))) hx hb hr (by decide) (fun t9 h9 _ => ⟨_, rfl, bI_0 (show m_may ro x a b = false from by (simp_all [m_may])), h9⟩) (fun q hq => by cases hq) dX8_mayBe_52
      · refine lv_iload_n hx hb dX8_mayBe_24 rfl (lv_at hl 3 rfl) ?_
        refine lv_iconst (v := (nI (0))) hx hb dX8_mayBe_25 (by decide) ?_
        refine lv_bipush (v := (nI (11))) hx hb dX8_mayBe_26 (by decide) ?_
        refine vp_callSi (va_Run.run (va_runS (As := [.int (b), .int (nI (0)), .int (nI (11))]) (rest := []) ⟨hx, hb, hml, hown, hts⟩ (c_Model_isIn l dC dI cI cL cQ cZ b (nI (0)) (nI (11)) ) (q_cwS 3 hts gkX8_isIn kmX8_93 ksX8_isIn kiX8 rfl rfl rfl (by decide +kernel) ⟨Nat.le_of_ble_eq_true rfl, Nat.le_of_ble_eq_true rfl⟩) (q_preS hK hP [] rfl) rfl rfl hl.1 rfl (lv_room (Nat.le_of_ble_eq_true rfl)) dX8_mayBe_28 ⟨Nat.zero_le _, Nat.zero_le _⟩)) (fun r8 hr8 => ?_)
        subst hr8
        refine q_ifb_eq (b := m_in b (nI (0)) (nI (11))) (tgt := 51) hx hb dX8_mayBe_31 (by decide) (fun c31_9 => ?_) (fun c31_9 => ?_)
        · refine lv_iconst (v := (nI (0))) hx hb dX8_mayBe_51 (by decide) ?_
          subst hQ
          exact W.zret (v := (nI (0))) hx hb hr (by decide) (fun t9 h9 _ => ⟨_, rfl, bI_0 (show m_may ro x a b = false from by (simp_all [m_may])), h9⟩) (fun q hq => by cases hq) dX8_mayBe_52
        · refine lv_goto (tgt := 47) hx hb dX8_mayBe_34 (by decide) ?_
          refine lv_iconst (v := (nI (1))) hx hb dX8_mayBe_47 (by decide) ?_
          refine lv_goto (tgt := 52) hx hb dX8_mayBe_48 (by decide) ?_
          subst hQ
          exact W.zret (v := (nI (1))) hx hb hr (by decide) (fun t9 h9 _ => ⟨_, rfl, bI_1 (show m_may ro x a b = true from by (simp_all [m_may])), h9⟩) (fun q hq => by cases hq) dX8_mayBe_52
