abbrev cX8_isSort : ByteArray := prog_10_method_4_code
def yX8_isSort : MethodName := ⟨RX8, "isSort", "(I)Z"⟩
def wkX8_isSort : List Cond := .code yX8_isSort cX8_isSort 1 (some .boolean) :: qW
set_option maxRecDepth 40000 in
theorem gkX8_isSort : GoodIn qW wkX8_isSort := q_good (qw 683 rfl rfl)
set_option maxRecDepth 40000 in
theorem ksX8_isSort : Cond.static yX8_isSort ∈ qW := qw 682 rfl rfl
theorem dX8_isSort_0 : decode cX8_isSort 0 = .ok (.iload_n 0, 1) := by decide +kernel
theorem dX8_isSort_1 : decode cX8_isSort 1 = .ok (.iconst 0, 1) := by decide +kernel
theorem dX8_isSort_2 : decode cX8_isSort 2 = .ok (.bipush 9, 2) := by decide +kernel
theorem dX8_isSort_4 : decode cX8_isSort 4 = .ok (.invokestatic 93, 3) := by decide +kernel
theorem dX8_isSort_7 : decode cX8_isSort 7 = .ok (.ifCond .ne 14, 3) := by decide +kernel
theorem dX8_isSort_10 : decode cX8_isSort 10 = .ok (.iload_n 0, 1) := by decide +kernel
theorem dX8_isSort_11 : decode cX8_isSort 11 = .ok (.bipush 20, 2) := by decide +kernel
theorem dX8_isSort_13 : decode cX8_isSort 13 = .ok (.bipush 35, 2) := by decide +kernel
theorem dX8_isSort_15 : decode cX8_isSort 15 = .ok (.invokestatic 93, 3) := by decide +kernel
theorem dX8_isSort_18 : decode cX8_isSort 18 = .ok (.ifCond .eq 7, 3) := by decide +kernel
theorem dX8_isSort_21 : decode cX8_isSort 21 = .ok (.iconst 1, 1) := by decide +kernel
theorem dX8_isSort_22 : decode cX8_isSort 22 = .ok (.goto 4, 3) := by decide +kernel
theorem dX8_isSort_25 : decode cX8_isSort 25 = .ok (.iconst 0, 1) := by decide +kernel
theorem dX8_isSort_26 : decode cX8_isSort 26 = .ok (.ireturn, 1) := by decide +kernel
set_option maxRecDepth 40000 in
theorem kmX8_93 : Cond.methodLink RX8 93 yX8_isIn ∈ qW := qw 684 rfl rfl
abbrev rm_c_Model_isSort : Room := { frames := 1, cells := 0, slots := 0, locals := 22 }
set_option maxHeartbeats 4000000 in
set_option maxRecDepth 100000 in
theorem c_Model_isSort (l : Launch) (dC : Nat → ClassId) (dI : Nat → Nat → Nat) (cI cL cQ cZ : ClassId) (v : Int32)  : Met l yX8_isSort wkX8_isSort rm_c_Model_isSort (q_R (dC, dI) qCl (qT cI cL cQ cZ) [] [.int (v)]) (vp_Si (fun r => r = (bI (m_sort v)))) 0 0 (fun _ => False) := by
  refine Met.ofW (cc := cX8_isSort) (maxL := 1) (ret := (some .boolean)) (by decide) rfl ?_
  intro p e s m args below meth c s₁ B hml hv
  obtain ⟨hargs, hP, hK⟩ := hv
  have hx := B.exec
  have hb := B.bytes
  have hr := B.returns
  have hts : ∀ w ∈ qW, w.before args s = true := fun w h => atoms_spec (ws := wkX8_isSort) B.pre w (List.mem_cons_of_mem _ h)
  have hown : s.vm.findClass RX8 = some m.cls := findClass_of_methodNamed B.named
  have hlocks := B.notSynchronized
  refine q_named (fun Q hQ => ?_)
  refine q_entry hargs (Nat.le_of_ble_eq_true rfl) (fun ls hl => ?_)
  have hl : lv_has ls 1 [(0, .int (v))] := hl
  refine lv_iload_n hx hb dX8_isSort_0 rfl (lv_at hl 0 rfl) ?_
  refine lv_iconst (v := (nI (0))) hx hb dX8_isSort_1 (by decide) ?_
  refine lv_bipush (v := (nI (9))) hx hb dX8_isSort_2 (by decide) ?_
  refine vp_callSi (va_Run.run (va_runS (As := [.int (v), .int (nI (0)), .int (nI (9))]) (rest := []) ⟨hx, hb, hml, hown, hts⟩ (c_Model_isIn l dC dI cI cL cQ cZ v (nI (0)) (nI (9)) ) (q_cwS 3 hts gkX8_isIn kmX8_93 ksX8_isIn kiX8 rfl rfl rfl (by decide +kernel) ⟨Nat.le_of_ble_eq_true rfl, Nat.le_of_ble_eq_true rfl⟩) (q_preS hK hP [] rfl) rfl rfl hl.1 rfl (lv_room (Nat.le_of_ble_eq_true rfl)) dX8_isSort_4 ⟨Nat.zero_le _, Nat.zero_le _⟩)) (fun r1 hr1 => ?_)
  subst hr1
  refine q_ifb_ne (b := m_in v (nI (0)) (nI (9))) (tgt := 21) hx hb dX8_isSort_7 (by decide) (fun c7_2 => ?_) (fun c7_2 => ?_)
  · refine lv_iconst (v := (nI (1))) hx hb dX8_isSort_21 (by decide) ?_
    refine lv_goto (tgt := 26) hx hb dX8_isSort_22 (by decide) ?_
    subst hQ
    exact W.zret (v := (nI (1))) hx hb hr (by decide) (fun t9 h9 _ => ⟨_, rfl, bI_1 (show m_sort v = true from by (simp [m_sort, *])), h9⟩) (fun q hq => by cases hq) dX8_isSort_26
  · refine lv_iload_n hx hb dX8_isSort_10 rfl (lv_at hl 0 rfl) ?_
    refine lv_bipush (v := (nI (20))) hx hb dX8_isSort_11 (by decide) ?_
    refine lv_bipush (v := (nI (35))) hx hb dX8_isSort_13 (by decide) ?_
    refine vp_callSi (va_Run.run (va_runS (As := [.int (v), .int (nI (20)), .int (nI (35))]) (rest := []) ⟨hx, hb, hml, hown, hts⟩ (c_Model_isIn l dC dI cI cL cQ cZ v (nI (20)) (nI (35)) ) (q_cwS 3 hts gkX8_isIn kmX8_93 ksX8_isIn kiX8 rfl rfl rfl (by decide +kernel) ⟨Nat.le_of_ble_eq_true rfl, Nat.le_of_ble_eq_true rfl⟩) (q_preS hK hP [] rfl) rfl rfl hl.1 rfl (lv_room (Nat.le_of_ble_eq_true rfl)) dX8_isSort_15 ⟨Nat.zero_le _, Nat.zero_le _⟩)) (fun r3 hr3 => ?_)
    subst hr3
    refine q_ifb_eq (b := m_in v (nI (20)) (nI (35))) (tgt := 25) hx hb dX8_isSort_18 (by decide) (fun c18_4 => ?_) (fun c18_4 => ?_)
    · refine lv_iconst (v := (nI (0))) hx hb dX8_isSort_25 (by decide) ?_
      subst hQ
      exact W.zret (v := (nI (0))) hx hb hr (by decide) (fun t9 h9 _ => ⟨_, rfl, bI_0 (show m_sort v = false from by (simp [m_sort, *])), h9⟩) (fun q hq => by cases hq) dX8_isSort_26
    · refine lv_iconst (v := (nI (1))) hx hb dX8_isSort_21 (by decide) ?_
      refine lv_goto (tgt := 26) hx hb dX8_isSort_22 (by decide) ?_
      subst hQ
      exact W.zret (v := (nI (1))) hx hb hr (by decide) (fun t9 h9 _ => ⟨_, rfl, bI_1 (show m_sort v = true from by (simp [m_sort, *])), h9⟩) (fun q hq => by cases hq) dX8_isSort_26
