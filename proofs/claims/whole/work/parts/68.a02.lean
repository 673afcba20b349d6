abbrev cX8_forms : ByteArray := prog_10_method_33_code
def yX8_forms : MethodName := ⟨RX8, "forms", "(I)I"⟩
def wkX8_forms : List Cond := .code yX8_forms cX8_forms 3 (some .int) :: qW
set_option maxRecDepth 40000 in
theorem gkX8_forms : GoodIn qW wkX8_forms := q_good (qw 713 rfl rfl)
set_option maxRecDepth 40000 in
theorem knX8_forms : Cond.instanceMethod yX8_forms ∈ qW := qw 711 rfl rfl
set_option maxRecDepth 40000 in
theorem klX8_forms : Cond.selects RX8 yX8_forms yX8_forms ∈ qW := qw 712 rfl rfl
theorem dX8_forms_0 : decode cX8_forms 0 = .ok (.aload_n 0, 1) := by decide +kernel
theorem dX8_forms_1 : decode cX8_forms 1 = .ok (.iload_n 1, 1) := by decide +kernel
theorem dX8_forms_2 : decode cX8_forms 2 = .ok (.invokevirtual 196, 3) := by decide +kernel
theorem dX8_forms_5 : decode cX8_forms 5 = .ok (.istore_n 2, 1) := by decide +kernel
theorem dX8_forms_6 : decode cX8_forms 6 = .ok (.iload_n 2, 1) := by decide +kernel
theorem dX8_forms_7 : decode cX8_forms 7 = .ok (.ifCond .ge 7, 3) := by decide +kernel
theorem dX8_forms_10 : decode cX8_forms 10 = .ok (.iload_n 2, 1) := by decide +kernel
theorem dX8_forms_11 : decode cX8_forms 11 = .ok (.goto 7, 3) := by decide +kernel
theorem dX8_forms_14 : decode cX8_forms 14 = .ok (.aload_n 0, 1) := by decide +kernel
theorem dX8_forms_15 : decode cX8_forms 15 = .ok (.getfield 162, 3) := by decide +kernel
theorem dX8_forms_18 : decode cX8_forms 18 = .ok (.ireturn, 1) := by decide +kernel
set_option maxRecDepth 40000 in
theorem kmX8_196 : Cond.methodLink RX8 196 yX8_makeFor ∈ qW := qw 714 rfl rfl
abbrev rm_c_Model_forms_b : Room := { frames := 2, cells := 0, slots := 0, locals := 46 }
set_option maxHeartbeats 4000000 in
set_option maxRecDepth 100000 in
theorem c_Model_forms_b (l : Launch) (dC : Nat → ClassId) (dI : Nat → Nat → Nat) (cI cL cQ cZ : ClassId) (x0 : Nat) (ax : Nat) (z1 : Nat) (z2 : Nat) (z3 : Nat) (fc : Nat) (z5 : Nat) (z6 : Nat) (z7 : Nat) (qs : Nat) (z9 : Nat) (z10 : Nat) (z11 : Nat) (z12 : Nat) (z13 : Nat) (hd : Option Nat) (lg : Bool) (fcn : Nat) (z17 : Nat) (z18 : Nat) (z19 : Nat) (md : Nat) (z21 : Nat) (z22 : Nat) (z23 : Nat) (z24 : Nat) (hc : Nat) (z26 : Nat) (z27 : Nat) (z28 : Nat) (z29 : Nat) (z30 : Nat) (z31 : Nat) (sm : Bool) (z33 : Nat) (z34 : Nat) (qn : Nat → Nat) (q : Int32) (hqs : qs ≤ 6) (hqn : ∀ j7, qn j7 ≤ 4) (hbad : m_in q (nI 0) (nI qs - nI 1) = false ∨ ∃ qi, q = nI qi ∧ qi < qs ∧ qn qi = 0) : Met l yX8_forms wkX8_forms rm_c_Model_forms_b (q_R (dC, dI) qCl (qT cI cL cQ cZ) [(x0, .inr (8, mO ax z1 z2 z3 fc z5 z6 z7 qs z9 z10 z11 z12 z13 hd lg fcn z17 z18 z19 md z21 z22 z23 z24 hc z26 z27 z28 z29 z30 z31 sm z33 z34)), (z10, .inl (cI, 6, .inl (nF qn)))] [.ref x0, .int (q)]) (vp_Si (fun r => r = (oI (none)))) 0 0 (fun _ => False) := by
  refine Met.ofW (cc := cX8_forms) (maxL := 3) (ret := (some .int)) (by decide) rfl ?_
  intro p e s m args below meth c s₁ B hml hv
  obtain ⟨hargs, hP, hK⟩ := hv
  have hx := B.exec
  have hb := B.bytes
  have hr := B.returns
  have hts : ∀ w ∈ qW, w.before args s = true := fun w h => atoms_spec (ws := wkX8_forms) B.pre w (List.mem_cons_of_mem _ h)
  have hown : s.vm.findClass RX8 = some m.cls := findClass_of_methodNamed B.named
  have hlocks := B.notSynchronized
  refine q_named (fun Q hQ => ?_)
  refine q_entry hargs (Nat.le_of_ble_eq_true rfl) (fun ls hl => ?_)
  have hl : lv_has ls 3 [(0, .ref x0), (1, .int (q))] := hl
  refine lv_aload_n hx hb dX8_forms_0 rfl (lv_at hl 0 rfl) ?_
  refine lv_iload_n hx hb dX8_forms_1 rfl (lv_at hl 1 rfl) ?_
  refine vp_callSi (va_Run.run (va_runV (As := [.int (q)]) (rest := []) ⟨hx, hb, hml, hown, hts⟩ (c_Model_makeFor_b l dC dI cI cL cQ cZ x0 ax z1 z2 z3 fc z5 z6 z7 qs z9 z10 z11 z12 z13 hd lg fcn z17 z18 z19 md z21 z22 z23 z24 hc z26 z27 z28 z29 z30 z31 sm z33 z34 qn q (show qs ≤ 6 from by first | assumption | omega) (show ∀ j7, qn j7 ≤ 4 from by first | assumption | omega) (show m_in q (nI 0) (nI qs - nI 1) = false ∨ ∃ qi, q = nI qi ∧ qi < qs ∧ qn qi = 0 from by (exact hbad))) (q_cwV 1 hts gkX8_makeFor kmX8_196 knX8_makeFor klX8_makeFor kiX8 rfl rfl rfl (by decide +kernel) ⟨Nat.le_of_ble_eq_true rfl, Nat.le_of_ble_eq_true rfl⟩) (q_preV hK hP [0, 1] rfl 0 (ci := 8) (r := (RX8, TX8, 35)) rfl rfl) rfl rfl hl.1 rfl (lv_room (Nat.le_of_ble_eq_true rfl)) dX8_forms_2 ⟨Nat.zero_le _, Nat.zero_le _⟩)) (fun r1 hr1 => ?_)
  subst hr1
  refine lv_istore_n (lv' := [(2, .int (oI (none))), (0, .ref x0), (1, .int (q))]) hx hb dX8_forms_5 rfl hl (by decide) rfl (fun ls hl => ?_)
  refine lv_iload_n hx hb dX8_forms_6 rfl (lv_at hl 0 rfl) ?_
  refine q_ifO_ge (x := none) (tgt := 14) hx hb dX8_forms_7 (by decide) (by (intro k9 h9; cases h9)) (fun c7_2 => ?_) (fun c7_2 => ?_)
  · exact absurd rfl (by assumption)
  · refine lv_iload_n hx hb dX8_forms_10 rfl (lv_at hl 0 rfl) ?_
    refine lv_goto (tgt := 18) hx hb dX8_forms_11 (by decide) ?_
    subst hQ
    exact W.iret (v := (oI (none))) hx hb hr (fun t9 h9 _ => ⟨_, rfl, rfl, h9⟩) (fun q hq => by cases hq) dX8_forms_18
