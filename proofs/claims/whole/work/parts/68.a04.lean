abbrev cX8_form : ByteArray := prog_10_method_34_code
def yX8_form : MethodName := ⟨RX8, "form", "(III)I"⟩
def wkX8_form : List Cond := .code yX8_form cX8_form 5 (some .int) :: qW
set_option maxRecDepth 40000 in
theorem gkX8_form : GoodIn qW wkX8_form := q_good (qw 797 rfl rfl)
set_option maxRecDepth 40000 in
theorem knX8_form : Cond.instanceMethod yX8_form ∈ qW := qw 795 rfl rfl
set_option maxRecDepth 40000 in
theorem klX8_form : Cond.selects RX8 yX8_form yX8_form ∈ qW := qw 796 rfl rfl
theorem dX8_form_0 : decode cX8_form 0 = .ok (.aload_n 0, 1) := by decide +kernel
theorem dX8_form_1 : decode cX8_form 1 = .ok (.iload_n 1, 1) := by decide +kernel
theorem dX8_form_2 : decode cX8_form 2 = .ok (.invokevirtual 196, 3) := by decide +kernel
theorem dX8_form_5 : decode cX8_form 5 = .ok (.istore 4, 2) := by decide +kernel
theorem dX8_form_7 : decode cX8_form 7 = .ok (.iload 4, 2) := by decide +kernel
theorem dX8_form_9 : decode cX8_form 9 = .ok (.ifCond .ge 6, 3) := by decide +kernel
theorem dX8_form_12 : decode cX8_form 12 = .ok (.iload 4, 2) := by decide +kernel
theorem dX8_form_14 : decode cX8_form 14 = .ok (.ireturn, 1) := by decide +kernel
theorem dX8_form_15 : decode cX8_form 15 = .ok (.iload_n 2, 1) := by decide +kernel
theorem dX8_form_16 : decode cX8_form 16 = .ok (.iconst 0, 1) := by decide +kernel
theorem dX8_form_17 : decode cX8_form 17 = .ok (.aload_n 0, 1) := by decide +kernel
theorem dX8_form_18 : decode cX8_form 18 = .ok (.getfield 162, 3) := by decide +kernel
theorem dX8_form_21 : decode cX8_form 21 = .ok (.iconst 1, 1) := by decide +kernel
theorem dX8_form_22 : decode cX8_form 22 = .ok (.isub, 1) := by decide +kernel
theorem dX8_form_23 : decode cX8_form 23 = .ok (.invokestatic 93, 3) := by decide +kernel
theorem dX8_form_26 : decode cX8_form 26 = .ok (.ifCond .eq 13, 3) := by decide +kernel
theorem dX8_form_29 : decode cX8_form 29 = .ok (.iload_n 3, 1) := by decide +kernel
theorem dX8_form_30 : decode cX8_form 30 = .ok (.iconst 0, 1) := by decide +kernel
theorem dX8_form_31 : decode cX8_form 31 = .ok (.bipush 6, 2) := by decide +kernel
theorem dX8_form_33 : decode cX8_form 33 = .ok (.invokestatic 93, 3) := by decide +kernel
theorem dX8_form_36 : decode cX8_form 36 = .ok (.ifCond .ne 5, 3) := by decide +kernel
theorem dX8_form_39 : decode cX8_form 39 = .ok (.iconst (-1), 1) := by decide +kernel
theorem dX8_form_40 : decode cX8_form 40 = .ok (.ireturn, 1) := by decide +kernel
theorem dX8_form_41 : decode cX8_form 41 = .ok (.iload_n 3, 1) := by decide +kernel
theorem dX8_form_42 : decode cX8_form 42 = .ok (.ifCond .ne 10, 3) := by decide +kernel
theorem dX8_form_45 : decode cX8_form 45 = .ok (.aload_n 0, 1) := by decide +kernel
theorem dX8_form_46 : decode cX8_form 46 = .ok (.getfield 47, 3) := by decide +kernel
theorem dX8_form_49 : decode cX8_form 49 = .ok (.iload_n 2, 1) := by decide +kernel
theorem dX8_form_50 : decode cX8_form 50 = .ok (.iaload, 1) := by decide +kernel
theorem dX8_form_51 : decode cX8_form 51 = .ok (.ireturn, 1) := by decide +kernel
theorem dX8_form_52 : decode cX8_form 52 = .ok (.iload_n 3, 1) := by decide +kernel
theorem dX8_form_53 : decode cX8_form 53 = .ok (.iconst 3, 1) := by decide +kernel
theorem dX8_form_54 : decode cX8_form 54 = .ok (.if_icmp .ge 18, 3) := by decide +kernel
theorem dX8_form_57 : decode cX8_form 57 = .ok (.aload_n 0, 1) := by decide +kernel
theorem dX8_form_58 : decode cX8_form 58 = .ok (.getfield 53, 3) := by decide +kernel
theorem dX8_form_61 : decode cX8_form 61 = .ok (.iconst 2, 1) := by decide +kernel
theorem dX8_form_62 : decode cX8_form 62 = .ok (.iload_n 2, 1) := by decide +kernel
theorem dX8_form_63 : decode cX8_form 63 = .ok (.imul, 1) := by decide +kernel
theorem dX8_form_64 : decode cX8_form 64 = .ok (.iload_n 3, 1) := by decide +kernel
theorem dX8_form_65 : decode cX8_form 65 = .ok (.iadd, 1) := by decide +kernel
theorem dX8_form_66 : decode cX8_form 66 = .ok (.iconst 1, 1) := by decide +kernel
theorem dX8_form_67 : decode cX8_form 67 = .ok (.isub, 1) := by decide +kernel
theorem dX8_form_68 : decode cX8_form 68 = .ok (.iaload, 1) := by decide +kernel
theorem dX8_form_69 : decode cX8_form 69 = .ok (.goto 31, 3) := by decide +kernel
theorem dX8_form_72 : decode cX8_form 72 = .ok (.iload_n 3, 1) := by decide +kernel
theorem dX8_form_73 : decode cX8_form 73 = .ok (.iconst 3, 1) := by decide +kernel
theorem dX8_form_74 : decode cX8_form 74 = .ok (.isub, 1) := by decide +kernel
theorem dX8_form_75 : decode cX8_form 75 = .ok (.aload_n 0, 1) := by decide +kernel
theorem dX8_form_76 : decode cX8_form 76 = .ok (.getfield 47, 3) := by decide +kernel
theorem dX8_form_79 : decode cX8_form 79 = .ok (.iload_n 2, 1) := by decide +kernel
theorem dX8_form_80 : decode cX8_form 80 = .ok (.iaload, 1) := by decide +kernel
theorem dX8_form_81 : decode cX8_form 81 = .ok (.if_icmp .ge 18, 3) := by decide +kernel
theorem dX8_form_84 : decode cX8_form 84 = .ok (.aload_n 0, 1) := by decide +kernel
theorem dX8_form_85 : decode cX8_form 85 = .ok (.getfield 50, 3) := by decide +kernel
theorem dX8_form_88 : decode cX8_form 88 = .ok (.iconst 4, 1) := by decide +kernel
theorem dX8_form_89 : decode cX8_form 89 = .ok (.iload_n 2, 1) := by decide +kernel
theorem dX8_form_90 : decode cX8_form 90 = .ok (.imul, 1) := by decide +kernel
theorem dX8_form_91 : decode cX8_form 91 = .ok (.iload_n 3, 1) := by decide +kernel
theorem dX8_form_92 : decode cX8_form 92 = .ok (.iadd, 1) := by decide +kernel
theorem dX8_form_93 : decode cX8_form 93 = .ok (.iconst 3, 1) := by decide +kernel
theorem dX8_form_94 : decode cX8_form 94 = .ok (.isub, 1) := by decide +kernel
theorem dX8_form_95 : decode cX8_form 95 = .ok (.iaload, 1) := by decide +kernel
theorem dX8_form_96 : decode cX8_form 96 = .ok (.goto 4, 3) := by decide +kernel
theorem dX8_form_99 : decode cX8_form 99 = .ok (.iconst (-1), 1) := by decide +kernel
theorem dX8_form_100 : decode cX8_form 100 = .ok (.ireturn, 1) := by decide +kernel
abbrev rm_c_Model_form_b : Room := { frames := 2, cells := 0, slots := 0, locals := 46 }
set_option maxHeartbeats 4000000 in
set_option maxRecDepth 100000 in
theorem c_Model_form_b (l : Launch) (dC : Nat → ClassId) (dI : Nat → Nat → Nat) (cI cL cQ cZ : ClassId) (x0 : Nat) (ax : Nat) (z1 : Nat) (z2 : Nat) (z3 : Nat) (fc : Nat) (z5 : Nat) (z6 : Nat) (z7 : Nat) (qs : Nat) (z9 : Nat) (z10 : Nat) (z11 : Nat) (z12 : Nat) (z13 : Nat) (hd : Option Nat) (lg : Bool) (fcn : Nat) (z17 : Nat) (z18 : Nat) (z19 : Nat) (md : Nat) (z21 : Nat) (z22 : Nat) (z23 : Nat) (z24 : Nat) (hc : Nat) (z26 : Nat) (z27 : Nat) (z28 : Nat) (z29 : Nat) (z30 : Nat) (z31 : Nat) (sm : Bool) (z33 : Nat) (z34 : Nat) (qn : Nat → Nat) (q : Int32) (ix : Int32) (wh : Int32) (hqs : qs ≤ 6) (hqn : ∀ j7, qn j7 ≤ 4) (hbad : m_in q (nI 0) (nI qs - nI 1) = false ∨ ∃ qi, q = nI qi ∧ qi < qs ∧ qn qi = 0) : Met l yX8_form wkX8_form rm_c_Model_form_b (q_R (dC, dI) qCl (qT cI cL cQ cZ) [(x0, .inr (8, mO ax z1 z2 z3 fc z5 z6 z7 qs z9 z10 z11 z12 z13 hd lg fcn z17 z18 z19 md z21 z22 z23 z24 hc z26 z27 z28 z29 z30 z31 sm z33 z34)), (z10, .inl (cI, 6, .inl (nF qn)))] [.ref x0, .int (q), .int (ix), .int (wh)]) (vp_Si (fun r => r = (oI (none)))) 0 0 (fun _ => False) := by
  refine Met.ofW (cc := cX8_form) (maxL := 5) (ret := (some .int)) (by decide) rfl ?_
  intro p e s m args below meth c s₁ B hml hv
  obtain ⟨hargs, hP, hK⟩ := hv
  have hx := B.exec
  have hb := B.bytes
  have hr := B.returns
  have hts : ∀ w ∈ qW, w.before args s = true := fun w h => atoms_spec (ws := wkX8_form) B.pre w (List.mem_cons_of_mem _ h)
  have hown : s.vm.findClass RX8 = some m.cls := findClass_of_methodNamed B.named
  have hlocks := B.notSynchronized
  refine q_named (fun Q hQ => ?_)
  refine q_entry hargs (Nat.le_of_ble_eq_true rfl) (fun ls hl => ?_)
  have hl : lv_has ls 5 [(0, .ref x0), (1, .int (q)), (2, .int (ix)), (3, .int (wh))] := hl
  refine lv_aload_n hx hb dX8_form_0 rfl (lv_at hl 0 rfl) ?_
  refine lv_iload_n hx hb dX8_form_1 rfl (lv_at hl 1 rfl) ?_
  refine vp_callSi (va_Run.run (va_runV (As := [.int (q)]) (rest := []) ⟨hx, hb, hml, hown, hts⟩ (c_Model_makeFor_b l dC dI cI cL cQ cZ x0 ax z1 z2 z3 fc z5 z6 z7 qs z9 z10 z11 z12 z13 hd lg fcn z17 z18 z19 md z21 z22 z23 z24 hc z26 z27 z28 z29 z30 z31 sm z33 z34 qn q (show qs ≤ 6 from by first | assumption | omega) (show ∀ j7, qn j7 ≤ 4 from by first | assumption | omega) (show m_in q (nI 0) (nI qs - nI 1) = false ∨ ∃ qi, q = nI qi ∧ qi < qs ∧ qn qi = 0 from by (exact hbad))) (q_cwV 1 hts gkX8_makeFor kmX8_196 knX8_makeFor klX8_makeFor kiX8 rfl rfl rfl (by decide +kernel) ⟨Nat.le_of_ble_eq_true rfl, Nat.le_of_ble_eq_true rfl⟩) (q_preV hK hP [0, 1] rfl 0 (ci := 8) (r := (RX8, TX8, 35)) rfl rfl) rfl rfl hl.1 rfl (lv_room (Nat.le_of_ble_eq_true rfl)) dX8_form_2 ⟨Nat.zero_le _, Nat.zero_le _⟩)) (fun r1 hr1 => ?_)
  subst hr1
  refine lv_istore (lv' := [(4, .int (oI (none))), (0, .ref x0), (1, .int (q)), (2, .int (ix)), (3, .int (wh))]) hx hb dX8_form_5 hl (by decide) rfl (fun ls hl => ?_)
  refine lv_iload hx hb dX8_form_7 (lv_at hl 0 rfl) ?_
  refine q_ifO_ge (x := none) (tgt := 15) hx hb dX8_form_9 (by decide) (by (intro k9 h9; cases h9)) (fun c9_2 => ?_) (fun c9_2 => ?_)
  · exact absurd rfl (by assumption)
  · refine lv_iload hx hb dX8_form_12 (lv_at hl 0 rfl) ?_
    subst hQ
    exact W.iret (v := (oI (none))) hx hb hr (fun t9 h9 _ => ⟨_, rfl, rfl, h9⟩) (fun q hq => by cases hq) dX8_form_14
