abbrev cX7_atom : ByteArray := prog_1_method_6_code
def yX7_atom : MethodName := ⟨RX7, "atom", "(IZIII)I"⟩
def wkX7_atom : List Cond := .code yX7_atom cX7_atom 10 (some .int) :: qW
set_option maxRecDepth 40000 in
theorem gkX7_atom : GoodIn qW wkX7_atom := q_good (qw 345 rfl rfl)
set_option maxRecDepth 40000 in
theorem knX7_atom : Cond.instanceMethod yX7_atom ∈ qW := qw 343 rfl rfl
set_option maxRecDepth 40000 in
theorem klX7_atom : Cond.selects RX7 yX7_atom yX7_atom ∈ qW := qw 344 rfl rfl
theorem dX7_atom_0 : decode cX7_atom 0 = .ok (.iload_n 1, 1) := by decide +kernel
theorem dX7_atom_1 : decode cX7_atom 1 = .ok (.aload_n 0, 1) := by decide +kernel
theorem dX7_atom_2 : decode cX7_atom 2 = .ok (.getfield 30, 3) := by decide +kernel
theorem dX7_atom_5 : decode cX7_atom 5 = .ok (.invokestatic 92, 3) := by decide +kernel
theorem dX7_atom_8 : decode cX7_atom 8 = .ok (.ifCond .eq 11, 3) := by decide +kernel
theorem dX7_atom_11 : decode cX7_atom 11 = .ok (.iload_n 2, 1) := by decide +kernel
theorem dX7_atom_12 : decode cX7_atom 12 = .ok (.iload_n 3, 1) := by decide +kernel
theorem dX7_atom_13 : decode cX7_atom 13 = .ok (.invokestatic 100, 3) := by decide +kernel
theorem dX7_atom_16 : decode cX7_atom 16 = .ok (.ifCond .ne 5, 3) := by decide +kernel
theorem dX7_atom_19 : decode cX7_atom 19 = .ok (.iconst (-1), 1) := by decide +kernel
theorem dX7_atom_20 : decode cX7_atom 20 = .ok (.ireturn, 1) := by decide +kernel
theorem dX7_atom_21 : decode cX7_atom 21 = .ok (.iload 4, 2) := by decide +kernel
theorem dX7_atom_23 : decode cX7_atom 23 = .ok (.bipush 8, 2) := by decide +kernel
theorem dX7_atom_25 : decode cX7_atom 25 = .ok (.invokestatic 92, 3) := by decide +kernel
theorem dX7_atom_28 : decode cX7_atom 28 = .ok (.ifCond .eq 17, 3) := by decide +kernel
theorem dX7_atom_31 : decode cX7_atom 31 = .ok (.iload_n 2, 1) := by decide +kernel
theorem dX7_atom_32 : decode cX7_atom 32 = .ok (.ifCond .eq 15, 3) := by decide +kernel
theorem dX7_atom_35 : decode cX7_atom 35 = .ok (.iload 5, 2) := by decide +kernel
theorem dX7_atom_37 : decode cX7_atom 37 = .ok (.bipush 8, 2) := by decide +kernel
theorem dX7_atom_39 : decode cX7_atom 39 = .ok (.invokestatic 92, 3) := by decide +kernel
theorem dX7_atom_42 : decode cX7_atom 42 = .ok (.ifCond .ne 5, 3) := by decide +kernel
theorem dX7_atom_45 : decode cX7_atom 45 = .ok (.iconst (-1), 1) := by decide +kernel
theorem dX7_atom_46 : decode cX7_atom 46 = .ok (.ireturn, 1) := by decide +kernel
theorem dX7_atom_47 : decode cX7_atom 47 = .ok (.aload_n 0, 1) := by decide +kernel
theorem dX7_atom_48 : decode cX7_atom 48 = .ok (.getfield 25, 3) := by decide +kernel
theorem dX7_atom_51 : decode cX7_atom 51 = .ok (.iload_n 1, 1) := by decide +kernel
theorem dX7_atom_52 : decode cX7_atom 52 = .ok (.aaload, 1) := by decide +kernel
theorem dX7_atom_53 : decode cX7_atom 53 = .ok (.astore 6, 2) := by decide +kernel
theorem dX7_atom_55 : decode cX7_atom 55 = .ok (.iload_n 2, 1) := by decide +kernel
theorem dX7_atom_56 : decode cX7_atom 56 = .ok (.ifCond .eq 10, 3) := by decide +kernel
theorem dX7_atom_59 : decode cX7_atom 59 = .ok (.bipush 32, 2) := by decide +kernel
theorem dX7_atom_61 : decode cX7_atom 61 = .ok (.iload_n 3, 1) := by decide +kernel
theorem dX7_atom_62 : decode cX7_atom 62 = .ok (.iadd, 1) := by decide +kernel
theorem dX7_atom_63 : decode cX7_atom 63 = .ok (.goto 4, 3) := by decide +kernel
theorem dX7_atom_66 : decode cX7_atom 66 = .ok (.iload_n 3, 1) := by decide +kernel
theorem dX7_atom_67 : decode cX7_atom 67 = .ok (.istore 7, 2) := by decide +kernel
theorem dX7_atom_69 : decode cX7_atom 69 = .ok (.aload 6, 2) := by decide +kernel
theorem dX7_atom_71 : decode cX7_atom 71 = .ok (.iload 4, 2) := by decide +kernel
theorem dX7_atom_73 : decode cX7_atom 73 = .ok (.invokevirtual 104, 3) := by decide +kernel
theorem dX7_atom_76 : decode cX7_atom 76 = .ok (.istore 8, 2) := by decide +kernel
theorem dX7_atom_78 : decode cX7_atom 78 = .ok (.iload_n 2, 1) := by decide +kernel
theorem dX7_atom_79 : decode cX7_atom 79 = .ok (.ifCond .eq 13, 3) := by decide +kernel
theorem dX7_atom_82 : decode cX7_atom 82 = .ok (.aload 6, 2) := by decide +kernel
theorem dX7_atom_84 : decode cX7_atom 84 = .ok (.iload 5, 2) := by decide +kernel
theorem dX7_atom_86 : decode cX7_atom 86 = .ok (.invokevirtual 104, 3) := by decide +kernel
theorem dX7_atom_89 : decode cX7_atom 89 = .ok (.goto 5, 3) := by decide +kernel
theorem dX7_atom_92 : decode cX7_atom 92 = .ok (.bipush 7, 2) := by decide +kernel
theorem dX7_atom_94 : decode cX7_atom 94 = .ok (.istore 9, 2) := by decide +kernel
theorem dX7_atom_96 : decode cX7_atom 96 = .ok (.aload 6, 2) := by decide +kernel
theorem dX7_atom_98 : decode cX7_atom 98 = .ok (.getfield 108, 3) := by decide +kernel
theorem dX7_atom_101 : decode cX7_atom 101 = .ok (.iload 7, 2) := by decide +kernel
theorem dX7_atom_103 : decode cX7_atom 103 = .ok (.iload 8, 2) := by decide +kernel
theorem dX7_atom_105 : decode cX7_atom 105 = .ok (.iload 9, 2) := by decide +kernel
theorem dX7_atom_107 : decode cX7_atom 107 = .ok (.invokevirtual 112, 3) := by decide +kernel
theorem dX7_atom_110 : decode cX7_atom 110 = .ok (.ifCond .eq 12, 3) := by decide +kernel
theorem dX7_atom_113 : decode cX7_atom 113 = .ok (.aload 6, 2) := by decide +kernel
theorem dX7_atom_115 : decode cX7_atom 115 = .ok (.getfield 108, 3) := by decide +kernel
theorem dX7_atom_118 : decode cX7_atom 118 = .ok (.getfield 117, 3) := by decide +kernel
theorem dX7_atom_121 : decode cX7_atom 121 = .ok (.ireturn, 1) := by decide +kernel
theorem dX7_atom_122 : decode cX7_atom 122 = .ok (.aload 6, 2) := by decide +kernel
theorem dX7_atom_124 : decode cX7_atom 124 = .ok (.getfield 108, 3) := by decide +kernel
theorem dX7_atom_127 : decode cX7_atom 127 = .ok (.getfield 117, 3) := by decide +kernel
theorem dX7_atom_130 : decode cX7_atom 130 = .ok (.iconst 4, 1) := by decide +kernel
theorem dX7_atom_131 : decode cX7_atom 131 = .ok (.if_icmp .lt 6, 3) := by decide +kernel
theorem dX7_atom_134 : decode cX7_atom 134 = .ok (.bipush (-2), 2) := by decide +kernel
theorem dX7_atom_136 : decode cX7_atom 136 = .ok (.ireturn, 1) := by decide +kernel
theorem dX7_atom_137 : decode cX7_atom 137 = .ok (.aload 6, 2) := by decide +kernel
theorem dX7_atom_139 : decode cX7_atom 139 = .ok (.getfield 108, 3) := by decide +kernel
theorem dX7_atom_142 : decode cX7_atom 142 = .ok (.iload 7, 2) := by decide +kernel
theorem dX7_atom_144 : decode cX7_atom 144 = .ok (.iload 8, 2) := by decide +kernel
theorem dX7_atom_146 : decode cX7_atom 146 = .ok (.iload 9, 2) := by decide +kernel
theorem dX7_atom_148 : decode cX7_atom 148 = .ok (.invokevirtual 118, 3) := by decide +kernel
theorem dX7_atom_151 : decode cX7_atom 151 = .ok (.aload 6, 2) := by decide +kernel
theorem dX7_atom_153 : decode cX7_atom 153 = .ok (.iconst 0, 1) := by decide +kernel
theorem dX7_atom_154 : decode cX7_atom 154 = .ok (.putfield 74, 3) := by decide +kernel
theorem dX7_atom_157 : decode cX7_atom 157 = .ok (.aload 6, 2) := by decide +kernel
theorem dX7_atom_159 : decode cX7_atom 159 = .ok (.getfield 108, 3) := by decide +kernel
theorem dX7_atom_162 : decode cX7_atom 162 = .ok (.getfield 117, 3) := by decide +kernel
theorem dX7_atom_165 : decode cX7_atom 165 = .ok (.ireturn, 1) := by decide +kernel
abbrev rm_c__atom_n : Room := { frames := 2, cells := 0, slots := 0, locals := 42 }
set_option maxHeartbeats 4000000 in
set_option maxRecDepth 100000 in
theorem c__atom_n (l : Launch) (dC : Nat → ClassId) (dI : Nat → Nat → Nat) (cI cL cQ cZ : ClassId) (x0 : Nat) (axm : Nat) (fct : Nat) (asd : Nat) (qs : Nat) (fbd : Nat) (rwr : Nat) (fnr : Nat) (brk : Int32) (bkn : Bool) (q : Int32) (ro : Bool) (x : Int32) (a : Int32) (b : Int32) (hbad : p_atg qs q ro x a b = false) : Met l yX7_atom wkX7_atom rm_c__atom_n (q_R (dC, dI) qCl (qT cI cL cQ cZ) [(x0, .inr (7, [.ref axm, .ref fct, .ref asd, .int (nI (qs)), .ref fbd, .ref rwr, .ref fnr, .int (brk), .int (bI (bkn))]))] [.ref x0, .int (q), .int (bI (ro)), .int (x), .int (a), .int (b)]) (vp_Si (fun r => r = (oI (none)))) 0 0 (fun _ => False) := by
  refine Met.ofW (cc := cX7_atom) (maxL := 10) (ret := (some .int)) (by decide) rfl ?_
  intro p e s m args below meth c s₁ B hml hv
  obtain ⟨hargs, hP, hK⟩ := hv
  have hx := B.exec
  have hb := B.bytes
  have hr := B.returns
  have hts : ∀ w ∈ qW, w.before args s = true := fun w h => atoms_spec (ws := wkX7_atom) B.pre w (List.mem_cons_of_mem _ h)
  have hown : s.vm.findClass RX7 = some m.cls := findClass_of_methodNamed B.named
  have hlocks := B.notSynchronized
  refine q_named (fun Q hQ => ?_)
  refine q_entry hargs (Nat.le_of_ble_eq_true rfl) (fun ls hl => ?_)
  have hl : lv_has ls 10 [(0, .ref x0), (1, .int (q)), (2, .int (bI (ro))), (3, .int (x)), (4, .int (a)), (5, .int (b))] := hl
  refine lv_iload_n hx hb dX7_atom_0 rfl (lv_at hl 1 rfl) ?_
  refine lv_aload_n hx hb dX7_atom_1 rfl (lv_at hl 0 rfl) ?_
  refine va_get (D := (dC, dI)) (ci := 7) (v := .int (nI (qs))) (C := RX7) (T := TX7) (N := 9) hx hb hts uX7 hown hK hP 0 rfl rfl 3 (by decide) (hts _ kfX7_30) (fun _ h9 => h9) rfl dX7_atom_2 ?_
  refine vp_callSi (va_Run.run (va_runS (As := [.int (q), .int (nI (qs))]) (rest := []) ⟨hx, hb, hml, hown, hts⟩ (c__isBelow l dC dI cI cL cQ cZ q qs ) (q_cwS 2 hts gkX7_isBelow kmX7_92 ksX7_isBelow kiX7 rfl rfl rfl (by decide +kernel) ⟨Nat.le_of_ble_eq_true rfl, Nat.le_of_ble_eq_true rfl⟩) (q_preS hK hP [] rfl) rfl rfl hl.1 rfl (lv_room (Nat.le_of_ble_eq_true rfl)) dX7_atom_5 ⟨Nat.zero_le _, Nat.zero_le _⟩)) (fun r1 hr1 => ?_)
  subst hr1
  refine q_ifb_eq (b := p_below q qs) (tgt := 19) hx hb dX7_atom_8 (by decide) (fun c8_2 => ?_) (fun c8_2 => ?_)
  · refine lv_iconst (v := (oI (none))) hx hb dX7_atom_19 (by decide) ?_
    subst hQ
    exact W.iret (v := (oI (none))) hx hb hr (fun t9 h9 _ => ⟨_, rfl, rfl, h9⟩) (fun q hq => by cases hq) dX7_atom_20
  · refine lv_iload_n hx hb dX7_atom_11 rfl (lv_at hl 2 rfl) ?_
    refine lv_iload_n hx hb dX7_atom_12 rfl (lv_at hl 3 rfl) ?_
    refine vp_callSi (va_Run.run (va_runS (As := [.int (bI (ro)), .int (x)]) (rest := []) ⟨hx, hb, hml, hown, hts⟩ (c__isName l dC dI cI cL cQ cZ ro x ) (q_cwS 2 hts gkX7_isName kmX7_100 ksX7_isName kiX7 rfl rfl rfl (by decide +kernel) ⟨Nat.le_of_ble_eq_true rfl, Nat.le_of_ble_eq_true rfl⟩) (q_preS hK hP [] rfl) rfl rfl hl.1 rfl (lv_room (Nat.le_of_ble_eq_true rfl)) dX7_atom_13 ⟨Nat.zero_le _, Nat.zero_le _⟩)) (fun r3 hr3 => ?_)
    subst hr3
    refine q_ifb_ne (b := p_name ro x) (tgt := 21) hx hb dX7_atom_16 (by decide) (fun c16_4 => ?_) (fun c16_4 => ?_)
    · refine lv_iload hx hb dX7_atom_21 (lv_at hl 4 rfl) ?_
      refine lv_bipush (v := (nI (8))) hx hb dX7_atom_23 (by decide) ?_
      refine vp_callSi (va_Run.run (va_runS (As := [.int (a), .int (nI (8))]) (rest := []) ⟨hx, hb, hml, hown, hts⟩ (c__isBelow l dC dI cI cL cQ cZ a 8 ) (q_cwS 2 hts gkX7_isBelow kmX7_92 ksX7_isBelow kiX7 rfl rfl rfl (by decide +kernel) ⟨Nat.le_of_ble_eq_true rfl, Nat.le_of_ble_eq_true rfl⟩) (q_preS hK hP [] rfl) rfl rfl hl.1 rfl (lv_room (Nat.le_of_ble_eq_true rfl)) dX7_atom_25 ⟨Nat.zero_le _, Nat.zero_le _⟩)) (fun r5 hr5 => ?_)
      subst hr5
      refine q_ifb_eq (b := p_below a 8) (tgt := 45) hx hb dX7_atom_28 (by decide) (fun c28_6 => ?_) (fun c28_6 => ?_)
      · refine lv_iconst (v := (oI (none))) hx hb dX7_atom_45 (by decide) ?_
        subst hQ
        exact W.iret (v := (oI (none))) hx hb hr (fun t9 h9 _ => ⟨_, rfl, rfl, h9⟩) (fun q hq => by cases hq) dX7_atom_46
      · refine lv_iload_n hx hb dX7_atom_31 rfl (lv_at hl 2 rfl) ?_
        refine q_ifb_eq (b := ro) (tgt := 47) hx hb dX7_atom_32 (by decide) (fun c32_7 => ?_) (fun c32_7 => ?_)
        · exact absurd hbad (by simp_all [p_atg])
        · refine lv_iload hx hb dX7_atom_35 (lv_at hl 5 rfl) ?_
          refine lv_bipush (v := (nI (8))) hx hb dX7_atom_37 (by decide) ?_
          refine vp_callSi (va_Run.run (va_runS (As := [.int (b), .int (nI (8))]) (rest := []) ⟨hx, hb, hml, hown, hts⟩ (c__isBelow l dC dI cI cL cQ cZ b 8 ) (q_cwS 2 hts gkX7_isBelow kmX7_92 ksX7_isBelow kiX7 rfl rfl rfl (by decide +kernel) ⟨Nat.le_of_ble_eq_true rfl, Nat.le_of_ble_eq_true rfl⟩) (q_preS hK hP [] rfl) rfl rfl hl.1 rfl (lv_room (Nat.le_of_ble_eq_true rfl)) dX7_atom_39 ⟨Nat.zero_le _, Nat.zero_le _⟩)) (fun r8 hr8 => ?_)
          subst hr8
          refine q_ifb_ne (b := p_below b 8) (tgt := 47) hx hb dX7_atom_42 (by decide) (fun c42_9 => ?_) (fun c42_9 => ?_)
          · exact absurd hbad (by simp_all [p_atg])
          · refine lv_iconst (v := (oI (none))) hx hb dX7_atom_45 (by decide) ?_
            subst hQ
            exact W.iret (v := (oI (none))) hx hb hr (fun t9 h9 _ => ⟨_, rfl, rfl, h9⟩) (fun q hq => by cases hq) dX7_atom_46
    · refine lv_iconst (v := (oI (none))) hx hb dX7_atom_19 (by decide) ?_
      subst hQ
      exact W.iret (v := (oI (none))) hx hb hr (fun t9 h9 _ => ⟨_, rfl, rfl, h9⟩) (fun q hq => by cases hq) dX7_atom_20
