abbrev cX8_makeFor : ByteArray := prog_10_method_32_code
def yX8_makeFor : MethodName := ⟨RX8, "makeFor", "(I)I"⟩
def wkX8_makeFor : List Cond := .code yX8_makeFor cX8_makeFor 5 (some .int) :: qW
set_option maxRecDepth 40000 in
theorem gkX8_makeFor : GoodIn qW wkX8_makeFor := q_good (qw 717 rfl rfl)
set_option maxRecDepth 40000 in
theorem knX8_makeFor : Cond.instanceMethod yX8_makeFor ∈ qW := qw 716 rfl rfl
set_option maxRecDepth 40000 in
theorem klX8_makeFor : Cond.selects RX8 yX8_makeFor yX8_makeFor ∈ qW := qw 17 rfl rfl
theorem dX8_makeFor_0 : decode cX8_makeFor 0 = .ok (.iload_n 1, 1) := by decide +kernel
theorem dX8_makeFor_1 : decode cX8_makeFor 1 = .ok (.iconst 0, 1) := by decide +kernel
theorem dX8_makeFor_2 : decode cX8_makeFor 2 = .ok (.aload_n 0, 1) := by decide +kernel
theorem dX8_makeFor_3 : decode cX8_makeFor 3 = .ok (.getfield 115, 3) := by decide +kernel
theorem dX8_makeFor_6 : decode cX8_makeFor 6 = .ok (.iconst 1, 1) := by decide +kernel
theorem dX8_makeFor_7 : decode cX8_makeFor 7 = .ok (.isub, 1) := by decide +kernel
theorem dX8_makeFor_8 : decode cX8_makeFor 8 = .ok (.invokestatic 93, 3) := by decide +kernel
theorem dX8_makeFor_11 : decode cX8_makeFor 11 = .ok (.ifCond .eq 12, 3) := by decide +kernel
theorem dX8_makeFor_14 : decode cX8_makeFor 14 = .ok (.aload_n 0, 1) := by decide +kernel
theorem dX8_makeFor_15 : decode cX8_makeFor 15 = .ok (.getfield 31, 3) := by decide +kernel
theorem dX8_makeFor_18 : decode cX8_makeFor 18 = .ok (.iload_n 1, 1) := by decide +kernel
theorem dX8_makeFor_19 : decode cX8_makeFor 19 = .ok (.iaload, 1) := by decide +kernel
theorem dX8_makeFor_20 : decode cX8_makeFor 20 = .ok (.ifCond .ne 5, 3) := by decide +kernel
theorem dX8_makeFor_23 : decode cX8_makeFor 23 = .ok (.iconst (-1), 1) := by decide +kernel
theorem dX8_makeFor_24 : decode cX8_makeFor 24 = .ok (.ireturn, 1) := by decide +kernel
theorem dX8_makeFor_25 : decode cX8_makeFor 25 = .ok (.aload_n 0, 1) := by decide +kernel
theorem dX8_makeFor_26 : decode cX8_makeFor 26 = .ok (.getfield 43, 3) := by decide +kernel
theorem dX8_makeFor_29 : decode cX8_makeFor 29 = .ok (.iload_n 1, 1) := by decide +kernel
theorem dX8_makeFor_30 : decode cX8_makeFor 30 = .ok (.if_icmp .eq 164, 3) := by decide +kernel
theorem dX8_makeFor_33 : decode cX8_makeFor 33 = .ok (.aload_n 0, 1) := by decide +kernel
theorem dX8_makeFor_34 : decode cX8_makeFor 34 = .ok (.aload_n 0, 1) := by decide +kernel
theorem dX8_makeFor_35 : decode cX8_makeFor 35 = .ok (.getfield 28, 3) := by decide +kernel
theorem dX8_makeFor_38 : decode cX8_makeFor 38 = .ok (.iload_n 1, 1) := by decide +kernel
theorem dX8_makeFor_39 : decode cX8_makeFor 39 = .ok (.iaload, 1) := by decide +kernel
theorem dX8_makeFor_40 : decode cX8_makeFor 40 = .ok (.putfield 118, 3) := by decide +kernel
theorem dX8_makeFor_43 : decode cX8_makeFor 43 = .ok (.aload_n 0, 1) := by decide +kernel
theorem dX8_makeFor_44 : decode cX8_makeFor 44 = .ok (.getfield 65, 3) := by decide +kernel
theorem dX8_makeFor_47 : decode cX8_makeFor 47 = .ok (.iconst 0, 1) := by decide +kernel
theorem dX8_makeFor_48 : decode cX8_makeFor 48 = .ok (.iconst 0, 1) := by decide +kernel
theorem dX8_makeFor_49 : decode cX8_makeFor 49 = .ok (.iastore, 1) := by decide +kernel
theorem dX8_makeFor_50 : decode cX8_makeFor 50 = .ok (.aload_n 0, 1) := by decide +kernel
theorem dX8_makeFor_51 : decode cX8_makeFor 51 = .ok (.getfield 65, 3) := by decide +kernel
theorem dX8_makeFor_54 : decode cX8_makeFor 54 = .ok (.iconst 1, 1) := by decide +kernel
theorem dX8_makeFor_55 : decode cX8_makeFor 55 = .ok (.iconst 1, 1) := by decide +kernel
theorem dX8_makeFor_56 : decode cX8_makeFor 56 = .ok (.iastore, 1) := by decide +kernel
theorem dX8_makeFor_57 : decode cX8_makeFor 57 = .ok (.aload_n 0, 1) := by decide +kernel
theorem dX8_makeFor_58 : decode cX8_makeFor 58 = .ok (.aload_n 0, 1) := by decide +kernel
theorem dX8_makeFor_59 : decode cX8_makeFor 59 = .ok (.getfield 31, 3) := by decide +kernel
theorem dX8_makeFor_62 : decode cX8_makeFor 62 = .ok (.iload_n 1, 1) := by decide +kernel
theorem dX8_makeFor_63 : decode cX8_makeFor 63 = .ok (.iaload, 1) := by decide +kernel
theorem dX8_makeFor_64 : decode cX8_makeFor 64 = .ok (.putfield 121, 3) := by decide +kernel
theorem dX8_makeFor_67 : decode cX8_makeFor 67 = .ok (.iconst 0, 1) := by decide +kernel
theorem dX8_makeFor_68 : decode cX8_makeFor 68 = .ok (.istore_n 2, 1) := by decide +kernel
theorem dX8_makeFor_69 : decode cX8_makeFor 69 = .ok (.iload_n 2, 1) := by decide +kernel
theorem dX8_makeFor_70 : decode cX8_makeFor 70 = .ok (.aload_n 0, 1) := by decide +kernel
theorem dX8_makeFor_71 : decode cX8_makeFor 71 = .ok (.getfield 121, 3) := by decide +kernel
theorem dX8_makeFor_74 : decode cX8_makeFor 74 = .ok (.if_icmp .ge 111, 3) := by decide +kernel
theorem dX8_makeFor_77 : decode cX8_makeFor 77 = .ok (.aload_n 0, 1) := by decide +kernel
theorem dX8_makeFor_78 : decode cX8_makeFor 78 = .ok (.getfield 37, 3) := by decide +kernel
theorem dX8_makeFor_81 : decode cX8_makeFor 81 = .ok (.iconst 4, 1) := by decide +kernel
theorem dX8_makeFor_82 : decode cX8_makeFor 82 = .ok (.iload_n 1, 1) := by decide +kernel
theorem dX8_makeFor_83 : decode cX8_makeFor 83 = .ok (.imul, 1) := by decide +kernel
theorem dX8_makeFor_84 : decode cX8_makeFor 84 = .ok (.iload_n 2, 1) := by decide +kernel
theorem dX8_makeFor_85 : decode cX8_makeFor 85 = .ok (.iadd, 1) := by decide +kernel
theorem dX8_makeFor_86 : decode cX8_makeFor 86 = .ok (.iaload, 1) := by decide +kernel
theorem dX8_makeFor_87 : decode cX8_makeFor 87 = .ok (.istore_n 3, 1) := by decide +kernel
theorem dX8_makeFor_88 : decode cX8_makeFor 88 = .ok (.aload_n 0, 1) := by decide +kernel
theorem dX8_makeFor_89 : decode cX8_makeFor 89 = .ok (.getfield 40, 3) := by decide +kernel
theorem dX8_makeFor_92 : decode cX8_makeFor 92 = .ok (.iconst 4, 1) := by decide +kernel
theorem dX8_makeFor_93 : decode cX8_makeFor 93 = .ok (.iload_n 1, 1) := by decide +kernel
theorem dX8_makeFor_94 : decode cX8_makeFor 94 = .ok (.imul, 1) := by decide +kernel
theorem dX8_makeFor_95 : decode cX8_makeFor 95 = .ok (.iload_n 2, 1) := by decide +kernel
theorem dX8_makeFor_96 : decode cX8_makeFor 96 = .ok (.iadd, 1) := by decide +kernel
theorem dX8_makeFor_97 : decode cX8_makeFor 97 = .ok (.iaload, 1) := by decide +kernel
theorem dX8_makeFor_98 : decode cX8_makeFor 98 = .ok (.istore 4, 2) := by decide +kernel
theorem dX8_makeFor_100 : decode cX8_makeFor 100 = .ok (.aload_n 0, 1) := by decide +kernel
theorem dX8_makeFor_101 : decode cX8_makeFor 101 = .ok (.getfield 56, 3) := by decide +kernel
theorem dX8_makeFor_104 : decode cX8_makeFor 104 = .ok (.iload_n 2, 1) := by decide +kernel
theorem dX8_makeFor_105 : decode cX8_makeFor 105 = .ok (.aload_n 0, 1) := by decide +kernel
theorem dX8_makeFor_106 : decode cX8_makeFor 106 = .ok (.getfield 34, 3) := by decide +kernel
theorem dX8_makeFor_109 : decode cX8_makeFor 109 = .ok (.iconst 4, 1) := by decide +kernel
theorem dX8_makeFor_110 : decode cX8_makeFor 110 = .ok (.iload_n 1, 1) := by decide +kernel
theorem dX8_makeFor_111 : decode cX8_makeFor 111 = .ok (.imul, 1) := by decide +kernel
theorem dX8_makeFor_112 : decode cX8_makeFor 112 = .ok (.iload_n 2, 1) := by decide +kernel
theorem dX8_makeFor_113 : decode cX8_makeFor 113 = .ok (.iadd, 1) := by decide +kernel
theorem dX8_makeFor_114 : decode cX8_makeFor 114 = .ok (.iaload, 1) := by decide +kernel
theorem dX8_makeFor_115 : decode cX8_makeFor 115 = .ok (.iastore, 1) := by decide +kernel
theorem dX8_makeFor_116 : decode cX8_makeFor 116 = .ok (.aload_n 0, 1) := by decide +kernel
theorem dX8_makeFor_117 : decode cX8_makeFor 117 = .ok (.getfield 59, 3) := by decide +kernel
theorem dX8_makeFor_120 : decode cX8_makeFor 120 = .ok (.iload_n 2, 1) := by decide +kernel
theorem dX8_makeFor_121 : decode cX8_makeFor 121 = .ok (.iload_n 3, 1) := by decide +kernel
theorem dX8_makeFor_122 : decode cX8_makeFor 122 = .ok (.aload_n 0, 1) := by decide +kernel
theorem dX8_makeFor_123 : decode cX8_makeFor 123 = .ok (.getfield 118, 3) := by decide +kernel
theorem dX8_makeFor_126 : decode cX8_makeFor 126 = .ok (.if_icmp .ge 7, 3) := by decide +kernel
theorem dX8_makeFor_129 : decode cX8_makeFor 129 = .ok (.iload_n 3, 1) := by decide +kernel
theorem dX8_makeFor_130 : decode cX8_makeFor 130 = .ok (.goto 7, 3) := by decide +kernel
theorem dX8_makeFor_133 : decode cX8_makeFor 133 = .ok (.bipush 10, 2) := by decide +kernel
theorem dX8_makeFor_135 : decode cX8_makeFor 135 = .ok (.iload_n 3, 1) := by decide +kernel
theorem dX8_makeFor_136 : decode cX8_makeFor 136 = .ok (.iadd, 1) := by decide +kernel
theorem dX8_makeFor_137 : decode cX8_makeFor 137 = .ok (.iastore, 1) := by decide +kernel
theorem dX8_makeFor_138 : decode cX8_makeFor 138 = .ok (.aload_n 0, 1) := by decide +kernel
theorem dX8_makeFor_139 : decode cX8_makeFor 139 = .ok (.getfield 62, 3) := by decide +kernel
theorem dX8_makeFor_142 : decode cX8_makeFor 142 = .ok (.iload_n 2, 1) := by decide +kernel
theorem dX8_makeFor_143 : decode cX8_makeFor 143 = .ok (.aload_n 0, 1) := by decide +kernel
theorem dX8_makeFor_144 : decode cX8_makeFor 144 = .ok (.getfield 56, 3) := by decide +kernel
theorem dX8_makeFor_147 : decode cX8_makeFor 147 = .ok (.iload_n 2, 1) := by decide +kernel
theorem dX8_makeFor_148 : decode cX8_makeFor 148 = .ok (.iaload, 1) := by decide +kernel
theorem dX8_makeFor_149 : decode cX8_makeFor 149 = .ok (.bipush 32, 2) := by decide +kernel
theorem dX8_makeFor_151 : decode cX8_makeFor 151 = .ok (.if_icmp .ge 8, 3) := by decide +kernel
theorem dX8_makeFor_154 : decode cX8_makeFor 154 = .ok (.bipush 7, 2) := by decide +kernel
theorem dX8_makeFor_156 : decode cX8_makeFor 156 = .ok (.goto 22, 3) := by decide +kernel
theorem dX8_makeFor_159 : decode cX8_makeFor 159 = .ok (.iload 4, 2) := by decide +kernel
theorem dX8_makeFor_161 : decode cX8_makeFor 161 = .ok (.aload_n 0, 1) := by decide +kernel
theorem dX8_makeFor_162 : decode cX8_makeFor 162 = .ok (.getfield 118, 3) := by decide +kernel
theorem dX8_makeFor_165 : decode cX8_makeFor 165 = .ok (.if_icmp .ge 8, 3) := by decide +kernel
theorem dX8_makeFor_168 : decode cX8_makeFor 168 = .ok (.iload 4, 2) := by decide +kernel
theorem dX8_makeFor_170 : decode cX8_makeFor 170 = .ok (.goto 8, 3) := by decide +kernel
theorem dX8_makeFor_173 : decode cX8_makeFor 173 = .ok (.bipush 10, 2) := by decide +kernel
theorem dX8_makeFor_175 : decode cX8_makeFor 175 = .ok (.iload 4, 2) := by decide +kernel
theorem dX8_makeFor_177 : decode cX8_makeFor 177 = .ok (.iadd, 1) := by decide +kernel
theorem dX8_makeFor_178 : decode cX8_makeFor 178 = .ok (.iastore, 1) := by decide +kernel
theorem dX8_makeFor_179 : decode cX8_makeFor 179 = .ok (.iinc 2 1, 3) := by decide +kernel
theorem dX8_makeFor_182 : decode cX8_makeFor 182 = .ok (.goto (-113), 3) := by decide +kernel
theorem dX8_makeFor_185 : decode cX8_makeFor 185 = .ok (.aload_n 0, 1) := by decide +kernel
theorem dX8_makeFor_186 : decode cX8_makeFor 186 = .ok (.invokevirtual 193, 3) := by decide +kernel
theorem dX8_makeFor_189 : decode cX8_makeFor 189 = .ok (.aload_n 0, 1) := by decide +kernel
theorem dX8_makeFor_190 : decode cX8_makeFor 190 = .ok (.iload_n 1, 1) := by decide +kernel
theorem dX8_makeFor_191 : decode cX8_makeFor 191 = .ok (.putfield 43, 3) := by decide +kernel
theorem dX8_makeFor_194 : decode cX8_makeFor 194 = .ok (.aload_n 0, 1) := by decide +kernel
theorem dX8_makeFor_195 : decode cX8_makeFor 195 = .ok (.getfield 168, 3) := by decide +kernel
theorem dX8_makeFor_198 : decode cX8_makeFor 198 = .ok (.ifCond .eq 8, 3) := by decide +kernel
theorem dX8_makeFor_201 : decode cX8_makeFor 201 = .ok (.bipush (-3), 2) := by decide +kernel
theorem dX8_makeFor_203 : decode cX8_makeFor 203 = .ok (.goto 4, 3) := by decide +kernel
theorem dX8_makeFor_206 : decode cX8_makeFor 206 = .ok (.iconst 0, 1) := by decide +kernel
theorem dX8_makeFor_207 : decode cX8_makeFor 207 = .ok (.ireturn, 1) := by decide +kernel
abbrev rm_c_Model_makeFor_b : Room := { frames := 1, cells := 0, slots := 0, locals := 22 }
set_option maxHeartbeats 4000000 in
set_option maxRecDepth 100000 in
theorem c_Model_makeFor_b (l : Launch) (dC : Nat → ClassId) (dI : Nat → Nat → Nat) (cI cL cQ cZ : ClassId) (x0 : Nat) (ax : Nat) (z1 : Nat) (z2 : Nat) (z3 : Nat) (fc : Nat) (z5 : Nat) (z6 : Nat) (z7 : Nat) (qs : Nat) (z9 : Nat) (z10 : Nat) (z11 : Nat) (z12 : Nat) (z13 : Nat) (hd : Option Nat) (lg : Bool) (fcn : Nat) (z17 : Nat) (z18 : Nat) (z19 : Nat) (md : Nat) (z21 : Nat) (z22 : Nat) (z23 : Nat) (z24 : Nat) (hc : Nat) (z26 : Nat) (z27 : Nat) (z28 : Nat) (z29 : Nat) (z30 : Nat) (z31 : Nat) (sm : Bool) (z33 : Nat) (z34 : Nat) (qn : Nat → Nat) (q : Int32) (hqs : qs ≤ 6) (hqn : ∀ j7, qn j7 ≤ 4) (hbad : m_in q (nI 0) (nI qs - nI 1) = false ∨ ∃ qi, q = nI qi ∧ qi < qs ∧ qn qi = 0) : Met l yX8_makeFor wkX8_makeFor rm_c_Model_makeFor_b (q_R (dC, dI) qCl (qT cI cL cQ cZ) [(x0, .inr (8, mO ax z1 z2 z3 fc z5 z6 z7 qs z9 z10 z11 z12 z13 hd lg fcn z17 z18 z19 md z21 z22 z23 z24 hc z26 z27 z28 z29 z30 z31 sm z33 z34)), (z10, .inl (cI, 6, .inl (nF qn)))] [.ref x0, .int (q)]) (vp_Si (fun r => r = (oI (none)))) 0 0 (fun _ => False) := by
  refine Met.ofW (cc := cX8_makeFor) (maxL := 5) (ret := (some .int)) (by decide) rfl ?_
  intro p e s m args below meth c s₁ B hml hv
  obtain ⟨hargs, hP, hK⟩ := hv
  have hx := B.exec
  have hb := B.bytes
  have hr := B.returns
  have hts : ∀ w ∈ qW, w.before args s = true := fun w h => atoms_spec (ws := wkX8_makeFor) B.pre w (List.mem_cons_of_mem _ h)
  have hown : s.vm.findClass RX8 = some m.cls := findClass_of_methodNamed B.named
  have hlocks := B.notSynchronized
  refine q_named (fun Q hQ => ?_)
  refine q_entry hargs (Nat.le_of_ble_eq_true rfl) (fun ls hl => ?_)
  have hl : lv_has ls 5 [(0, .ref x0), (1, .int (q))] := hl
  refine lv_iload_n hx hb dX8_makeFor_0 rfl (lv_at hl 1 rfl) ?_
  refine lv_iconst (v := (nI (0))) hx hb dX8_makeFor_1 (by decide) ?_
  refine lv_aload_n hx hb dX8_makeFor_2 rfl (lv_at hl 0 rfl) ?_
  refine va_get (D := (dC, dI)) (ci := 8) (v := .int (nI (qs))) (C := RX8) (T := TX8) (N := 35) hx hb hts uX8 hown hK hP 0 rfl rfl 8 (by decide) (hts _ kfX8_115) (fun _ h9 => h9) rfl dX8_makeFor_3 ?_
  refine lv_iconst (v := (nI (1))) hx hb dX8_makeFor_6 (by decide) ?_
  refine lv_isub hx hb dX8_makeFor_7 ?_
  refine vp_callSi (va_Run.run (va_runS (As := [.int (q), .int (nI (0)), .int ((nI (qs)) - (nI (1)))]) (rest := []) ⟨hx, hb, hml, hown, hts⟩ (c_Model_isIn l dC dI cI cL cQ cZ q (nI (0)) ((nI (qs)) - (nI (1))) ) (q_cwS 3 hts gkX8_isIn kmX8_93 ksX8_isIn kiX8 rfl rfl rfl (by decide +kernel) ⟨Nat.le_of_ble_eq_true rfl, Nat.le_of_ble_eq_true rfl⟩) (q_preS hK hP [] rfl) rfl rfl hl.1 rfl (lv_room (Nat.le_of_ble_eq_true rfl)) dX8_makeFor_8 ⟨Nat.zero_le _, Nat.zero_le _⟩)) (fun r1 hr1 => ?_)
  subst hr1
  refine q_ifb_eq (b := m_in q (nI (0)) ((nI (qs)) - (nI (1)))) (tgt := 23) hx hb dX8_makeFor_11 (by decide) (fun c11_2 => ?_) (fun c11_2 => ?_)
  · refine lv_iconst (v := (oI (none))) hx hb dX8_makeFor_23 (by decide) ?_
    subst hQ
    exact W.iret (v := (oI (none))) hx hb hr (fun t9 h9 _ => ⟨_, rfl, rfl, h9⟩) (fun q hq => by cases hq) dX8_makeFor_24
  · obtain ⟨qi, eqi, hqi, hq0⟩ : ∃ qi, q = nI qi ∧ qi < qs ∧ qn qi = 0 := (by rcases hbad with h9 | h9; exact b_no (by assumption) h9; exact h9)
    have hl := lv_updv hl 1 rfl (show (.int (q) : Value) = .int (nI (qi)) from (congrArg Value.int eqi))
    have hl : lv_has ls 5 [(0, .ref x0), (1, .int (nI (qi)))] := hl
    refine lv_aload_n hx hb dX8_makeFor_14 rfl (lv_at hl 0 rfl) ?_
    refine va_get (D := (dC, dI)) (ci := 8) (v := .ref z10) (C := RX8) (T := TX8) (N := 35) hx hb hts uX8 hown hK hP 0 rfl rfl 10 (by decide) (hts _ kfX8_31) (fun _ h9 => h9) rfl dX8_makeFor_15 ?_
    refine lv_iload_n hx hb dX8_makeFor_18 rfl (lv_at hl 1 rfl) ?_
    refine q_ialdN hx hb hK hP 1 0 rfl rfl (j := qi) (by omega) (by omega) dX8_makeFor_19 ?_
    have bd3 := hqn qi
    refine q_if_ne (x := qn qi) (tgt := 25) hx hb dX8_makeFor_20 (by decide) (by omega) (fun c20_4 => ?_) (fun c20_4 => ?_)
    · (exfalso; omega)
    · refine lv_iconst (v := (oI (none))) hx hb dX8_makeFor_23 (by decide) ?_
      subst hQ
      exact W.iret (v := (oI (none))) hx hb hr (fun t9 h9 _ => ⟨_, rfl, rfl, h9⟩) (fun q hq => by cases hq) dX8_makeFor_24
