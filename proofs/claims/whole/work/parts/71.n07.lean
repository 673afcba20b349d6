abbrev cX7_form : ByteArray := prog_1_method_8_code
def yX7_form : MethodName := ⟨RX7, "form", "(III)I"⟩
def wkX7_form : List Cond := .code yX7_form cX7_form 8 (some .int) :: qW
set_option maxRecDepth 40000 in
theorem gkX7_form : GoodIn qW wkX7_form := q_good (qw 478 rfl rfl)
set_option maxRecDepth 40000 in
theorem knX7_form : Cond.instanceMethod yX7_form ∈ qW := qw 476 rfl rfl
set_option maxRecDepth 40000 in
theorem klX7_form : Cond.selects RX7 yX7_form yX7_form ∈ qW := qw 477 rfl rfl
theorem dX7_form_0 : decode cX7_form 0 = .ok (.aload_n 0, 1) := by decide +kernel
theorem dX7_form_1 : decode cX7_form 1 = .ok (.iload_n 1, 1) := by decide +kernel
theorem dX7_form_2 : decode cX7_form 2 = .ok (.invokevirtual 119, 3) := by decide +kernel
theorem dX7_form_5 : decode cX7_form 5 = .ok (.istore 4, 2) := by decide +kernel
theorem dX7_form_7 : decode cX7_form 7 = .ok (.iload 4, 2) := by decide +kernel
theorem dX7_form_9 : decode cX7_form 9 = .ok (.ifCond .ge 6, 3) := by decide +kernel
theorem dX7_form_12 : decode cX7_form 12 = .ok (.iload 4, 2) := by decide +kernel
theorem dX7_form_14 : decode cX7_form 14 = .ok (.ireturn, 1) := by decide +kernel
theorem dX7_form_15 : decode cX7_form 15 = .ok (.iload_n 2, 1) := by decide +kernel
theorem dX7_form_16 : decode cX7_form 16 = .ok (.iload 4, 2) := by decide +kernel
theorem dX7_form_18 : decode cX7_form 18 = .ok (.invokestatic 92, 3) := by decide +kernel
theorem dX7_form_21 : decode cX7_form 21 = .ok (.ifCond .ne 5, 3) := by decide +kernel
theorem dX7_form_24 : decode cX7_form 24 = .ok (.iconst (-1), 1) := by decide +kernel
theorem dX7_form_25 : decode cX7_form 25 = .ok (.ireturn, 1) := by decide +kernel
theorem dX7_form_26 : decode cX7_form 26 = .ok (.aload_n 0, 1) := by decide +kernel
theorem dX7_form_27 : decode cX7_form 27 = .ok (.getfield 25, 3) := by decide +kernel
theorem dX7_form_30 : decode cX7_form 30 = .ok (.iload_n 1, 1) := by decide +kernel
theorem dX7_form_31 : decode cX7_form 31 = .ok (.aaload, 1) := by decide +kernel
theorem dX7_form_32 : decode cX7_form 32 = .ok (.astore 5, 2) := by decide +kernel
theorem dX7_form_34 : decode cX7_form 34 = .ok (.aload 5, 2) := by decide +kernel
theorem dX7_form_36 : decode cX7_form 36 = .ok (.getfield 121, 3) := by decide +kernel
theorem dX7_form_39 : decode cX7_form 39 = .ok (.iload_n 2, 1) := by decide +kernel
theorem dX7_form_40 : decode cX7_form 40 = .ok (.laload, 1) := by decide +kernel
theorem dX7_form_41 : decode cX7_form 41 = .ok (.lstore 6, 2) := by decide +kernel
theorem dX7_form_43 : decode cX7_form 43 = .ok (.iload_n 3, 1) := by decide +kernel
theorem dX7_form_44 : decode cX7_form 44 = .ok (.ifCond .ne 9, 3) := by decide +kernel
theorem dX7_form_47 : decode cX7_form 47 = .ok (.lload 6, 2) := by decide +kernel
theorem dX7_form_49 : decode cX7_form 49 = .ok (.invokestatic 125, 3) := by decide +kernel
theorem dX7_form_52 : decode cX7_form 52 = .ok (.ireturn, 1) := by decide +kernel
theorem dX7_form_53 : decode cX7_form 53 = .ok (.iload_n 3, 1) := by decide +kernel
theorem dX7_form_54 : decode cX7_form 54 = .ok (.iconst 1, 1) := by decide +kernel
theorem dX7_form_55 : decode cX7_form 55 = .ok (.if_icmp .ne 18, 3) := by decide +kernel
theorem dX7_form_58 : decode cX7_form 58 = .ok (.aload 5, 2) := by decide +kernel
theorem dX7_form_60 : decode cX7_form 60 = .ok (.getfield 129, 3) := by decide +kernel
theorem dX7_form_63 : decode cX7_form 63 = .ok (.iconst 1, 1) := by decide +kernel
theorem dX7_form_64 : decode cX7_form 64 = .ok (.if_icmp .lt 7, 3) := by decide +kernel
theorem dX7_form_67 : decode cX7_form 67 = .ok (.iconst 0, 1) := by decide +kernel
theorem dX7_form_68 : decode cX7_form 68 = .ok (.goto 4, 3) := by decide +kernel
theorem dX7_form_71 : decode cX7_form 71 = .ok (.iconst (-1), 1) := by decide +kernel
theorem dX7_form_72 : decode cX7_form 72 = .ok (.ireturn, 1) := by decide +kernel
theorem dX7_form_73 : decode cX7_form 73 = .ok (.iload_n 3, 1) := by decide +kernel
theorem dX7_form_74 : decode cX7_form 74 = .ok (.iconst 2, 1) := by decide +kernel
theorem dX7_form_75 : decode cX7_form 75 = .ok (.if_icmp .ne 30, 3) := by decide +kernel
theorem dX7_form_78 : decode cX7_form 78 = .ok (.aload 5, 2) := by decide +kernel
theorem dX7_form_80 : decode cX7_form 80 = .ok (.getfield 129, 3) := by decide +kernel
theorem dX7_form_83 : decode cX7_form 83 = .ok (.iconst 2, 1) := by decide +kernel
theorem dX7_form_84 : decode cX7_form 84 = .ok (.if_icmp .ge 7, 3) := by decide +kernel
theorem dX7_form_87 : decode cX7_form 87 = .ok (.iconst (-1), 1) := by decide +kernel
theorem dX7_form_88 : decode cX7_form 88 = .ok (.goto 16, 3) := by decide +kernel
theorem dX7_form_91 : decode cX7_form 91 = .ok (.lload 6, 2) := by decide +kernel
theorem dX7_form_93 : decode cX7_form 93 = .ok (.invokestatic 132, 3) := by decide +kernel
theorem dX7_form_96 : decode cX7_form 96 = .ok (.ifCond .eq 7, 3) := by decide +kernel
theorem dX7_form_99 : decode cX7_form 99 = .ok (.iconst 0, 1) := by decide +kernel
theorem dX7_form_100 : decode cX7_form 100 = .ok (.goto 4, 3) := by decide +kernel
theorem dX7_form_103 : decode cX7_form 103 = .ok (.iconst 1, 1) := by decide +kernel
theorem dX7_form_104 : decode cX7_form 104 = .ok (.ireturn, 1) := by decide +kernel
theorem dX7_form_105 : decode cX7_form 105 = .ok (.iload_n 3, 1) := by decide +kernel
theorem dX7_form_106 : decode cX7_form 106 = .ok (.iconst 3, 1) := by decide +kernel
theorem dX7_form_107 : decode cX7_form 107 = .ok (.if_icmp .lt 14, 3) := by decide +kernel
theorem dX7_form_110 : decode cX7_form 110 = .ok (.iload_n 3, 1) := by decide +kernel
theorem dX7_form_111 : decode cX7_form 111 = .ok (.iconst 3, 1) := by decide +kernel
theorem dX7_form_112 : decode cX7_form 112 = .ok (.lload 6, 2) := by decide +kernel
theorem dX7_form_114 : decode cX7_form 114 = .ok (.invokestatic 125, 3) := by decide +kernel
theorem dX7_form_117 : decode cX7_form 117 = .ok (.iadd, 1) := by decide +kernel
theorem dX7_form_118 : decode cX7_form 118 = .ok (.if_icmp .lt 5, 3) := by decide +kernel
theorem dX7_form_121 : decode cX7_form 121 = .ok (.iconst (-1), 1) := by decide +kernel
theorem dX7_form_122 : decode cX7_form 122 = .ok (.ireturn, 1) := by decide +kernel
theorem dX7_form_123 : decode cX7_form 123 = .ok (.lload 6, 2) := by decide +kernel
theorem dX7_form_125 : decode cX7_form 125 = .ok (.iload_n 3, 1) := by decide +kernel
theorem dX7_form_126 : decode cX7_form 126 = .ok (.iconst 3, 1) := by decide +kernel
theorem dX7_form_127 : decode cX7_form 127 = .ok (.isub, 1) := by decide +kernel
theorem dX7_form_128 : decode cX7_form 128 = .ok (.invokestatic 136, 3) := by decide +kernel
theorem dX7_form_131 : decode cX7_form 131 = .ok (.ireturn, 1) := by decide +kernel
abbrev rm_c__form_n : Room := { frames := 2, cells := 0, slots := 0, locals := 43 }
set_option maxHeartbeats 4000000 in
set_option maxRecDepth 100000 in
theorem c__form_n (l : Launch) (dC : Nat → ClassId) (dI : Nat → Nat → Nat) (cI cL cQ cZ : ClassId) (x0 : Nat) (axm : Nat) (fct : Nat) (asd : Nat) (qs : Nat) (fbd : Nat) (rwr : Nat) (fnr : Nat) (brk : Int32) (bkn : Bool) (q : Int32) (ix : Int32) (wh : Int32) (hqs : qs ≤ 6) (hbad : p_below q qs = false) : Met l yX7_form wkX7_form rm_c__form_n (q_R (dC, dI) qCl (qT cI cL cQ cZ) [(x0, .inr (7, [.ref axm, .ref fct, .ref asd, .int (nI (qs)), .ref fbd, .ref rwr, .ref fnr, .int (brk), .int (bI (bkn))]))] [.ref x0, .int (q), .int (ix), .int (wh)]) (vp_Si (fun r => r = (oI (none)))) 0 0 (fun _ => False) := by
  refine Met.ofW (cc := cX7_form) (maxL := 8) (ret := (some .int)) (by decide) rfl ?_
  intro p e s m args below meth c s₁ B hml hv
  obtain ⟨hargs, hP, hK⟩ := hv
  have hx := B.exec
  have hb := B.bytes
  have hr := B.returns
  have hts : ∀ w ∈ qW, w.before args s = true := fun w h => atoms_spec (ws := wkX7_form) B.pre w (List.mem_cons_of_mem _ h)
  have hown : s.vm.findClass RX7 = some m.cls := findClass_of_methodNamed B.named
  have hlocks := B.notSynchronized
  refine q_named (fun Q hQ => ?_)
  refine q_entry hargs (Nat.le_of_ble_eq_true rfl) (fun ls hl => ?_)
  have hl : lv_has ls 8 [(0, .ref x0), (1, .int (q)), (2, .int (ix)), (3, .int (wh))] := hl
  refine lv_aload_n hx hb dX7_form_0 rfl (lv_at hl 0 rfl) ?_
  refine lv_iload_n hx hb dX7_form_1 rfl (lv_at hl 1 rfl) ?_
  refine vp_callSi (va_Run.run (va_runV (As := [.int (q)]) (rest := []) ⟨hx, hb, hml, hown, hts⟩ (c__rewritten_n l dC dI cI cL cQ cZ x0 axm fct asd qs fbd rwr fnr brk bkn q (show qs ≤ 6 from by first | assumption | omega) (show p_below q qs = false from by first | assumption | omega)) (q_cwV 1 hts gkX7_rewritten kmX7_119 knX7_rewritten klX7_rewritten kiX7 rfl rfl rfl (by decide +kernel) ⟨Nat.le_of_ble_eq_true rfl, Nat.le_of_ble_eq_true rfl⟩) (q_preV hK hP [0] rfl 0 (ci := 7) (r := (RX7, TX7, 9)) rfl rfl) rfl rfl hl.1 rfl (lv_room (Nat.le_of_ble_eq_true rfl)) dX7_form_2 ⟨Nat.zero_le _, Nat.zero_le _⟩)) (fun r1 hr1 => ?_)
  subst hr1
  refine lv_istore (lv' := [(4, .int (oI (none))), (0, .ref x0), (1, .int (q)), (2, .int (ix)), (3, .int (wh))]) hx hb dX7_form_5 hl (by decide) rfl (fun ls hl => ?_)
  refine lv_iload hx hb dX7_form_7 (lv_at hl 0 rfl) ?_
  refine q_ifO_ge (x := none) (tgt := 15) hx hb dX7_form_9 (by decide) (by (intro k9 h9; cases h9)) (fun c9_2 => ?_) (fun c9_2 => ?_)
  · exact absurd rfl (by assumption)
  · refine lv_iload hx hb dX7_form_12 (lv_at hl 0 rfl) ?_
    subst hQ
    exact W.iret (v := (oI (none))) hx hb hr (fun t9 h9 _ => ⟨_, rfl, rfl, h9⟩) (fun q hq => by cases hq) dX7_form_14
