abbrev cX7_question : ByteArray := prog_1_method_5_code
def yX7_question : MethodName := ⟨RX7, "question", "(I)I"⟩
def wkX7_question : List Cond := .code yX7_question cX7_question 2 (some .int) :: qW
set_option maxRecDepth 40000 in
theorem gkX7_question : GoodIn qW wkX7_question := q_good (qw 337 rfl rfl)
set_option maxRecDepth 40000 in
theorem knX7_question : Cond.instanceMethod yX7_question ∈ qW := qw 335 rfl rfl
set_option maxRecDepth 40000 in
theorem klX7_question : Cond.selects RX7 yX7_question yX7_question ∈ qW := qw 336 rfl rfl
theorem dX7_question_0 : decode cX7_question 0 = .ok (.iload_n 1, 1) := by decide +kernel
theorem dX7_question_1 : decode cX7_question 1 = .ok (.iconst 3, 1) := by decide +kernel
theorem dX7_question_2 : decode cX7_question 2 = .ok (.invokestatic 92, 3) := by decide +kernel
theorem dX7_question_5 : decode cX7_question 5 = .ok (.ifCond .ne 5, 3) := by decide +kernel
theorem dX7_question_8 : decode cX7_question 8 = .ok (.iconst (-1), 1) := by decide +kernel
theorem dX7_question_9 : decode cX7_question 9 = .ok (.ireturn, 1) := by decide +kernel
theorem dX7_question_10 : decode cX7_question 10 = .ok (.aload_n 0, 1) := by decide +kernel
theorem dX7_question_11 : decode cX7_question 11 = .ok (.getfield 30, 3) := by decide +kernel
theorem dX7_question_14 : decode cX7_question 14 = .ok (.bipush 6, 2) := by decide +kernel
theorem dX7_question_16 : decode cX7_question 16 = .ok (.if_icmp .lt 6, 3) := by decide +kernel
theorem dX7_question_19 : decode cX7_question 19 = .ok (.bipush (-2), 2) := by decide +kernel
theorem dX7_question_21 : decode cX7_question 21 = .ok (.ireturn, 1) := by decide +kernel
theorem dX7_question_22 : decode cX7_question 22 = .ok (.aload_n 0, 1) := by decide +kernel
theorem dX7_question_23 : decode cX7_question 23 = .ok (.getfield 25, 3) := by decide +kernel
theorem dX7_question_26 : decode cX7_question 26 = .ok (.aload_n 0, 1) := by decide +kernel
theorem dX7_question_27 : decode cX7_question 27 = .ok (.getfield 30, 3) := by decide +kernel
theorem dX7_question_30 : decode cX7_question 30 = .ok (.aaload, 1) := by decide +kernel
theorem dX7_question_31 : decode cX7_question 31 = .ok (.iload_n 1, 1) := by decide +kernel
theorem dX7_question_32 : decode cX7_question 32 = .ok (.invokevirtual 96, 3) := by decide +kernel
theorem dX7_question_35 : decode cX7_question 35 = .ok (.aload_n 0, 1) := by decide +kernel
theorem dX7_question_36 : decode cX7_question 36 = .ok (.dup, 1) := by decide +kernel
theorem dX7_question_37 : decode cX7_question 37 = .ok (.getfield 30, 3) := by decide +kernel
theorem dX7_question_40 : decode cX7_question 40 = .ok (.iconst 1, 1) := by decide +kernel
theorem dX7_question_41 : decode cX7_question 41 = .ok (.iadd, 1) := by decide +kernel
theorem dX7_question_42 : decode cX7_question 42 = .ok (.putfield 30, 3) := by decide +kernel
theorem dX7_question_45 : decode cX7_question 45 = .ok (.aload_n 0, 1) := by decide +kernel
theorem dX7_question_46 : decode cX7_question 46 = .ok (.getfield 30, 3) := by decide +kernel
theorem dX7_question_49 : decode cX7_question 49 = .ok (.iconst 1, 1) := by decide +kernel
theorem dX7_question_50 : decode cX7_question 50 = .ok (.isub, 1) := by decide +kernel
theorem dX7_question_51 : decode cX7_question 51 = .ok (.ireturn, 1) := by decide +kernel
abbrev rm_c__question_n : Room := { frames := 1, cells := 0, slots := 0, locals := 21 }
set_option maxHeartbeats 4000000 in
set_option maxRecDepth 100000 in
theorem c__question_n (l : Launch) (dC : Nat → ClassId) (dI : Nat → Nat → Nat) (cI cL cQ cZ : ClassId) (x0 : Nat) (axm : Nat) (fct : Nat) (asd : Nat) (qs : Nat) (fbd : Nat) (rwr : Nat) (fnr : Nat) (brk : Int32) (bkn : Bool) (x : Int32) (hqs : qs ≤ 6) (hb9 : p_below x 3 = false ∨ qs = 6) : Met l yX7_question wkX7_question rm_c__question_n (q_R (dC, dI) qCl (qT cI cL cQ cZ) [(x0, .inr (7, [.ref axm, .ref fct, .ref asd, .int (nI (qs)), .ref fbd, .ref rwr, .ref fnr, .int (brk), .int (bI (bkn))]))] [.ref x0, .int (x)]) (vp_Si (fun r => (p_below x 3 = false ∧ r = -1) ∨ (p_below x 3 = true ∧ qs = 6 ∧ r = -2))) 0 0 (fun _ => False) := by
  refine Met.ofW (cc := cX7_question) (maxL := 2) (ret := (some .int)) (by decide) rfl ?_
  intro p e s m args below meth c s₁ B hml hv
  obtain ⟨hargs, hP, hK⟩ := hv
  have hx := B.exec
  have hb := B.bytes
  have hr := B.returns
  have hts : ∀ w ∈ qW, w.before args s = true := fun w h => atoms_spec (ws := wkX7_question) B.pre w (List.mem_cons_of_mem _ h)
  have hown : s.vm.findClass RX7 = some m.cls := findClass_of_methodNamed B.named
  have hlocks := B.notSynchronized
  refine q_named (fun Q hQ => ?_)
  refine q_entry hargs (Nat.le_of_ble_eq_true rfl) (fun ls hl => ?_)
  have hl : lv_has ls 2 [(0, .ref x0), (1, .int (x))] := hl
  refine lv_iload_n hx hb dX7_question_0 rfl (lv_at hl 1 rfl) ?_
  refine lv_iconst (v := (nI (3))) hx hb dX7_question_1 (by decide) ?_
  refine vp_callSi (va_Run.run (va_runS (As := [.int (x), .int (nI (3))]) (rest := []) ⟨hx, hb, hml, hown, hts⟩ (c__isBelow l dC dI cI cL cQ cZ x 3 ) (q_cwS 2 hts gkX7_isBelow kmX7_92 ksX7_isBelow kiX7 rfl rfl rfl (by decide +kernel) ⟨Nat.le_of_ble_eq_true rfl, Nat.le_of_ble_eq_true rfl⟩) (q_preS hK hP [] rfl) rfl rfl hl.1 rfl (lv_room (Nat.le_of_ble_eq_true rfl)) dX7_question_2 ⟨Nat.zero_le _, Nat.zero_le _⟩)) (fun r1 hr1 => ?_)
  subst hr1
  refine q_ifb_ne (b := p_below x 3) (tgt := 10) hx hb dX7_question_5 (by decide) (fun c5_2 => ?_) (fun c5_2 => ?_)
  · refine lv_aload_n hx hb dX7_question_10 rfl (lv_at hl 0 rfl) ?_
    refine va_get (D := (dC, dI)) (ci := 7) (v := .int (nI (qs))) (C := RX7) (T := TX7) (N := 9) hx hb hts uX7 hown hK hP 0 rfl rfl 3 (by decide) (hts _ kfX7_30) (fun _ h9 => h9) rfl dX7_question_11 ?_
    refine lv_bipush (v := (nI (6))) hx hb dX7_question_14 (by decide) ?_
    refine q_icmp_lt (x := qs) (y := 6) (tgt := 22) hx hb dX7_question_16 (by decide) (by omega) (by omega) (fun c16_3 => ?_) (fun c16_3 => ?_)
    · exact absurd (show qs < 6 by assumption) (by rcases hb9 with h9 | h9; exact b_no (by assumption) h9; omega)
    · refine lv_bipush (v := (-2)) hx hb dX7_question_19 (by decide) ?_
      subst hQ
      exact W.iret (v := (-2)) hx hb hr (fun t9 h9 _ => ⟨_, rfl, show (p_below x 3 = false ∧ (-2) = -1) ∨ (p_below x 3 = true ∧ qs = 6 ∧ (-2) = -2) from by (exact Or.inr ⟨by assumption, by omega, rfl⟩), h9⟩) (fun q hq => by cases hq) dX7_question_21
  · refine lv_iconst (v := (oI (none))) hx hb dX7_question_8 (by decide) ?_
    subst hQ
    exact W.iret (v := (oI (none))) hx hb hr (fun t9 h9 _ => ⟨_, rfl, show (p_below x 3 = false ∧ (oI (none)) = -1) ∨ (p_below x 3 = true ∧ qs = 6 ∧ (oI (none)) = -2) from by (exact Or.inl ⟨by assumption, rfl⟩), h9⟩) (fun q hq => by cases hq) dX7_question_9
