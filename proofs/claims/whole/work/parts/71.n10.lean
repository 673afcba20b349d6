abbrev cX7_run : ByteArray := prog_1_method_9_code
def yX7_run : MethodName := ⟨RX7, "run", "(I)I"⟩
def wkX7_run : List Cond := .code yX7_run cX7_run 3 (some .int) :: qW
set_option maxRecDepth 40000 in
theorem gkX7_run : GoodIn qW wkX7_run := q_good (qw 485 rfl rfl)
set_option maxRecDepth 40000 in
theorem knX7_run : Cond.instanceMethod yX7_run ∈ qW := qw 483 rfl rfl
set_option maxRecDepth 40000 in
theorem klX7_run : Cond.selects RX7 yX7_run yX7_run ∈ qW := qw 484 rfl rfl
theorem dX7_run_0 : decode cX7_run 0 = .ok (.aload_n 0, 1) := by decide +kernel
theorem dX7_run_1 : decode cX7_run 1 = .ok (.iload_n 1, 1) := by decide +kernel
theorem dX7_run_2 : decode cX7_run 2 = .ok (.invokevirtual 119, 3) := by decide +kernel
theorem dX7_run_5 : decode cX7_run 5 = .ok (.istore_n 2, 1) := by decide +kernel
theorem dX7_run_6 : decode cX7_run 6 = .ok (.iload_n 2, 1) := by decide +kernel
theorem dX7_run_7 : decode cX7_run 7 = .ok (.ifCond .ge 7, 3) := by decide +kernel
theorem dX7_run_10 : decode cX7_run 10 = .ok (.iload_n 2, 1) := by decide +kernel
theorem dX7_run_11 : decode cX7_run 11 = .ok (.goto 11, 3) := by decide +kernel
theorem dX7_run_14 : decode cX7_run 14 = .ok (.aload_n 0, 1) := by decide +kernel
theorem dX7_run_15 : decode cX7_run 15 = .ok (.iload_n 1, 1) := by decide +kernel
theorem dX7_run_16 : decode cX7_run 16 = .ok (.invokevirtual 140, 3) := by decide +kernel
theorem dX7_run_19 : decode cX7_run 19 = .ok (.invokevirtual 144, 3) := by decide +kernel
theorem dX7_run_22 : decode cX7_run 22 = .ok (.ireturn, 1) := by decide +kernel
abbrev rm_c__run_n : Room := { frames := 2, cells := 0, slots := 0, locals := 43 }
set_option maxHeartbeats 4000000 in
set_option maxRecDepth 100000 in
theorem c__run_n (l : Launch) (dC : Nat → ClassId) (dI : Nat → Nat → Nat) (cI cL cQ cZ : ClassId) (x0 : Nat) (axm : Nat) (fct : Nat) (asd : Nat) (qs : Nat) (fbd : Nat) (rwr : Nat) (fnr : Nat) (brk : Int32) (bkn : Bool) (q : Int32) (hqs : qs ≤ 6) (hbad : p_below q qs = false) : Met l yX7_run wkX7_run rm_c__run_n (q_R (dC, dI) qCl (qT cI cL cQ cZ) [(x0, .inr (7, [.ref axm, .ref fct, .ref asd, .int (nI (qs)), .ref fbd, .ref rwr, .ref fnr, .int (brk), .int (bI (bkn))]))] [.ref x0, .int (q)]) (vp_Si (fun r => r = (oI (none)))) 0 0 (fun _ => False) := by
  refine Met.ofW (cc := cX7_run) (maxL := 3) (ret := (some .int)) (by decide) rfl ?_
  intro p e s m args below meth c s₁ B hml hv
  obtain ⟨hargs, hP, hK⟩ := hv
  have hx := B.exec
  have hb := B.bytes
  have hr := B.returns
  have hts : ∀ w ∈ qW, w.before args s = true := fun w h => atoms_spec (ws := wkX7_run) B.pre w (List.mem_cons_of_mem _ h)
  have hown : s.vm.findClass RX7 = some m.cls := findClass_of_methodNamed B.named
  have hlocks := B.notSynchronized
  refine q_named (fun Q hQ => ?_)
  refine q_entry hargs (Nat.le_of_ble_eq_true rfl) (fun ls hl => ?_)
  have hl : lv_has ls 3 [(0, .ref x0), (1, .int (q))] := hl
  refine lv_aload_n hx hb dX7_run_0 rfl (lv_at hl 0 rfl) ?_
  refine lv_iload_n hx hb dX7_run_1 rfl (lv_at hl 1 rfl) ?_
  refine vp_callSi (va_Run.run (va_runV (As := [.int (q)]) (rest := []) ⟨hx, hb, hml, hown, hts⟩ (c__rewritten_n l dC dI cI cL cQ cZ x0 axm fct asd qs fbd rwr fnr brk bkn q (show qs ≤ 6 from by first | assumption | omega) (show p_below q qs = false from by first | assumption | omega)) (q_cwV 1 hts gkX7_rewritten kmX7_119 knX7_rewritten klX7_rewritten kiX7 rfl rfl rfl (by decide +kernel) ⟨Nat.le_of_ble_eq_true rfl, Nat.le_of_ble_eq_true rfl⟩) (q_preV hK hP [0] rfl 0 (ci := 7) (r := (RX7, TX7, 9)) rfl rfl) rfl rfl hl.1 rfl (lv_room (Nat.le_of_ble_eq_true rfl)) dX7_run_2 ⟨Nat.zero_le _, Nat.zero_le _⟩)) (fun r1 hr1 => ?_)
  subst hr1
  refine lv_istore_n (lv' := [(2, .int (oI (none))), (0, .ref x0), (1, .int (q))]) hx hb dX7_run_5 rfl hl (by decide) rfl (fun ls hl => ?_)
  refine lv_iload_n hx hb dX7_run_6 rfl (lv_at hl 0 rfl) ?_
  refine q_ifO_ge (x := none) (tgt := 14) hx hb dX7_run_7 (by decide) (by (intro k9 h9; cases h9)) (fun c7_2 => ?_) (fun c7_2 => ?_)
  · exact absurd rfl (by assumption)
  · refine lv_iload_n hx hb dX7_run_10 rfl (lv_at hl 0 rfl) ?_
    refine lv_goto (tgt := 22) hx hb dX7_run_11 (by decide) ?_
    subst hQ
    exact W.iret (v := (oI (none))) hx hb hr (fun t9 h9 _ => ⟨_, rfl, rfl, h9⟩) (fun q hq => by cases hq) dX7_run_22
