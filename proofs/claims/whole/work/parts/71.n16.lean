abbrev cX7_why : ByteArray := prog_1_method_11_code
def yX7_why : MethodName := ⟨RX7, "why", "(II)I"⟩
def wkX7_why : List Cond := .code yX7_why cX7_why 4 (some .int) :: qW
set_option maxRecDepth 40000 in
theorem gkX7_why : GoodIn qW wkX7_why := q_good (qw 539 rfl rfl)
set_option maxRecDepth 40000 in
theorem knX7_why : Cond.instanceMethod yX7_why ∈ qW := qw 537 rfl rfl
set_option maxRecDepth 40000 in
theorem klX7_why : Cond.selects RX7 yX7_why yX7_why ∈ qW := qw 538 rfl rfl
theorem dX7_why_0 : decode cX7_why 0 = .ok (.aload_n 0, 1) := by decide +kernel
theorem dX7_why_1 : decode cX7_why 1 = .ok (.iload_n 1, 1) := by decide +kernel
theorem dX7_why_2 : decode cX7_why 2 = .ok (.invokevirtual 119, 3) := by decide +kernel
theorem dX7_why_5 : decode cX7_why 5 = .ok (.istore_n 3, 1) := by decide +kernel
theorem dX7_why_6 : decode cX7_why 6 = .ok (.iload_n 3, 1) := by decide +kernel
theorem dX7_why_7 : decode cX7_why 7 = .ok (.ifCond .ge 5, 3) := by decide +kernel
theorem dX7_why_10 : decode cX7_why 10 = .ok (.iload_n 3, 1) := by decide +kernel
theorem dX7_why_11 : decode cX7_why 11 = .ok (.ireturn, 1) := by decide +kernel
theorem dX7_why_12 : decode cX7_why 12 = .ok (.iload_n 2, 1) := by decide +kernel
theorem dX7_why_13 : decode cX7_why 13 = .ok (.sipush 192, 3) := by decide +kernel
theorem dX7_why_16 : decode cX7_why 16 = .ok (.invokestatic 92, 3) := by decide +kernel
theorem dX7_why_19 : decode cX7_why 19 = .ok (.ifCond .eq 16, 3) := by decide +kernel
theorem dX7_why_22 : decode cX7_why 22 = .ok (.aload_n 0, 1) := by decide +kernel
theorem dX7_why_23 : decode cX7_why 23 = .ok (.iload_n 1, 1) := by decide +kernel
theorem dX7_why_24 : decode cX7_why 24 = .ok (.invokevirtual 140, 3) := by decide +kernel
theorem dX7_why_27 : decode cX7_why 27 = .ok (.getfield 151, 3) := by decide +kernel
theorem dX7_why_30 : decode cX7_why 30 = .ok (.iload_n 2, 1) := by decide +kernel
theorem dX7_why_31 : decode cX7_why 31 = .ok (.iaload, 1) := by decide +kernel
theorem dX7_why_32 : decode cX7_why 32 = .ok (.goto 4, 3) := by decide +kernel
theorem dX7_why_35 : decode cX7_why 35 = .ok (.iconst (-1), 1) := by decide +kernel
theorem dX7_why_36 : decode cX7_why 36 = .ok (.ireturn, 1) := by decide +kernel
abbrev rm_c__why_n : Room := { frames := 2, cells := 0, slots := 0, locals := 43 }
set_option maxHeartbeats 4000000 in
set_option maxRecDepth 100000 in
theorem c__why_n (l : Launch) (dC : Nat → ClassId) (dI : Nat → Nat → Nat) (cI cL cQ cZ : ClassId) (x0 : Nat) (axm : Nat) (fct : Nat) (asd : Nat) (qs : Nat) (fbd : Nat) (rwr : Nat) (fnr : Nat) (brk : Int32) (bkn : Bool) (q : Int32) (x : Int32) (hqs : qs ≤ 6) (hbad : p_below q qs = false) : Met l yX7_why wkX7_why rm_c__why_n (q_R (dC, dI) qCl (qT cI cL cQ cZ) [(x0, .inr (7, [.ref axm, .ref fct, .ref asd, .int (nI (qs)), .ref fbd, .ref rwr, .ref fnr, .int (brk), .int (bI (bkn))]))] [.ref x0, .int (q), .int (x)]) (vp_Si (fun r => r = (oI (none)))) 0 0 (fun _ => False) := by
  refine Met.ofW (cc := cX7_why) (maxL := 4) (ret := (some .int)) (by decide) rfl ?_
  intro p e s m args below meth c s₁ B hml hv
  obtain ⟨hargs, hP, hK⟩ := hv
  have hx := B.exec
  have hb := B.bytes
  have hr := B.returns
  have hts : ∀ w ∈ qW, w.before args s = true := fun w h => atoms_spec (ws := wkX7_why) B.pre w (List.mem_cons_of_mem _ h)
  have hown : s.vm.findClass RX7 = some m.cls := findClass_of_methodNamed B.named
  have hlocks := B.notSynchronized
  refine q_named (fun Q hQ => ?_)
  refine q_entry hargs (Nat.le_of_ble_eq_true rfl) (fun ls hl => ?_)
  have hl : lv_has ls 4 [(0, .ref x0), (1, .int (q)), (2, .int (x))] := hl
  refine lv_aload_n hx hb dX7_why_0 rfl (lv_at hl 0 rfl) ?_
  refine lv_iload_n hx hb dX7_why_1 rfl (lv_at hl 1 rfl) ?_
  refine vp_callSi (va_Run.run (va_runV (As := [.int (q)]) (rest := []) ⟨hx, hb, hml, hown, hts⟩ (c__rewritten_n l dC dI cI cL cQ cZ x0 axm fct asd qs fbd rwr fnr brk bkn q (show qs ≤ 6 from by first | assumption | omega) (show p_below q qs = false from by first | assumption | omega)) (q_cwV 1 hts gkX7_rewritten kmX7_119 knX7_rewritten klX7_rewritten kiX7 rfl rfl rfl (by decide +kernel) ⟨Nat.le_of_ble_eq_true rfl, Nat.le_of_ble_eq_true rfl⟩) (q_preV hK hP [0] rfl 0 (ci := 7) (r := (RX7, TX7, 9)) rfl rfl) rfl rfl hl.1 rfl (lv_room (Nat.le_of_ble_eq_true rfl)) dX7_why_2 ⟨Nat.zero_le _, Nat.zero_le _⟩)) (fun r1 hr1 => ?_)
  subst hr1
  refine lv_istore_n (lv' := [(3, .int (oI (none))), (0, .ref x0), (1, .int (q)), (2, .int (x))]) hx hb dX7_why_5 rfl hl (by decide) rfl (fun ls hl => ?_)
  refine lv_iload_n hx hb dX7_why_6 rfl (lv_at hl 0 rfl) ?_
  refine q_ifO_ge (x := none) (tgt := 12) hx hb dX7_why_7 (by decide) (by (intro k9 h9; cases h9)) (fun c7_2 => ?_) (fun c7_2 => ?_)
  · exact absurd rfl (by assumption)
  · refine lv_iload_n hx hb dX7_why_10 rfl (lv_at hl 0 rfl) ?_
    subst hQ
    exact W.iret (v := (oI (none))) hx hb hr (fun t9 h9 _ => ⟨_, rfl, rfl, h9⟩) (fun q hq => by cases hq) dX7_why_11
