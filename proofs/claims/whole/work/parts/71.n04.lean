abbrev cX7_forms : ByteArray := prog_1_method_7_code
def yX7_forms : MethodName := ⟨RX7, "forms", "(I)I"⟩
def wkX7_forms : List Cond := .code yX7_forms cX7_forms 2 (some .int) :: qW
set_option maxRecDepth 40000 in
theorem gkX7_forms : GoodIn qW wkX7_forms := q_good (qw 365 rfl rfl)
set_option maxRecDepth 40000 in
theorem knX7_forms : Cond.instanceMethod yX7_forms ∈ qW := qw 363 rfl rfl
set_option maxRecDepth 40000 in
theorem klX7_forms : Cond.selects RX7 yX7_forms yX7_forms ∈ qW := qw 364 rfl rfl
theorem dX7_forms_0 : decode cX7_forms 0 = .ok (.aload_n 0, 1) := by decide +kernel
theorem dX7_forms_1 : decode cX7_forms 1 = .ok (.iload_n 1, 1) := by decide +kernel
theorem dX7_forms_2 : decode cX7_forms 2 = .ok (.invokevirtual 119, 3) := by decide +kernel
theorem dX7_forms_5 : decode cX7_forms 5 = .ok (.ireturn, 1) := by decide +kernel
set_option maxRecDepth 40000 in
theorem kmX7_119 : Cond.methodLink RX7 119 yX7_rewritten ∈ qW := qw 366 rfl rfl
abbrev rm_c__forms_n : Room := { frames := 2, cells := 0, slots := 0, locals := 43 }
set_option maxHeartbeats 4000000 in
set_option maxRecDepth 100000 in
theorem c__forms_n (l : Launch) (dC : Nat → ClassId) (dI : Nat → Nat → Nat) (cI cL cQ cZ : ClassId) (x0 : Nat) (axm : Nat) (fct : Nat) (asd : Nat) (qs : Nat) (fbd : Nat) (rwr : Nat) (fnr : Nat) (brk : Int32) (bkn : Bool) (q : Int32) (hqs : qs ≤ 6) (hbad : p_below q qs = false) : Met l yX7_forms wkX7_forms rm_c__forms_n (q_R (dC, dI) qCl (qT cI cL cQ cZ) [(x0, .inr (7, [.ref axm, .ref fct, .ref asd, .int (nI (qs)), .ref fbd, .ref rwr, .ref fnr, .int (brk), .int (bI (bkn))]))] [.ref x0, .int (q)]) (vp_Si (fun r => r = (oI (none)))) 0 0 (fun _ => False) := by
  refine Met.ofW (cc := cX7_forms) (maxL := 2) (ret := (some .int)) (by decide) rfl ?_
  intro p e s m args below meth c s₁ B hml hv
  obtain ⟨hargs, hP, hK⟩ := hv
  have hx := B.exec
  have hb := B.bytes
  have hr := B.returns
  have hts : ∀ w ∈ qW, w.before args s = true := fun w h => atoms_spec (ws := wkX7_forms) B.pre w (List.mem_cons_of_mem _ h)
  have hown : s.vm.findClass RX7 = some m.cls := findClass_of_methodNamed B.named
  have hlocks := B.notSynchronized
  refine q_named (fun Q hQ => ?_)
  refine q_entry hargs (Nat.le_of_ble_eq_true rfl) (fun ls hl => ?_)
  have hl : lv_has ls 2 [(0, .ref x0), (1, .int (q))] := hl
  refine lv_aload_n hx hb dX7_forms_0 rfl (lv_at hl 0 rfl) ?_
  refine lv_iload_n hx hb dX7_forms_1 rfl (lv_at hl 1 rfl) ?_
  refine vp_callSi (va_Run.run (va_runV (As := [.int (q)]) (rest := []) ⟨hx, hb, hml, hown, hts⟩ (c__rewritten_n l dC dI cI cL cQ cZ x0 axm fct asd qs fbd rwr fnr brk bkn q (show qs ≤ 6 from by first | assumption | omega) (show p_below q qs = false from by first | assumption | omega)) (q_cwV 1 hts gkX7_rewritten kmX7_119 knX7_rewritten klX7_rewritten kiX7 rfl rfl rfl (by decide +kernel) ⟨Nat.le_of_ble_eq_true rfl, Nat.le_of_ble_eq_true rfl⟩) (q_preV hK hP [0] rfl 0 (ci := 7) (r := (RX7, TX7, 9)) rfl rfl) rfl rfl hl.1 rfl (lv_room (Nat.le_of_ble_eq_true rfl)) dX7_forms_2 ⟨Nat.zero_le _, Nat.zero_le _⟩)) (fun r1 hr1 => ?_)
  subst hr1
  subst hQ
  exact W.iret (v := (oI (none))) hx hb hr (fun t9 h9 _ => ⟨_, rfl, rfl, h9⟩) (fun q hq => by cases hq) dX7_forms_5
