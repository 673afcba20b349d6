abbrev cX7_rewritten : ByteArray := prog_1_method_21_code
def yX7_rewritten : MethodName := ⟨RX7, "rewritten", "(I)I"⟩
def wkX7_rewritten : List Cond := .code yX7_rewritten cX7_rewritten 3 (some .int) :: qW
set_option maxRecDepth 40000 in
theorem gkX7_rewritten : GoodIn qW wkX7_rewritten := q_good (qw 369 rfl rfl)
set_option maxRecDepth 40000 in
theorem knX7_rewritten : Cond.instanceMethod yX7_rewritten ∈ qW := qw 368 rfl rfl
set_option maxRecDepth 40000 in
theorem klX7_rewritten : Cond.selects RX7 yX7_rewritten yX7_rewritten ∈ qW := qw 1 rfl rfl
theorem dX7_rewritten_0 : decode cX7_rewritten 0 = .ok (.iload_n 1, 1) := by decide +kernel
theorem dX7_rewritten_1 : decode cX7_rewritten 1 = .ok (.aload_n 0, 1) := by decide +kernel
theorem dX7_rewritten_2 : decode cX7_rewritten 2 = .ok (.getfield 30, 3) := by decide +kernel
theorem dX7_rewritten_5 : decode cX7_rewritten 5 = .ok (.invokestatic 92, 3) := by decide +kernel
theorem dX7_rewritten_8 : decode cX7_rewritten 8 = .ok (.ifCond .eq 18, 3) := by decide +kernel
theorem dX7_rewritten_11 : decode cX7_rewritten 11 = .ok (.aload_n 0, 1) := by decide +kernel
theorem dX7_rewritten_12 : decode cX7_rewritten 12 = .ok (.getfield 25, 3) := by decide +kernel
theorem dX7_rewritten_15 : decode cX7_rewritten 15 = .ok (.iload_n 1, 1) := by decide +kernel
theorem dX7_rewritten_16 : decode cX7_rewritten 16 = .ok (.aaload, 1) := by decide +kernel
theorem dX7_rewritten_17 : decode cX7_rewritten 17 = .ok (.getfield 108, 3) := by decide +kernel
theorem dX7_rewritten_20 : decode cX7_rewritten 20 = .ok (.getfield 117, 3) := by decide +kernel
theorem dX7_rewritten_23 : decode cX7_rewritten 23 = .ok (.ifCond .ne 5, 3) := by decide +kernel
theorem dX7_rewritten_26 : decode cX7_rewritten 26 = .ok (.iconst (-1), 1) := by decide +kernel
theorem dX7_rewritten_27 : decode cX7_rewritten 27 = .ok (.ireturn, 1) := by decide +kernel
theorem dX7_rewritten_28 : decode cX7_rewritten 28 = .ok (.aload_n 0, 1) := by decide +kernel
theorem dX7_rewritten_29 : decode cX7_rewritten 29 = .ok (.getfield 25, 3) := by decide +kernel
theorem dX7_rewritten_32 : decode cX7_rewritten 32 = .ok (.iload_n 1, 1) := by decide +kernel
theorem dX7_rewritten_33 : decode cX7_rewritten 33 = .ok (.aaload, 1) := by decide +kernel
theorem dX7_rewritten_34 : decode cX7_rewritten 34 = .ok (.astore_n 2, 1) := by decide +kernel
theorem dX7_rewritten_35 : decode cX7_rewritten 35 = .ok (.aload_n 2, 1) := by decide +kernel
theorem dX7_rewritten_36 : decode cX7_rewritten 36 = .ok (.getfield 74, 3) := by decide +kernel
theorem dX7_rewritten_39 : decode cX7_rewritten 39 = .ok (.ifCond .ne 11, 3) := by decide +kernel
theorem dX7_rewritten_42 : decode cX7_rewritten 42 = .ok (.aload_n 0, 1) := by decide +kernel
theorem dX7_rewritten_43 : decode cX7_rewritten 43 = .ok (.getfield 43, 3) := by decide +kernel
theorem dX7_rewritten_46 : decode cX7_rewritten 46 = .ok (.aload_n 2, 1) := by decide +kernel
theorem dX7_rewritten_47 : decode cX7_rewritten 47 = .ok (.invokevirtual 164, 3) := by decide +kernel
theorem dX7_rewritten_50 : decode cX7_rewritten 50 = .ok (.aload_n 2, 1) := by decide +kernel
theorem dX7_rewritten_51 : decode cX7_rewritten 51 = .ok (.getfield 168, 3) := by decide +kernel
theorem dX7_rewritten_54 : decode cX7_rewritten 54 = .ok (.ifCond .eq 8, 3) := by decide +kernel
theorem dX7_rewritten_57 : decode cX7_rewritten 57 = .ok (.bipush (-3), 2) := by decide +kernel
theorem dX7_rewritten_59 : decode cX7_rewritten 59 = .ok (.goto 7, 3) := by decide +kernel
theorem dX7_rewritten_62 : decode cX7_rewritten 62 = .ok (.aload_n 2, 1) := by decide +kernel
theorem dX7_rewritten_63 : decode cX7_rewritten 63 = .ok (.getfield 171, 3) := by decide +kernel
theorem dX7_rewritten_66 : decode cX7_rewritten 66 = .ok (.ireturn, 1) := by decide +kernel
abbrev rm_c__rewritten_n : Room := { frames := 1, cells := 0, slots := 0, locals := 21 }
set_option maxHeartbeats 4000000 in
set_option maxRecDepth 100000 in
theorem c__rewritten_n (l : Launch) (dC : Nat → ClassId) (dI : Nat → Nat → Nat) (cI cL cQ cZ : ClassId) (x0 : Nat) (axm : Nat) (fct : Nat) (asd : Nat) (qs : Nat) (fbd : Nat) (rwr : Nat) (fnr : Nat) (brk : Int32) (bkn : Bool) (q : Int32) (hqs : qs ≤ 6) (hbad : p_below q qs = false) : Met l yX7_rewritten wkX7_rewritten rm_c__rewritten_n (q_R (dC, dI) qCl (qT cI cL cQ cZ) [(x0, .inr (7, [.ref axm, .ref fct, .ref asd, .int (nI (qs)), .ref fbd, .ref rwr, .ref fnr, .int (brk), .int (bI (bkn))]))] [.ref x0, .int (q)]) (vp_Si (fun r => r = (oI (none)))) 0 0 (fun _ => False) := by
  refine Met.ofW (cc := cX7_rewritten) (maxL := 3) (ret := (some .int)) (by decide) rfl ?_
  intro p e s m args below meth c s₁ B hml hv
  obtain ⟨hargs, hP, hK⟩ := hv
  have hx := B.exec
  have hb := B.bytes
  have hr := B.returns
  have hts : ∀ w ∈ qW, w.before args s = true := fun w h => atoms_spec (ws := wkX7_rewritten) B.pre w (List.mem_cons_of_mem _ h)
  have hown : s.vm.findClass RX7 = some m.cls := findClass_of_methodNamed B.named
  have hlocks := B.notSynchronized
  refine q_named (fun Q hQ => ?_)
  refine q_entry hargs (Nat.le_of_ble_eq_true rfl) (fun ls hl => ?_)
  have hl : lv_has ls 3 [(0, .ref x0), (1, .int (q))] := hl
  refine lv_iload_n hx hb dX7_rewritten_0 rfl (lv_at hl 1 rfl) ?_
  refine lv_aload_n hx hb dX7_rewritten_1 rfl (lv_at hl 0 rfl) ?_
  refine va_get (D := (dC, dI)) (ci := 7) (v := .int (nI (qs))) (C := RX7) (T := TX7) (N := 9) hx hb hts uX7 hown hK hP 0 rfl rfl 3 (by decide) (hts _ kfX7_30) (fun _ h9 => h9) rfl dX7_rewritten_2 ?_
  refine vp_callSi (va_Run.run (va_runS (As := [.int (q), .int (nI (qs))]) (rest := []) ⟨hx, hb, hml, hown, hts⟩ (c__isBelow l dC dI cI cL cQ cZ q qs ) (q_cwS 2 hts gkX7_isBelow kmX7_92 ksX7_isBelow kiX7 rfl rfl rfl (by decide +kernel) ⟨Nat.le_of_ble_eq_true rfl, Nat.le_of_ble_eq_true rfl⟩) (q_preS hK hP [] rfl) rfl rfl hl.1 rfl (lv_room (Nat.le_of_ble_eq_true rfl)) dX7_rewritten_5 ⟨Nat.zero_le _, Nat.zero_le _⟩)) (fun r1 hr1 => ?_)
  subst hr1
  refine q_ifb_eq (b := p_below q qs) (tgt := 26) hx hb dX7_rewritten_8 (by decide) (fun c8_2 => ?_) (fun c8_2 => ?_)
  · refine lv_iconst (v := (oI (none))) hx hb dX7_rewritten_26 (by decide) ?_
    subst hQ
    exact W.iret (v := (oI (none))) hx hb hr (fun t9 h9 _ => ⟨_, rfl, rfl, h9⟩) (fun q hq => by cases hq) dX7_rewritten_27
  · exact b_no (by assumption) hbad
