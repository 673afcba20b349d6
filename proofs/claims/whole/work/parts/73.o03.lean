set_option maxRecDepth 40000 in
theorem kmX7_96 : Cond.methodLink RX7 96 yX5_begin ∈ qW := qw 338 rfl rfl
abbrev rm_c__question_1 : Room := { frames := 1, cells := 0, slots := 0, locals := 21 }
set_option maxHeartbeats 4000000 in
set_option maxRecDepth 100000 in
theorem c__question_1 (l : Launch) (dC : Nat → ClassId) (dI : Nat → Nat → Nat) (cI cL cQ cZ : ClassId) (x0 : Nat) (axm : Nat) (fct : Nat) (asd : Nat) (qs : Nat) (fbd : Nat) (rwr : Nat) (fnr : Nat) (brk : Int32) (bkn : Bool) (qad : Nat → Nat) (ow : Nat) (an : Nat) (ra : Nat) (sz : Nat) (lg : Bool) (rw9 : Bool) (fa : Nat) (se : Bool) (oa : Nat) (ob : Nat) (on : Nat) (oj : Bool) (v : Nat) (hqs : qs < 6) (hv : v < 3) : Met l yX7_question wkX7_question rm_c__question_1 (q_W (dC, dI) qCl (qT cI cL cQ cZ) [(x0, .inr (7, [.ref axm, .ref fct, .ref asd, .int (nI (qs)), .ref fbd, .ref rwr, .ref fnr, .int (brk), .int (bI (bkn))])), (asd, .inl (cQ, 6, .inr (.inr (.inr (.inr (aF qad)))))), (qad qs, .inr (5, [.ref ow, .int (nI (an)), .ref ra, .int (nI (sz)), .int (bI (lg)), .int (bI (rw9)), .ref fa, .int (bI (se))])), (ow, .inr (3, [.ref oa, .ref ob, .int (nI (on)), .int (bI (oj))]))] [.ref x0, .int (nI (v))]) (va_Qi (fun (r : Int32) (u : Unit) => (r = (nI (qs)))) (fun (u : Unit) t => va_P (dC, dI) qCl [(x0, .inr (7, [.ref axm, .ref fct, .ref asd, .int (nI (qs + 1)), .ref fbd, .ref rwr, .ref fnr, .int (brk), .int (bI (bkn))])), (asd, .inl (cQ, 6, .inr (.inr (.inr (.inr (aF qad)))))), (qad qs, .inr (5, [.ref ow, .int (nI (v)), .ref ra, .int (nI (sz)), .int (bI (lg)), .int (bI (false)), .ref fa, .int (bI (se))])), (ow, .inr (3, [.ref oa, .ref ob, .int (nI (0)), .int (bI (oj))]))] t.heap) (q_A [(x0, .inr (7, [.ref axm, .ref fct, .ref asd, .int (nI (qs)), .ref fbd, .ref rwr, .ref fnr, .int (brk), .int (bI (bkn))])), (asd, .inl (cQ, 6, .inr (.inr (.inr (.inr (aF qad)))))), (qad qs, .inr (5, [.ref ow, .int (nI (an)), .ref ra, .int (nI (sz)), .int (bI (lg)), .int (bI (rw9)), .ref fa, .int (bI (se))])), (ow, .inr (3, [.ref oa, .ref ob, .int (nI (on)), .int (bI (oj))]))])) 0 0 (q_A [(x0, .inr (7, [.ref axm, .ref fct, .ref asd, .int (nI (qs)), .ref fbd, .ref rwr, .ref fnr, .int (brk), .int (bI (bkn))])), (asd, .inl (cQ, 6, .inr (.inr (.inr (.inr (aF qad)))))), (qad qs, .inr (5, [.ref ow, .int (nI (an)), .ref ra, .int (nI (sz)), .int (bI (lg)), .int (bI (rw9)), .ref fa, .int (bI (se))])), (ow, .inr (3, [.ref oa, .ref ob, .int (nI (on)), .int (bI (oj))]))]) := by
  refine Met.ofW (cc := cX7_question) (maxL := 2) (ret := (some .int)) (by decide) rfl ?_
  intro p e s m args below meth c s₁ B hml hv
  obtain ⟨hargs, hP, hK, hD0⟩ := hv
  have hx := B.exec
  have hb := B.bytes
  have hr := B.returns
  have hts : ∀ w ∈ qW, w.before args s = true := fun w h => atoms_spec (ws := wkX7_question) B.pre w (List.mem_cons_of_mem _ h)
  have hown : s.vm.findClass RX7 = some m.cls := findClass_of_methodNamed B.named
  have hlocks := B.notSynchronized
  refine q_named (fun Q hQ => ?_)
  have hD : va_D (q_A [(x0, .inr (7, [.ref axm, .ref fct, .ref asd, .int (nI (qs)), .ref fbd, .ref rwr, .ref fnr, .int (brk), .int (bI (bkn))])), (asd, .inl (cQ, 6, .inr (.inr (.inr (.inr (aF qad)))))), (qad qs, .inr (5, [.ref ow, .int (nI (an)), .ref ra, .int (nI (sz)), .int (bI (lg)), .int (bI (rw9)), .ref fa, .int (bI (se))])), (ow, .inr (3, [.ref oa, .ref ob, .int (nI (on)), .int (bI (oj))]))]) [(x0, .inr (7, [.ref axm, .ref fct, .ref asd, .int (nI (qs)), .ref fbd, .ref rwr, .ref fnr, .int (brk), .int (bI (bkn))])), (asd, .inl (cQ, 6, .inr (.inr (.inr (.inr (aF qad)))))), (qad qs, .inr (5, [.ref ow, .int (nI (an)), .ref ra, .int (nI (sz)), .int (bI (lg)), .int (bI (rw9)), .ref fa, .int (bI (se))])), (ow, .inr (3, [.ref oa, .ref ob, .int (nI (on)), .int (bI (oj))]))] := ⟨hD0.1, fun k q h => ⟨k, q.2, h⟩⟩
  generalize hAe : q_A [(x0, .inr (7, [.ref axm, .ref fct, .ref asd, .int (nI (qs)), .ref fbd, .ref rwr, .ref fnr, .int (brk), .int (bI (bkn))])), (asd, .inl (cQ, 6, .inr (.inr (.inr (.inr (aF qad)))))), (qad qs, .inr (5, [.ref ow, .int (nI (an)), .ref ra, .int (nI (sz)), .int (bI (lg)), .int (bI (rw9)), .ref fa, .int (bI (se))])), (ow, .inr (3, [.ref oa, .ref ob, .int (nI (on)), .int (bI (oj))]))] = A at hD
  have hS : va_S A s.heap s.heap [] := va_S.rf
  refine q_entry hargs (Nat.le_of_ble_eq_true rfl) (fun ls hl => ?_)
  have hl : lv_has ls 2 [(0, .ref x0), (1, .int (nI (v)))] := hl
  obtain ⟨H, locs, eH, eL⟩ : ∃ (H : Heap) (locs : List Loc), s.heap = H ∧ ([] : List Loc) = locs := ⟨_, _, rfl, rfl⟩
  have hS : va_S A s.heap H locs := by rw [← eH, ← eL]; exact hS
  have hP : va_P (dC, dI) qCl [(x0, .inr (7, [.ref axm, .ref fct, .ref asd, .int (nI (qs)), .ref fbd, .ref rwr, .ref fnr, .int (brk), .int (bI (bkn))])), (asd, .inl (cQ, 6, .inr (.inr (.inr (.inr (aF qad)))))), (qad qs, .inr (5, [.ref ow, .int (nI (an)), .ref ra, .int (nI (sz)), .int (bI (lg)), .int (bI (rw9)), .ref fa, .int (bI (se))])), (ow, .inr (3, [.ref oa, .ref ob, .int (nI (on)), .int (bI (oj))]))] H := by rw [← eH]; exact hP
  refine W_at eH eL ?_
  refine lv_iload_n hx hb dX7_question_0 rfl (lv_at hl 1 rfl) ?_
  refine lv_iconst (v := (nI (3))) hx hb dX7_question_1 (by decide) ?_
  refine vp_callSi (va_Run.run (va_runS (As := [.int (nI (v)), .int (nI (3))]) (rest := []) ⟨hx, hb, hml, hown, hts⟩ (c__isBelow l dC dI cI cL cQ cZ (nI (v)) 3 ) (q_cwS 2 hts gkX7_isBelow kmX7_92 ksX7_isBelow kiX7 rfl rfl rfl (by decide +kernel) ⟨Nat.le_of_ble_eq_true rfl, Nat.le_of_ble_eq_true rfl⟩) (q_preS hK hP [] rfl) rfl rfl hl.1 rfl (lv_room (Nat.le_of_ble_eq_true rfl)) dX7_question_2 ⟨Nat.zero_le _, Nat.zero_le _⟩)) (fun r1 hr1 => ?_)
  subst hr1
  refine q_ifb_ne (b := p_below (nI (v)) 3) (tgt := 10) hx hb dX7_question_5 (by decide) (fun c5_2 => ?_) (fun c5_2 => ?_)
  · refine lv_aload_n hx hb dX7_question_10 rfl (lv_at hl 0 rfl) ?_
    refine va_get (D := (dC, dI)) (ci := 7) (v := .int (nI (qs))) (C := RX7) (T := TX7) (N := 9) hx hb hts uX7 hown hK hP 0 rfl rfl 3 (by decide) (hts _ kfX7_30) (fun _ h9 => h9) rfl dX7_question_11 ?_
    refine lv_bipush (v := (nI (6))) hx hb dX7_question_14 (by decide) ?_
    refine q_icmp_lt (x := qs) (y := 6) (tgt := 22) hx hb dX7_question_16 (by decide) (by omega) (by omega) (fun c16_3 => ?_) (fun c16_3 => ?_)
    · refine lv_aload_n hx hb dX7_question_22 rfl (lv_at hl 0 rfl) ?_
      refine va_get (D := (dC, dI)) (ci := 7) (v := .ref asd) (C := RX7) (T := TX7) (N := 9) hx hb hts uX7 hown hK hP 0 rfl rfl 2 (by decide) (hts _ kfX7_25) (fun _ h9 => h9) rfl dX7_question_23 ?_
      refine lv_aload_n hx hb dX7_question_26 rfl (lv_at hl 0 rfl) ?_
      refine va_get (D := (dC, dI)) (ci := 7) (v := .int (nI (qs))) (C := RX7) (T := TX7) (N := 9) hx hb hts uX7 hown hK hP 0 rfl rfl 3 (by decide) (hts _ kfX7_30) (fun _ h9 => h9) rfl dX7_question_27 ?_
      refine q_aald hx hb hK hP 1 2 rfl rfl (j := qs) (by omega) (by omega) dX7_question_30 ?_
      refine lv_iload_n hx hb dX7_question_31 rfl (lv_at hl 1 rfl) ?_
      refine q_joinv (wr := [(x0, .inr (7, [.ref axm, .ref fct, .ref asd, .int (nI (qs)), .ref fbd, .ref rwr, .ref fnr, .int (brk), .int (bI (bkn))])), (asd, .inl (cQ, 6, .inr (.inr (.inr (.inr (aF qad))))))]) (va_runV (As := [.int (nI (v))]) (rest := []) ⟨hx, hb, hml, hown, hts⟩ (c_Question_begin l dC dI cI cL cQ cZ (qad qs) ow an ra sz lg rw9 fa se oa ob on oj v ) (q_cwV 1 hts gkX5_begin kmX7_96 knX5_begin klX5_begin kiX5 rfl rfl rfl (by decide +kernel) ⟨Nat.le_of_ble_eq_true rfl, Nat.le_of_ble_eq_true rfl⟩) (q_preVW hK hP hD [2, 3] rfl (by decide) 2 (ci := 5) (r := (RX5, TX5, 8)) rfl rfl) rfl rfl hl.1 rfl (lv_room (Nat.le_of_ble_eq_true rfl)) dX7_question_32 ⟨Nat.zero_le _, Nat.zero_le _⟩) hP hD hS [2, 3] [0, 1] rfl rfl (by decide) (fun _ => rfl) (fun _ H locs hq5 hP hD hS => ?_)
      have hP : va_P (dC, dI) qCl [(x0, .inr (7, [.ref axm, .ref fct, .ref asd, .int (nI (qs)), .ref fbd, .ref rwr, .ref fnr, .int (brk), .int (bI (bkn))])), (asd, .inl (cQ, 6, .inr (.inr (.inr (.inr (aF qad)))))), (qad qs, .inr (5, [.ref ow, .int (nI (v)), .ref ra, .int (nI (sz)), .int (bI (lg)), .int (bI (false)), .ref fa, .int (bI (se))])), (ow, .inr (3, [.ref oa, .ref ob, .int (nI (0)), .int (bI (oj))]))] H := hP
      have hD : va_D A [(x0, .inr (7, [.ref axm, .ref fct, .ref asd, .int (nI (qs)), .ref fbd, .ref rwr, .ref fnr, .int (brk), .int (bI (bkn))])), (asd, .inl (cQ, 6, .inr (.inr (.inr (.inr (aF qad)))))), (qad qs, .inr (5, [.ref ow, .int (nI (v)), .ref ra, .int (nI (sz)), .int (bI (lg)), .int (bI (false)), .ref fa, .int (bI (se))])), (ow, .inr (3, [.ref oa, .ref ob, .int (nI (0)), .int (bI (oj))]))] := hD
      refine lv_aload_n hx hb dX7_question_35 rfl (lv_at hl 0 rfl) ?_
      refine lv_dup hx hb dX7_question_36 rfl ?_
      refine va_get (D := (dC, dI)) (ci := 7) (v := .int (nI (qs))) (C := RX7) (T := TX7) (N := 9) hx hb hts uX7 hown hK hP 0 rfl rfl 3 (by decide) (hts _ kfX7_30) (fun _ h9 => h9) rfl dX7_question_37 ?_
      refine lv_iconst (v := (nI (1))) hx hb dX7_question_40 (by decide) ?_
      refine q_iadd (x := qs) (y := 1) hx hb dX7_question_41 ?_
      refine va_put (D := (dC, dI)) (ci := 7) (v := .int (nI (qs + 1))) (ty := .int) (C := RX7) (T := TX7) (N := 9) hx hb hts uX7 tyX7 tyX7_ok nmX7 hown hK hP hD hS 0 rfl rfl 3 (by decide) (hts _ kfX7_30) (fun _ h9 => h9) rfl (by decide +kernel) (rfl) (rfl) (Nat.le_of_ble_eq_true rfl) dX7_question_42 (fun H locs hP hD hS => ?_)
      have hP : va_P (dC, dI) qCl [(x0, .inr (7, [.ref axm, .ref fct, .ref asd, .int (nI (qs + 1)), .ref fbd, .ref rwr, .ref fnr, .int (brk), .int (bI (bkn))])), (asd, .inl (cQ, 6, .inr (.inr (.inr (.inr (aF qad)))))), (qad qs, .inr (5, [.ref ow, .int (nI (v)), .ref ra, .int (nI (sz)), .int (bI (lg)), .int (bI (false)), .ref fa, .int (bI (se))])), (ow, .inr (3, [.ref oa, .ref ob, .int (nI (0)), .int (bI (oj))]))] H := hP
      have hD : va_D A [(x0, .inr (7, [.ref axm, .ref fct, .ref asd, .int (nI (qs + 1)), .ref fbd, .ref rwr, .ref fnr, .int (brk), .int (bI (bkn))])), (asd, .inl (cQ, 6, .inr (.inr (.inr (.inr (aF qad)))))), (qad qs, .inr (5, [.ref ow, .int (nI (v)), .ref ra, .int (nI (sz)), .int (bI (lg)), .int (bI (false)), .ref fa, .int (bI (se))])), (ow, .inr (3, [.ref oa, .ref ob, .int (nI (0)), .int (bI (oj))]))] := hD
      refine lv_aload_n hx hb dX7_question_45 rfl (lv_at hl 0 rfl) ?_
      refine va_get (D := (dC, dI)) (ci := 7) (v := .int (nI (qs + 1))) (C := RX7) (T := TX7) (N := 9) hx hb hts uX7 hown hK hP 0 rfl rfl 3 (by decide) (hts _ kfX7_30) (fun _ h9 => h9) rfl dX7_question_46 ?_
      refine lv_iconst (v := (nI (1))) hx hb dX7_question_49 (by decide) ?_
      refine q_isub (x := qs + 1) (y := 1) hx hb (by omega) dX7_question_50 ?_
      refine q_top (show (nI ((qs + 1) - 1)) = (nI (qs)) from (congrArg nI (Nat.add_sub_cancel _ _))) ?_
      subst hQ
      subst hAe
      have hP9 := hP.sub (ws' := [(x0, .inr (7, [.ref axm, .ref fct, .ref asd, .int (nI (qs + 1)), .ref fbd, .ref rwr, .ref fnr, .int (brk), .int (bI (bkn))])), (asd, .inl (cQ, 6, .inr (.inr (.inr (.inr (aF qad)))))), (qad qs, .inr (5, [.ref ow, .int (nI (v)), .ref ra, .int (nI (sz)), .int (bI (lg)), .int (bI (false)), .ref fa, .int (bI (se))])), (ow, .inr (3, [.ref oa, .ref ob, .int (nI (0)), .int (bI (oj))]))]) [0, 1, 2, 3] rfl
      exact W.iret (v := (nI (qs))) hx hb hr (fun t9 h9 _ => ⟨⟨(nI (qs)), (), rfl, congrArg nI (show qs = qs from by omega), by show va_P _ _ _ t9.heap; rw [h9]; exact hP9⟩, hS.F h9⟩) hS.2.2 dX7_question_51
    · (exfalso; omega)
  · exact b_no (p_below_n (by decide) hv) (by assumption)
