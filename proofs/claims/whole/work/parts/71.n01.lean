set_option maxRecDepth 40000 in
theorem kfX7_108 : Cond.fieldLink RX7 108 "QlRewrite$Question" "own" "LQlRewrite$Form;" ∈ qW := qw 159 rfl rfl
set_option maxRecDepth 40000 in
theorem kfX7_117 : Cond.fieldLink RX7 117 "QlRewrite$Form" "size" "I" ∈ qW := qw 145 rfl rfl
abbrev rm_c__rewritten_e : Room := { frames := 1, cells := 0, slots := 0, locals := 21 }
set_option maxHeartbeats 4000000 in
set_option maxRecDepth 100000 in
theorem c__rewritten_e (l : Launch) (dC : Nat → ClassId) (dI : Nat → Nat → Nat) (cI cL cQ cZ : ClassId) (x0 : Nat) (axm : Nat) (fct : Nat) (asd : Nat) (qs : Nat) (fbd : Nat) (rwr : Nat) (fnr : Nat) (brk : Int32) (bkn : Bool) (qad : Nat → Nat) (qi : Nat) (ow : Nat) (an : Nat) (ra : Nat) (sz : Nat) (lg : Bool) (rw9 : Bool) (fa : Nat) (se : Bool) (oa : Nat) (ob : Nat) (on : Nat) (oj : Bool) (hqi : qi < qs) (hqs : qs ≤ 6) (ho0 : on = 0) : Met l yX7_rewritten wkX7_rewritten rm_c__rewritten_e (q_R (dC, dI) qCl (qT cI cL cQ cZ) [(x0, .inr (7, [.ref axm, .ref fct, .ref asd, .int (nI (qs)), .ref fbd, .ref rwr, .ref fnr, .int (brk), .int (bI (bkn))])), (asd, .inl (cQ, 6, .inr (.inr (.inr (.inr (aF qad)))))), (qad qi, .inr (5, [.ref ow, .int (nI (an)), .ref ra, .int (nI (sz)), .int (bI (lg)), .int (bI (rw9)), .ref fa, .int (bI (se))])), (ow, .inr (3, [.ref oa, .ref ob, .int (nI (on)), .int (bI (oj))]))] [.ref x0, .int (nI (qi))]) (vp_Si (fun r => r = (oI (none)))) 0 0 (fun _ => False) := by
  refine Met.ofW (cc := cX7_rewritten) (maxL := 3) (ret := (some .int)) (by decide) rfl ?_
  intro p e s m args below meth c s₁ B hml hv
  obtain ⟨hargs, hP, hK⟩ := hv
  have hx := B.exec
  have hb := B.bytes
  have hr := B.returns
  have hts : ∀ w ∈ qW, w.before args s = true := fun w h => atoms_spec (ws := wkX7_rewritten) B.pre w (List.mem_cons_of_mem _ h)
  have hown : s.vm.findClass RX7 = some m.cls := findClass_of_methodNamed B.named
  have hlocks := B.notSynchronized
  refine q_named (fun Q hQ => ?_)
  refine q_entry hargs (Nat.le_of_ble_eq_true rfl) (fun ls hl => ?_)
  have hl : lv_has ls 3 [(0, .ref x0), (1, .int (nI (qi)))] := hl
  refine lv_iload_n hx hb dX7_rewritten_0 rfl (lv_at hl 1 rfl) ?_
  refine lv_aload_n hx hb dX7_rewritten_1 rfl (lv_at hl 0 rfl) ?_
  refine va_get (D := (dC, dI)) (ci := 7) (v := .int (nI (qs))) (C := RX7) (T := TX7) (N := 9) hx hb hts uX7 hown hK hP 0 rfl rfl 3 (by decide) (hts _ kfX7_30) (fun _ h9 => h9) rfl dX7_rewritten_2 ?_
  refine vp_callSi (va_Run.run (va_runS (As := [.int (nI (qi)), .int (nI (qs))]) (rest := []) ⟨hx, hb, hml, hown, hts⟩ (c__isBelow l dC dI cI cL cQ cZ (nI (qi)) qs ) (q_cwS 2 hts gkX7_isBelow kmX7_92 ksX7_isBelow kiX7 rfl rfl rfl (by decide +kernel) ⟨Nat.le_of_ble_eq_true rfl, Nat.le_of_ble_eq_true rfl⟩) (q_preS hK hP [] rfl) rfl rfl hl.1 rfl (lv_room (Nat.le_of_ble_eq_true rfl)) dX7_rewritten_5 ⟨Nat.zero_le _, Nat.zero_le _⟩)) (fun r1 hr1 => ?_)
  subst hr1
  refine q_ifb_eq (b := p_below (nI (qi)) qs) (tgt := 26) hx hb dX7_rewritten_8 (by decide) (fun c8_2 => ?_) (fun c8_2 => ?_)
  · exact b_no (p_below_n (by omega) hqi) (by assumption)
  · refine lv_aload_n hx hb dX7_rewritten_11 rfl (lv_at hl 0 rfl) ?_
    refine va_get (D := (dC, dI)) (ci := 7) (v := .ref asd) (C := RX7) (T := TX7) (N := 9) hx hb hts uX7 hown hK hP 0 rfl rfl 2 (by decide) (hts _ kfX7_25) (fun _ h9 => h9) rfl dX7_rewritten_12 ?_
    refine lv_iload_n hx hb dX7_rewritten_15 rfl (lv_at hl 1 rfl) ?_
    refine q_aald hx hb hK hP 1 2 rfl rfl (j := qi) (by omega) (by omega) dX7_rewritten_16 ?_
    refine va_get (D := (dC, dI)) (ci := 5) (v := .ref ow) (C := RX5) (T := TX5) (N := 8) hx hb hts uX5 hown hK hP 2 rfl rfl 0 (by decide) (hts _ kfX7_108) (fun _ h9 => h9) rfl dX7_rewritten_17 ?_
    refine va_get (D := (dC, dI)) (ci := 3) (v := .int (nI (on))) (C := RX3) (T := TX3) (N := 4) hx hb hts uX3 hown hK hP 3 rfl rfl 2 (by decide) (hts _ kfX7_117) (fun _ h9 => h9) rfl dX7_rewritten_20 ?_
    refine q_if_ne (x := on) (tgt := 28) hx hb dX7_rewritten_23 (by decide) (by omega) (fun c23_3 => ?_) (fun c23_3 => ?_)
    · (exfalso; omega)
    · refine lv_iconst (v := (oI (none))) hx hb dX7_rewritten_26 (by decide) ?_
      subst hQ
      exact W.iret (v := (oI (none))) hx hb hr (fun t9 h9 _ => ⟨_, rfl, rfl, h9⟩) (fun q hq => by cases hq) dX7_rewritten_27
