abbrev rm_c__forms_e : Room := { frames := 2, cells := 0, slots := 0, locals := 43 }
set_option maxHeartbeats 4000000 in
set_option maxRecDepth 100000 in
theorem c__forms_e (l : Launch) (dC : Nat → ClassId) (dI : Nat → Nat → Nat) (cI cL cQ cZ : ClassId) (x0 : Nat) (axm : Nat) (fct : Nat) (asd : Nat) (qs : Nat) (fbd : Nat) (rwr : Nat) (fnr : Nat) (brk : Int32) (bkn : Bool) (qad : Nat → Nat) (qi : Nat) (ow : Nat) (an : Nat) (ra : Nat) (sz : Nat) (lg : Bool) (rw9 : Bool) (fa : Nat) (se : Bool) (oa : Nat) (ob : Nat) (on : Nat) (oj : Bool) (hqi : qi < qs) (hqs : qs ≤ 6) (ho0 : on = 0) : Met l yX7_forms wkX7_forms rm_c__forms_e (q_R (dC, dI) qCl (qT cI cL cQ cZ) [(x0, .inr (7, [.ref axm, .ref fct, .ref asd, .int (nI (qs)), .ref fbd, .ref rwr, .ref fnr, .int (brk), .int (bI (bkn))])), (asd, .inl (cQ, 6, .inr (.inr (.inr (.inr (aF qad)))))), (qad qi, .inr (5, [.ref ow, .int (nI (an)), .ref ra, .int (nI (sz)), .int (bI (lg)), .int (bI (rw9)), .ref fa, .int (bI (se))])), (ow, .inr (3, [.ref oa, .ref ob, .int (nI (on)), .int (bI (oj))]))] [.ref x0, .int (nI (qi))]) (vp_Si (fun r => r = (oI (none)))) 0 0 (fun _ => False) := by
  refine Met.ofW (cc := cX7_forms) (maxL := 2) (ret := (some .int)) (by decide) rfl ?_
  intro p e s m args below meth c s₁ B hml hv
  obtain ⟨hargs, hP, hK⟩ := hv
  have hx := B.exec
  have hb := B.bytes
  have hr := B.returns
  have hts : ∀ w ∈ qW, w.before args s = true := fun w h => atoms_spec (ws := wkX7_forms) B.pre w (List.mem_cons_of_mem _ h)
  have hown : s.vm.findClass RX7 = some m.cls := findClass_of_methodNamed B.named
  have hlocks := B.notSynchronized
  refine q_named (fun Q hQ => ?_)
  refine q_entry hargs (Nat.le_of_ble_eq_true rfl) (fun ls hl => ?_)
  have hl : lv_has ls 2 [(0, .ref x0), (1, .int (nI (qi)))] := hl
  refine lv_aload_n hx hb dX7_forms_0 rfl (lv_at hl 0 rfl) ?_
  refine lv_iload_n hx hb dX7_forms_1 rfl (lv_at hl 1 rfl) ?_
  refine vp_callSi (va_Run.run (va_runV (As := [.int (nI (qi))]) (rest := []) ⟨hx, hb, hml, hown, hts⟩ (c__rewritten_e l dC dI cI cL cQ cZ x0 axm fct asd qs fbd rwr fnr brk bkn qad qi ow an ra sz lg rw9 fa se oa ob on oj (show qi < qs from by first | assumption | omega) (show qs ≤ 6 from by first | assumption | omega) (show on = 0 from by first | assumption | omega)) (q_cwV 1 hts gkX7_rewritten kmX7_119 knX7_rewritten klX7_rewritten kiX7 rfl rfl rfl (by decide +kernel) ⟨Nat.le_of_ble_eq_true rfl, Nat.le_of_ble_eq_true rfl⟩) (q_preV hK hP [0, 1, 2, 3] rfl 0 (ci := 7) (r := (RX7, TX7, 9)) rfl rfl) rfl rfl hl.1 rfl (lv_room (Nat.le_of_ble_eq_true rfl)) dX7_forms_2 ⟨Nat.zero_le _, Nat.zero_le _⟩)) (fun r1 hr1 => ?_)
  subst hr1
  subst hQ
  exact W.iret (v := (oI (none))) hx hb hr (fun t9 h9 _ => ⟨_, rfl, rfl, h9⟩) (fun q hq => by cases hq) dX7_forms_5
