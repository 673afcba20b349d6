abbrev rm_c__atom_c : Room := { frames := 2, cells := 0, slots := 0, locals := 47 }
set_option maxHeartbeats 4000000 in
set_option maxRecDepth 100000 in
theorem c__atom_c (l : Launch) (dC : Nat → ClassId) (dI : Nat → Nat → Nat) (cI cL cQ cZ : ClassId) (x0 : Nat) (axm : Nat) (fct : Nat) (asd : Nat) (qs : Nat) (fbd : Nat) (rwr : Nat) (fnr : Nat) (brk : Int32) (bkn : Bool) (qad : Nat → Nat) (qi : Nat) (ow : Nat) (an : Nat) (ra : Nat) (sz : Nat) (lg : Bool) (rw9 : Bool) (fa : Nat) (se : Bool) (oa : Nat) (ob : Nat) (on : Nat) (oj : Bool) (onm : Nat → Nat) (opl : Nat → Nat) (ro : Bool) (x : Nat) (a : Nat) (b : Int32) (hqi : qi < qs) (hqs : qs ≤ 6) (han : an ≤ 2) (hok : c_fmk on onm opl) (ha8 : a < 8) (hro : ro = false) (hx10 : x < 10) : Met l yX7_atom wkX7_atom rm_c__atom_c (q_W (dC, dI) qCl (qT cI cL cQ cZ) [(x0, .inr (7, [.ref axm, .ref fct, .ref asd, .int (nI (qs)), .ref fbd, .ref rwr, .ref fnr, .int (brk), .int (bI (bkn))])), (asd, .inl (cQ, 6, .inr (.inr (.inr (.inr (aF qad)))))), (qad qi, .inr (5, [.ref ow, .int (nI (an)), .ref ra, .int (nI (sz)), .int (bI (lg)), .int (bI (rw9)), .ref fa, .int (bI (se))])), (ow, .inr (3, [.ref oa, .ref ob, .int (nI (on)), .int (bI (oj))])), (oa, .inl (cI, 4, .inl (nF onm))), (ob, .inl (cI, 8, .inl (nF opl)))] [.ref x0, .int (nI (qi)), .int (bI (ro)), .int (nI (x)), .int (nI (a)), .int (b)]) (va_Qi (fun (r : Int32) (u : Int32 × Nat × (Nat → Nat) × (Nat → Nat) × Bool) => (r = (u.1)) ∧ (s_katm onm opl on rw9 (x) (m_v8 an a) (7) u.1 u.2.1 u.2.2.1 u.2.2.2.1 u.2.2.2.2)) (fun (u : Int32 × Nat × (Nat → Nat) × (Nat → Nat) × Bool) t => va_P (dC, dI) qCl [(x0, .inr (7, [.ref axm, .ref fct, .ref asd, .int (nI (qs)), .ref fbd, .ref rwr, .ref fnr, .int (brk), .int (bI (bkn))])), (asd, .inl (cQ, 6, .inr (.inr (.inr (.inr (aF qad)))))), (qad qi, .inr (5, [.ref ow, .int (nI (an)), .ref ra, .int (nI (sz)), .int (bI (lg)), .int (bI (u.2.2.2.2)), .ref fa, .int (bI (se))])), (ow, .inr (3, [.ref oa, .ref ob, .int (nI (u.2.1)), .int (bI (oj))])), (oa, .inl (cI, 4, .inl (nF u.2.2.1))), (ob, .inl (cI, 8, .inl (nF u.2.2.2.1)))] t.heap) (q_A [(x0, .inr (7, [.ref axm, .ref fct, .ref asd, .int (nI (qs)), .ref fbd, .ref rwr, .ref fnr, .int (brk), .int (bI (bkn))])), (asd, .inl (cQ, 6, .inr (.inr (.inr (.inr (aF qad)))))), (qad qi, .inr (5, [.ref ow, .int (nI (an)), .ref ra, .int (nI (sz)), .int (bI (lg)), .int (bI (rw9)), .ref fa, .int (bI (se))])), (ow, .inr (3, [.ref oa, .ref ob, .int (nI (on)), .int (bI (oj))])), (oa, .inl (cI, 4, .inl (nF onm))), (ob, .inl (cI, 8, .inl (nF opl)))])) 0 0 (q_A [(x0, .inr (7, [.ref axm, .ref fct, .ref asd, .int (nI (qs)), .ref fbd, .ref rwr, .ref fnr, .int (brk), .int (bI (bkn))])), (asd, .inl (cQ, 6, .inr (.inr (.inr (.inr (aF qad)))))), (qad qi, .inr (5, [.ref ow, .int (nI (an)), .ref ra, .int (nI (sz)), .int (bI (lg)), .int (bI (rw9)), .ref fa, .int (bI (se))])), (ow, .inr (3, [.ref oa, .ref ob, .int (nI (on)), .int (bI (oj))])), (oa, .inl (cI, 4, .inl (nF onm))), (ob, .inl (cI, 8, .inl (nF opl)))]) := by
  refine Met.ofW (cc := cX7_atom) (maxL := 10) (ret := (some .int)) (by decide) rfl ?_
  intro p e s m args below meth c s₁ B hml hv
  obtain ⟨hargs, hP, hK, hD0⟩ := hv
  have hx := B.exec
  have hb := B.bytes
  have hr := B.returns
  have hts : ∀ w ∈ qW, w.before args s = true := fun w h => atoms_spec (ws := wkX7_atom) B.pre w (List.mem_cons_of_mem _ h)
  have hown : s.vm.findClass RX7 = some m.cls := findClass_of_methodNamed B.named
  have hlocks := B.notSynchronized
  refine q_named (fun Q hQ => ?_)
  have hD : va_D (q_A [(x0, .inr (7, [.ref axm, .ref fct, .ref asd, .int (nI (qs)), .ref fbd, .ref rwr, .ref fnr, .int (brk), .int (bI (bkn))])), (asd, .inl (cQ, 6, .inr (.inr (.inr (.inr (aF qad)))))), (qad qi, .inr (5, [.ref ow, .int (nI (an)), .ref ra, .int (nI (sz)), .int (bI (lg)), .int (bI (rw9)), .ref fa, .int (bI (se))])), (ow, .inr (3, [.ref oa, .ref ob, .int (nI (on)), .int (bI (oj))])), (oa, .inl (cI, 4, .inl (nF onm))), (ob, .inl (cI, 8, .inl (nF opl)))]) [(x0, .inr (7, [.ref axm, .ref fct, .ref asd, .int (nI (qs)), .ref fbd, .ref rwr, .ref fnr, .int (brk), .int (bI (bkn))])), (asd, .inl (cQ, 6, .inr (.inr (.inr (.inr (aF qad)))))), (qad qi, .inr (5, [.ref ow, .int (nI (an)), .ref ra, .int (nI (sz)), .int (bI (lg)), .int (bI (rw9)), .ref fa, .int (bI (se))])), (ow, .inr (3, [.ref oa, .ref ob, .int (nI (on)), .int (bI (oj))])), (oa, .inl (cI, 4, .inl (nF onm))), (ob, .inl (cI, 8, .inl (nF opl)))] := ⟨hD0.1, fun k q h => ⟨k, q.2, h⟩⟩
  generalize hAe : q_A [(x0, .inr (7, [.ref axm, .ref fct, .ref asd, .int (nI (qs)), .ref fbd, .ref rwr, .ref fnr, .int (brk), .int (bI (bkn))])), (asd, .inl (cQ, 6, .inr (.inr (.inr (.inr (aF qad)))))), (qad qi, .inr (5, [.ref ow, .int (nI (an)), .ref ra, .int (nI (sz)), .int (bI (lg)), .int (bI (rw9)), .ref fa, .int (bI (se))])), (ow, .inr (3, [.ref oa, .ref ob, .int (nI (on)), .int (bI (oj))])), (oa, .inl (cI, 4, .inl (nF onm))), (ob, .inl (cI, 8, .inl (nF opl)))] = A at hD
  have hS : va_S A s.heap s.heap [] := va_S.rf
  refine q_entry hargs (Nat.le_of_ble_eq_true rfl) (fun ls hl => ?_)
  have hl : lv_has ls 10 [(0, .ref x0), (1, .int (nI (qi))), (2, .int (bI (ro))), (3, .int (nI (x))), (4, .int (nI (a))), (5, .int (b))] := hl
  obtain ⟨H, locs, eH, eL⟩ : ∃ (H : Heap) (locs : List Loc), s.heap = H ∧ ([] : List Loc) = locs := ⟨_, _, rfl, rfl⟩
  have hS : va_S A s.heap H locs := by rw [← eH, ← eL]; exact hS
  have hP : va_P (dC, dI) qCl [(x0, .inr (7, [.ref axm, .ref fct, .ref asd, .int (nI (qs)), .ref fbd, .ref rwr, .ref fnr, .int (brk), .int (bI (bkn))])), (asd, .inl (cQ, 6, .inr (.inr (.inr (.inr (aF qad)))))), (qad qi, .inr (5, [.ref ow, .int (nI (an)), .ref ra, .int (nI (sz)), .int (bI (lg)), .int (bI (rw9)), .ref fa, .int (bI (se))])), (ow, .inr (3, [.ref oa, .ref ob, .int (nI (on)), .int (bI (oj))])), (oa, .inl (cI, 4, .inl (nF onm))), (ob, .inl (cI, 8, .inl (nF opl)))] H := by rw [← eH]; exact hP
  refine W_at eH eL ?_
  refine lv_iload_n hx hb dX7_atom_0 rfl (lv_at hl 1 rfl) ?_
  refine lv_aload_n hx hb dX7_atom_1 rfl (lv_at hl 0 rfl) ?_
  refine va_get (D := (dC, dI)) (ci := 7) (v := .int (nI (qs))) (C := RX7) (T := TX7) (N := 9) hx hb hts uX7 hown hK hP 0 rfl rfl 3 (by decide) (hts _ kfX7_30) (fun _ h9 => h9) rfl dX7_atom_2 ?_
  refine vp_callSi (va_Run.run (va_runS (As := [.int (nI (qi)), .int (nI (qs))]) (rest := []) ⟨hx, hb, hml, hown, hts⟩ (c__isBelow l dC dI cI cL cQ cZ (nI (qi)) qs ) (q_cwS 2 hts gkX7_isBelow kmX7_92 ksX7_isBelow kiX7 rfl rfl rfl (by decide +kernel) ⟨Nat.le_of_ble_eq_true rfl, Nat.le_of_ble_eq_true rfl⟩) (q_preS hK hP [] rfl) rfl rfl hl.1 rfl (lv_room (Nat.le_of_ble_eq_true rfl)) dX7_atom_5 ⟨Nat.zero_le _, Nat.zero_le _⟩)) (fun r1 hr1 => ?_)
  subst hr1
  refine q_ifb_eq (b := p_below (nI (qi)) qs) (tgt := 19) hx hb dX7_atom_8 (by decide) (fun c8_2 => ?_) (fun c8_2 => ?_)
  · exact b_no (p_below_n (by omega) hqi) (by assumption)
  · refine lv_iload_n hx hb dX7_atom_11 rfl (lv_at hl 2 rfl) ?_
    refine lv_iload_n hx hb dX7_atom_12 rfl (lv_at hl 3 rfl) ?_
    refine vp_callSi (va_Run.run (va_runS (As := [.int (bI (ro)), .int (nI (x))]) (rest := []) ⟨hx, hb, hml, hown, hts⟩ (c__isName l dC dI cI cL cQ cZ ro (nI (x)) ) (q_cwS 2 hts gkX7_isName kmX7_100 ksX7_isName kiX7 rfl rfl rfl (by decide +kernel) ⟨Nat.le_of_ble_eq_true rfl, Nat.le_of_ble_eq_true rfl⟩) (q_preS hK hP [] rfl) rfl rfl hl.1 rfl (lv_room (Nat.le_of_ble_eq_true rfl)) dX7_atom_13 ⟨Nat.zero_le _, Nat.zero_le _⟩)) (fun r3 hr3 => ?_)
    subst hr3
    refine q_ifb_ne (b := p_name ro (nI (x))) (tgt := 21) hx hb dX7_atom_16 (by decide) (fun c16_4 => ?_) (fun c16_4 => ?_)
    · refine lv_iload hx hb dX7_atom_21 (lv_at hl 4 rfl) ?_
      refine lv_bipush (v := (nI (8))) hx hb dX7_atom_23 (by decide) ?_
      refine vp_callSi (va_Run.run (va_runS (As := [.int (nI (a)), .int (nI (8))]) (rest := []) ⟨hx, hb, hml, hown, hts⟩ (c__isBelow l dC dI cI cL cQ cZ (nI (a)) 8 ) (q_cwS 2 hts gkX7_isBelow kmX7_92 ksX7_isBelow kiX7 rfl rfl rfl (by decide +kernel) ⟨Nat.le_of_ble_eq_true rfl, Nat.le_of_ble_eq_true rfl⟩) (q_preS hK hP [] rfl) rfl rfl hl.1 rfl (lv_room (Nat.le_of_ble_eq_true rfl)) dX7_atom_25 ⟨Nat.zero_le _, Nat.zero_le _⟩)) (fun r5 hr5 => ?_)
      subst hr5
      refine q_ifb_eq (b := p_below (nI (a)) 8) (tgt := 45) hx hb dX7_atom_28 (by decide) (fun c28_6 => ?_) (fun c28_6 => ?_)
      · exact b_no (p_below_n (by decide) ha8) (by assumption)
      · refine lv_iload_n hx hb dX7_atom_31 rfl (lv_at hl 2 rfl) ?_
        refine q_ifb_eq (b := ro) (tgt := 47) hx hb dX7_atom_32 (by decide) (fun c32_7 => ?_) (fun c32_7 => ?_)
        · refine lv_aload_n hx hb dX7_atom_47 rfl (lv_at hl 0 rfl) ?_
          refine va_get (D := (dC, dI)) (ci := 7) (v := .ref asd) (C := RX7) (T := TX7) (N := 9) hx hb hts uX7 hown hK hP 0 rfl rfl 2 (by decide) (hts _ kfX7_25) (fun _ h9 => h9) rfl dX7_atom_48 ?_
          refine lv_iload_n hx hb dX7_atom_51 rfl (lv_at hl 1 rfl) ?_
          refine q_aald hx hb hK hP 1 2 rfl rfl (j := qi) (by omega) (by omega) dX7_atom_52 ?_
          refine lv_astore (lv' := [(6, .ref (qad qi)), (0, .ref x0), (1, .int (nI (qi))), (2, .int (bI (ro))), (3, .int (nI (x))), (4, .int (nI (a))), (5, .int (b))]) hx hb dX7_atom_53 hl (by decide) rfl (fun ls hl => ?_)
          refine lv_iload_n hx hb dX7_atom_55 rfl (lv_at hl 3 rfl) ?_
          refine q_ifb_eq (b := ro) (tgt := 66) hx hb dX7_atom_56 (by decide) (fun c56_8 => ?_) (fun c56_8 => ?_)
          · refine lv_iload_n hx hb dX7_atom_66 rfl (lv_at hl 4 rfl) ?_
            refine lv_istore (lv' := [(7, .int (nI (x))), (6, .ref (qad qi)), (0, .ref x0), (1, .int (nI (qi))), (2, .int (bI (ro))), (3, .int (nI (x))), (4, .int (nI (a))), (5, .int (b))]) hx hb dX7_atom_67 hl (by decide) rfl (fun ls hl => ?_)
            refine lv_aload hx hb dX7_atom_69 (lv_at hl 1 rfl) ?_
            refine lv_iload hx hb dX7_atom_71 (lv_at hl 6 rfl) ?_
            refine vp_callSi (va_Run.run (va_runV (As := [.int (nI (a))]) (rest := []) ⟨hx, hb, hml, hown, hts⟩ (c_Question_variable l dC dI cI cL cQ cZ (qad qi) ow an ra sz lg rw9 fa se a (show a < 8 from by (omega)) (show an < 8 from by (omega))) (q_cwV 1 hts gkX5_variable kmX7_104 knX5_variable klX5_variable kiX5 rfl rfl rfl (by decide +kernel) ⟨Nat.le_of_ble_eq_true rfl, Nat.le_of_ble_eq_true rfl⟩) (q_preV hK hP [2] rfl 2 (ci := 5) (r := (RX5, TX5, 8)) rfl rfl) rfl rfl hl.1 rfl (lv_room (Nat.le_of_ble_eq_true rfl)) dX7_atom_73 ⟨Nat.zero_le _, Nat.zero_le _⟩)) (fun r9 hr9 => ?_)
            subst hr9
            refine q_top (show (nI (if a < an then a else 8 + a)) = (nI (m_v8 an a)) from rfl) ?_
            refine lv_istore (lv' := [(8, .int (nI (m_v8 an a))), (7, .int (nI (x))), (6, .ref (qad qi)), (0, .ref x0), (1, .int (nI (qi))), (2, .int (bI (ro))), (3, .int (nI (x))), (4, .int (nI (a))), (5, .int (b))]) hx hb dX7_atom_76 hl (by decide) rfl (fun ls hl => ?_)
            refine lv_iload_n hx hb dX7_atom_78 rfl (lv_at hl 5 rfl) ?_
            refine q_ifb_eq (b := ro) (tgt := 92) hx hb dX7_atom_79 (by decide) (fun c79_10 => ?_) (fun c79_10 => ?_)
            · refine lv_bipush (v := (nI (7))) hx hb dX7_atom_92 (by decide) ?_
              refine lv_istore (lv' := [(9, .int (nI (7))), (8, .int (nI (m_v8 an a))), (7, .int (nI (x))), (6, .ref (qad qi)), (0, .ref x0), (1, .int (nI (qi))), (2, .int (bI (ro))), (3, .int (nI (x))), (4, .int (nI (a))), (5, .int (b))]) hx hb dX7_atom_94 hl (by decide) rfl (fun ls hl => ?_)
              have hv1 : m_v8 an a < 16 := (by unfold m_v8; split <;> omega)
              have ho4 := hok.1
              refine lv_aload hx hb dX7_atom_96 (lv_at hl 3 rfl) ?_
              refine va_get (D := (dC, dI)) (ci := 5) (v := .ref ow) (C := RX5) (T := TX5) (N := 8) hx hb hts uX5 hown hK hP 2 rfl rfl 0 (by decide) (hts _ kfX7_108) (fun _ h9 => h9) rfl dX7_atom_98 ?_
              refine lv_iload hx hb dX7_atom_101 (lv_at hl 2 rfl) ?_
              refine lv_iload hx hb dX7_atom_103 (lv_at hl 1 rfl) ?_
              refine lv_iload hx hb dX7_atom_105 (lv_at hl 0 rfl) ?_
              refine vp_callSi (va_Run.run (va_runV (As := [.int (nI (x)), .int (nI (m_v8 an a)), .int (nI (7))]) (rest := []) ⟨hx, hb, hml, hown, hts⟩ (c_Form_holds l dC dI cI cL cQ cZ ow oa ob on oj onm opl x (m_v8 an a) 7 (show on ≤ 4 from by (exact hok.1)) (show ∀ j, onm j < 64 from by (exact hok.2.1)) (show ∀ j, opl j < 16 from by (exact hok.2.2)) (show x < 64 from by (omega)) (show (m_v8 an a) < 16 from by (exact hv1)) (show 7 < 16 from by (omega))) (q_cwV 3 hts gkX3_holds kmX7_112 knX3_holds klX3_holds kiX3 rfl rfl rfl (by decide +kernel) ⟨Nat.le_of_ble_eq_true rfl, Nat.le_of_ble_eq_true rfl⟩) (q_preV hK hP [3, 4, 5] rfl 3 (ci := 3) (r := (RX3, TX3, 4)) rfl rfl) rfl rfl hl.1 rfl (lv_room (Nat.le_of_ble_eq_true rfl)) dX7_atom_107 ⟨Nat.zero_le _, Nat.zero_le _⟩)) (fun r11 hr11 => ?_)
              have hr11 : ∃ b9 : Bool, r11 = bI b9 ∧ (b9 = true ↔ f_has onm opl x (m_v8 an a) 7 on) := hr11
              have hlast := hr11
              obtain ⟨b9, ey9, hw9⟩ := hlast
              refine q_top ey9 ?_
              refine q_ifb_eq (b := b9) (tgt := 122) hx hb dX7_atom_110 (by decide) (fun c110_12 => ?_) (fun c110_12 => ?_)
              · refine lv_aload hx hb dX7_atom_122 (lv_at hl 3 rfl) ?_
                refine va_get (D := (dC, dI)) (ci := 5) (v := .ref ow) (C := RX5) (T := TX5) (N := 8) hx hb hts uX5 hown hK hP 2 rfl rfl 0 (by decide) (hts _ kfX7_108) (fun _ h9 => h9) rfl dX7_atom_124 ?_
                refine va_get (D := (dC, dI)) (ci := 3) (v := .int (nI (on))) (C := RX3) (T := TX3) (N := 4) hx hb hts uX3 hown hK hP 3 rfl rfl 2 (by decide) (hts _ kfX7_117) (fun _ h9 => h9) rfl dX7_atom_127 ?_
                refine lv_iconst (v := (nI (4))) hx hb dX7_atom_130 (by decide) ?_
                refine q_icmp_lt (x := on) (y := 4) (tgt := 137) hx hb dX7_atom_131 (by decide) (by omega) (by omega) (fun c131_13 => ?_) (fun c131_13 => ?_)
                · refine lv_aload hx hb dX7_atom_137 (lv_at hl 3 rfl) ?_
                  refine va_get (D := (dC, dI)) (ci := 5) (v := .ref ow) (C := RX5) (T := TX5) (N := 8) hx hb hts uX5 hown hK hP 2 rfl rfl 0 (by decide) (hts _ kfX7_108) (fun _ h9 => h9) rfl dX7_atom_139 ?_
                  refine lv_iload hx hb dX7_atom_142 (lv_at hl 2 rfl) ?_
                  refine lv_iload hx hb dX7_atom_144 (lv_at hl 1 rfl) ?_
                  refine lv_iload hx hb dX7_atom_146 (lv_at hl 0 rfl) ?_
                  refine q_joinv (wr := [(x0, .inr (7, [.ref axm, .ref fct, .ref asd, .int (nI (qs)), .ref fbd, .ref rwr, .ref fnr, .int (brk), .int (bI (bkn))])), (asd, .inl (cQ, 6, .inr (.inr (.inr (.inr (aF qad)))))), (qad qi, .inr (5, [.ref ow, .int (nI (an)), .ref ra, .int (nI (sz)), .int (bI (lg)), .int (bI (rw9)), .ref fa, .int (bI (se))]))]) (va_runV (As := [.int (nI (x)), .int (nI (m_v8 an a)), .int (nI (7))]) (rest := []) ⟨hx, hb, hml, hown, hts⟩ (c_Form_add l dC dI cI cL cQ cZ ow oa ob on oj onm opl x (m_v8 an a) 7 (show on < 4 from by (omega))) (q_cwV 3 hts gkX3_add kmX7_118 knX3_add klX3_add kiX3 rfl rfl rfl (by decide +kernel) ⟨Nat.le_of_ble_eq_true rfl, Nat.le_of_ble_eq_true rfl⟩) (q_preVW hK hP hD [3, 4, 5] rfl (by decide) 3 (ci := 3) (r := (RX3, TX3, 4)) rfl rfl) rfl rfl hl.1 rfl (lv_room (Nat.le_of_ble_eq_true rfl)) dX7_atom_148 ⟨Nat.zero_le _, Nat.zero_le _⟩) hP hD hS [3, 4, 5] [0, 1, 2] rfl rfl (by decide) (fun _ => rfl) (fun _ H locs hq15 hP hD hS => ?_)
                  have hP : va_P (dC, dI) qCl [(x0, .inr (7, [.ref axm, .ref fct, .ref asd, .int (nI (qs)), .ref fbd, .ref rwr, .ref fnr, .int (brk), .int (bI (bkn))])), (asd, .inl (cQ, 6, .inr (.inr (.inr (.inr (aF qad)))))), (qad qi, .inr (5, [.ref ow, .int (nI (an)), .ref ra, .int (nI (sz)), .int (bI (lg)), .int (bI (rw9)), .ref fa, .int (bI (se))])), (ow, .inr (3, [.ref oa, .ref ob, .int (nI (on + 1)), .int (bI (oj))])), (oa, .inl (cI, 4, .inl (nF (va_up onm on x)))), (ob, .inl (cI, 8, .inl (nF (f_put opl on (m_v8 an a) 7))))] H := hP
                  have hD : va_D A [(x0, .inr (7, [.ref axm, .ref fct, .ref asd, .int (nI (qs)), .ref fbd, .ref rwr, .ref fnr, .int (brk), .int (bI (bkn))])), (asd, .inl (cQ, 6, .inr (.inr (.inr (.inr (aF qad)))))), (qad qi, .inr (5, [.ref ow, .int (nI (an)), .ref ra, .int (nI (sz)), .int (bI (lg)), .int (bI (rw9)), .ref fa, .int (bI (se))])), (ow, .inr (3, [.ref oa, .ref ob, .int (nI (on + 1)), .int (bI (oj))])), (oa, .inl (cI, 4, .inl (nF (va_up onm on x)))), (ob, .inl (cI, 8, .inl (nF (f_put opl on (m_v8 an a) 7))))] := hD
                  refine lv_aload hx hb dX7_atom_151 (lv_at hl 3 rfl) ?_
                  refine lv_iconst (v := (nI (0))) hx hb dX7_atom_153 (by decide) ?_
                  refine va_put (D := (dC, dI)) (ci := 5) (v := .int (bI (false))) (ty := .boolean) (C := RX5) (T := TX5) (N := 8) hx hb hts uX5 tyX5 tyX5_ok nmX5 hown hK hP hD hS 2 rfl rfl 5 (by decide) (hts _ kfX7_74) (fun _ h9 => h9) rfl (by decide +kernel) (bI_nar _) (rfl) (Nat.le_of_ble_eq_true rfl) dX7_atom_154 (fun H locs hP hD hS => ?_)
                  have hP : va_P (dC, dI) qCl [(x0, .inr (7, [.ref axm, .ref fct, .ref asd, .int (nI (qs)), .ref fbd, .ref rwr, .ref fnr, .int (brk), .int (bI (bkn))])), (asd, .inl (cQ, 6, .inr (.inr (.inr (.inr (aF qad)))))), (qad qi, .inr (5, [.ref ow, .int (nI (an)), .ref ra, .int (nI (sz)), .int (bI (lg)), .int (bI (false)), .ref fa, .int (bI (se))])), (ow, .inr (3, [.ref oa, .ref ob, .int (nI (on + 1)), .int (bI (oj))])), (oa, .inl (cI, 4, .inl (nF (va_up onm on x)))), (ob, .inl (cI, 8, .inl (nF (f_put opl on (m_v8 an a) 7))))] H := hP
                  have hD : va_D A [(x0, .inr (7, [.ref axm, .ref fct, .ref asd, .int (nI (qs)), .ref fbd, .ref rwr, .ref fnr, .int (brk), .int (bI (bkn))])), (asd, .inl (cQ, 6, .inr (.inr (.inr (.inr (aF qad)))))), (qad qi, .inr (5, [.ref ow, .int (nI (an)), .ref ra, .int (nI (sz)), .int (bI (lg)), .int (bI (false)), .ref fa, .int (bI (se))])), (ow, .inr (3, [.ref oa, .ref ob, .int (nI (on + 1)), .int (bI (oj))])), (oa, .inl (cI, 4, .inl (nF (va_up onm on x)))), (ob, .inl (cI, 8, .inl (nF (f_put opl on (m_v8 an a) 7))))] := hD
                  refine lv_aload hx hb dX7_atom_157 (lv_at hl 3 rfl) ?_
                  refine va_get (D := (dC, dI)) (ci := 5) (v := .ref ow) (C := RX5) (T := TX5) (N := 8) hx hb hts uX5 hown hK hP 2 rfl rfl 0 (by decide) (hts _ kfX7_108) (fun _ h9 => h9) rfl dX7_atom_159 ?_
                  refine va_get (D := (dC, dI)) (ci := 3) (v := .int (nI (on + 1))) (C := RX3) (T := TX3) (N := 4) hx hb hts uX3 hown hK hP 3 rfl rfl 2 (by decide) (hts _ kfX7_117) (fun _ h9 => h9) rfl dX7_atom_162 ?_
                  subst hQ
                  subst hAe
                  have hP9 := hP.sub (ws' := [(x0, .inr (7, [.ref axm, .ref fct, .ref asd, .int (nI (qs)), .ref fbd, .ref rwr, .ref fnr, .int (brk), .int (bI (bkn))])), (asd, .inl (cQ, 6, .inr (.inr (.inr (.inr (aF qad)))))), (qad qi, .inr (5, [.ref ow, .int (nI (an)), .ref ra, .int (nI (sz)), .int (bI (lg)), .int (bI (false)), .ref fa, .int (bI (se))])), (ow, .inr (3, [.ref oa, .ref ob, .int (nI (on + 1)), .int (bI (oj))])), (oa, .inl (cI, 4, .inl (nF (va_up onm on x)))), (ob, .inl (cI, 8, .inl (nF (f_put opl on (m_v8 an a) 7))))]) [0, 1, 2, 3, 4, 5] rfl
                  exact W.iret (v := (nI (on + 1))) hx hb hr (fun t9 h9 _ => ⟨⟨(nI (on + 1)), (nI (on + 1), on + 1, va_up onm on x, f_put opl on (m_v8 an a) 7, false), rfl, ⟨rfl, (show s_katm onm opl on rw9 (x) (m_v8 an a) (7) (nI (on + 1)) (on + 1) (va_up onm on x) (f_put opl on (m_v8 an a) 7) false from by (exact Or.inr (Or.inr ⟨fun h9 => b_no (hw9.mpr h9) (by assumption), by omega, rfl, rfl, rfl, rfl, rfl⟩)))⟩, by show va_P _ _ _ t9.heap; rw [h9]; exact hP9⟩, hS.F h9⟩) hS.2.2 dX7_atom_165
                · refine lv_bipush (v := (-2)) hx hb dX7_atom_134 (by decide) ?_
                  subst hQ
                  subst hAe
                  have hP9 := hP.sub (ws' := [(x0, .inr (7, [.ref axm, .ref fct, .ref asd, .int (nI (qs)), .ref fbd, .ref rwr, .ref fnr, .int (brk), .int (bI (bkn))])), (asd, .inl (cQ, 6, .inr (.inr (.inr (.inr (aF qad)))))), (qad qi, .inr (5, [.ref ow, .int (nI (an)), .ref ra, .int (nI (sz)), .int (bI (lg)), .int (bI (rw9)), .ref fa, .int (bI (se))])), (ow, .inr (3, [.ref oa, .ref ob, .int (nI (on)), .int (bI (oj))])), (oa, .inl (cI, 4, .inl (nF onm))), (ob, .inl (cI, 8, .inl (nF opl)))]) [0, 1, 2, 3, 4, 5] rfl
                  exact W.iret (v := (-2)) hx hb hr (fun t9 h9 _ => ⟨⟨(-2), (-2, on, onm, opl, rw9), rfl, ⟨rfl, (show s_katm onm opl on rw9 (x) (m_v8 an a) (7) (-2) on onm opl rw9 from by (exact Or.inr (Or.inl ⟨fun h9 => b_no (hw9.mpr h9) (by assumption), by omega, rfl, rfl, rfl, rfl, rfl⟩)))⟩, by show va_P _ _ _ t9.heap; rw [h9]; exact hP9⟩, hS.F h9⟩) hS.2.2 dX7_atom_136
              · refine lv_aload hx hb dX7_atom_113 (lv_at hl 3 rfl) ?_
                refine va_get (D := (dC, dI)) (ci := 5) (v := .ref ow) (C := RX5) (T := TX5) (N := 8) hx hb hts uX5 hown hK hP 2 rfl rfl 0 (by decide) (hts _ kfX7_108) (fun _ h9 => h9) rfl dX7_atom_115 ?_
                refine va_get (D := (dC, dI)) (ci := 3) (v := .int (nI (on))) (C := RX3) (T := TX3) (N := 4) hx hb hts uX3 hown hK hP 3 rfl rfl 2 (by decide) (hts _ kfX7_117) (fun _ h9 => h9) rfl dX7_atom_118 ?_
                subst hQ
                subst hAe
                have hP9 := hP.sub (ws' := [(x0, .inr (7, [.ref axm, .ref fct, .ref asd, .int (nI (qs)), .ref fbd, .ref rwr, .ref fnr, .int (brk), .int (bI (bkn))])), (asd, .inl (cQ, 6, .inr (.inr (.inr (.inr (aF qad)))))), (qad qi, .inr (5, [.ref ow, .int (nI (an)), .ref ra, .int (nI (sz)), .int (bI (lg)), .int (bI (rw9)), .ref fa, .int (bI (se))])), (ow, .inr (3, [.ref oa, .ref ob, .int (nI (on)), .int (bI (oj))])), (oa, .inl (cI, 4, .inl (nF onm))), (ob, .inl (cI, 8, .inl (nF opl)))]) [0, 1, 2, 3, 4, 5] rfl
                exact W.iret (v := (nI (on))) hx hb hr (fun t9 h9 _ => ⟨⟨(nI (on)), (nI (on), on, onm, opl, rw9), rfl, ⟨rfl, (show s_katm onm opl on rw9 (x) (m_v8 an a) (7) (nI (on)) on onm opl rw9 from by (exact Or.inl ⟨hw9.mp (by assumption), rfl, rfl, rfl, rfl, rfl⟩))⟩, by show va_P _ _ _ t9.heap; rw [h9]; exact hP9⟩, hS.F h9⟩) hS.2.2 dX7_atom_121
            · exact b_no (by assumption) hro
          · exact b_no (by assumption) hro
        · exact b_no (by assumption) hro
    · exact b_no (p_name_c hro hx10) (by assumption)
