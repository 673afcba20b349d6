abbrev cX8_why : ByteArray := prog_10_method_42_code
def yX8_why : MethodName := ⟨RX8, "why", "(II)I"⟩
def wkX8_why : List Cond := .code yX8_why cX8_why 5 (some .int) :: qW
set_option maxRecDepth 40000 in
theorem gkX8_why : GoodIn qW wkX8_why := q_good (qw 829 rfl rfl)
set_option maxRecDepth 40000 in
theorem knX8_why : Cond.instanceMethod yX8_why ∈ qW := qw 827 rfl rfl
set_option maxRecDepth 40000 in
theorem klX8_why : Cond.selects RX8 yX8_why yX8_why ∈ qW := qw 828 rfl rfl
theorem dX8_why_0 : decode cX8_why 0 = .ok (.aload_n 0, 1) := by decide +kernel
theorem dX8_why_1 : decode cX8_why 1 = .ok (.iload_n 1, 1) := by decide +kernel
theorem dX8_why_2 : decode cX8_why 2 = .ok (.invokevirtual 196, 3) := by decide +kernel
theorem dX8_why_5 : decode cX8_why 5 = .ok (.istore_n 3, 1) := by decide +kernel
theorem dX8_why_6 : decode cX8_why 6 = .ok (.iconst 0, 1) := by decide +kernel
theorem dX8_why_7 : decode cX8_why 7 = .ok (.istore 4, 2) := by decide +kernel
theorem dX8_why_9 : decode cX8_why 9 = .ok (.iload 4, 2) := by decide +kernel
theorem dX8_why_11 : decode cX8_why 11 = .ok (.aload_n 0, 1) := by decide +kernel
theorem dX8_why_12 : decode cX8_why 12 = .ok (.getfield 162, 3) := by decide +kernel
theorem dX8_why_15 : decode cX8_why 15 = .ok (.if_icmp .ge 46, 3) := by decide +kernel
theorem dX8_why_18 : decode cX8_why 18 = .ok (.iload_n 3, 1) := by decide +kernel
theorem dX8_why_19 : decode cX8_why 19 = .ok (.ifCond .ne 42, 3) := by decide +kernel
theorem dX8_why_22 : decode cX8_why 22 = .ok (.aload_n 0, 1) := by decide +kernel
theorem dX8_why_23 : decode cX8_why 23 = .ok (.invokevirtual 208, 3) := by decide +kernel
theorem dX8_why_26 : decode cX8_why 26 = .ok (.aload_n 0, 1) := by decide +kernel
theorem dX8_why_27 : decode cX8_why 27 = .ok (.iload 4, 2) := by decide +kernel
theorem dX8_why_29 : decode cX8_why 29 = .ok (.invokevirtual 211, 3) := by decide +kernel
theorem dX8_why_32 : decode cX8_why 32 = .ok (.iload_n 2, 1) := by decide +kernel
theorem dX8_why_33 : decode cX8_why 33 = .ok (.iconst 0, 1) := by decide +kernel
theorem dX8_why_34 : decode cX8_why 34 = .ok (.sipush 191, 3) := by decide +kernel
theorem dX8_why_37 : decode cX8_why 37 = .ok (.invokestatic 93, 3) := by decide +kernel
theorem dX8_why_40 : decode cX8_why 40 = .ok (.ifCond .eq 15, 3) := by decide +kernel
theorem dX8_why_43 : decode cX8_why 43 = .ok (.aload_n 0, 1) := by decide +kernel
theorem dX8_why_44 : decode cX8_why 44 = .ok (.getfield 83, 3) := by decide +kernel
theorem dX8_why_47 : decode cX8_why 47 = .ok (.iload_n 2, 1) := by decide +kernel
theorem dX8_why_48 : decode cX8_why 48 = .ok (.baload, 1) := by decide +kernel
theorem dX8_why_49 : decode cX8_why 49 = .ok (.ifCond .eq 6, 3) := by decide +kernel
theorem dX8_why_52 : decode cX8_why 52 = .ok (.iload 4, 2) := by decide +kernel
theorem dX8_why_54 : decode cX8_why 54 = .ok (.ireturn, 1) := by decide +kernel
theorem dX8_why_55 : decode cX8_why 55 = .ok (.iinc 4 1, 3) := by decide +kernel
theorem dX8_why_58 : decode cX8_why 58 = .ok (.goto (-49), 3) := by decide +kernel
theorem dX8_why_61 : decode cX8_why 61 = .ok (.iload_n 3, 1) := by decide +kernel
theorem dX8_why_62 : decode cX8_why 62 = .ok (.ifCond .ge 7, 3) := by decide +kernel
theorem dX8_why_65 : decode cX8_why 65 = .ok (.iload_n 3, 1) := by decide +kernel
theorem dX8_why_66 : decode cX8_why 66 = .ok (.goto 4, 3) := by decide +kernel
theorem dX8_why_69 : decode cX8_why 69 = .ok (.iconst (-1), 1) := by decide +kernel
theorem dX8_why_70 : decode cX8_why 70 = .ok (.ireturn, 1) := by decide +kernel
abbrev rm_c_Model_why_b : Room := { frames := 2, cells := 0, slots := 0, locals := 46 }
set_option maxHeartbeats 4000000 in
set_option maxRecDepth 100000 in
theorem c_Model_why_b (l : Launch) (dC : Nat → ClassId) (dI : Nat → Nat → Nat) (cI cL cQ cZ : ClassId) (x0 : Nat) (ax : Nat) (z1 : Nat) (z2 : Nat) (z3 : Nat) (fc : Nat) (z5 : Nat) (z6 : Nat) (z7 : Nat) (qs : Nat) (z9 : Nat) (z10 : Nat) (z11 : Nat) (z12 : Nat) (z13 : Nat) (hd : Option Nat) (lg : Bool) (fcn : Nat) (z17 : Nat) (z18 : Nat) (z19 : Nat) (md : Nat) (z21 : Nat) (z22 : Nat) (z23 : Nat) (z24 : Nat) (hc : Nat) (z26 : Nat) (z27 : Nat) (z28 : Nat) (z29 : Nat) (z30 : Nat) (z31 : Nat) (sm : Bool) (z33 : Nat) (z34 : Nat) (qn : Nat → Nat) (q : Int32) (x : Int32) (hqs : qs ≤ 6) (hqn : ∀ j7, qn j7 ≤ 4) (hbad : m_in q (nI 0) (nI qs - nI 1) = false ∨ ∃ qi, q = nI qi ∧ qi < qs ∧ qn qi = 0) (hcn : fcn ≤ 90) : Met l yX8_why wkX8_why rm_c_Model_why_b (q_R (dC, dI) qCl (qT cI cL cQ cZ) [(x0, .inr (8, mO ax z1 z2 z3 fc z5 z6 z7 qs z9 z10 z11 z12 z13 hd lg fcn z17 z18 z19 md z21 z22 z23 z24 hc z26 z27 z28 z29 z30 z31 sm z33 z34)), (z10, .inl (cI, 6, .inl (nF qn)))] [.ref x0, .int (q), .int (x)]) (vp_Si (fun r => r = (oI (none)))) 0 0 (fun _ => False) := by
  refine Met.ofW (cc := cX8_why) (maxL := 5) (ret := (some .int)) (by decide) rfl ?_
  intro p e s m args below meth c s₁ B hml hv
  obtain ⟨hargs, hP, hK⟩ := hv
  have hx := B.exec
  have hb := B.bytes
  have hr := B.returns
  have hts : ∀ w ∈ qW, w.before args s = true := fun w h => atoms_spec (ws := wkX8_why) B.pre w (List.mem_cons_of_mem _ h)
  have hown : s.vm.findClass RX8 = some m.cls := findClass_of_methodNamed B.named
  have hlocks := B.notSynchronized
  refine q_named (fun Q hQ => ?_)
  refine q_entry hargs (Nat.le_of_ble_eq_true rfl) (fun ls hl => ?_)
  have hl : lv_has ls 5 [(0, .ref x0), (1, .int (q)), (2, .int (x))] := hl
  refine lv_aload_n hx hb dX8_why_0 rfl (lv_at hl 0 rfl) ?_
  refine lv_iload_n hx hb dX8_why_1 rfl (lv_at hl 1 rfl) ?_
  refine vp_callSi (va_Run.run (va_runV (As := [.int (q)]) (rest := []) ⟨hx, hb, hml, hown, hts⟩ (c_Model_makeFor_b l dC dI cI cL cQ cZ x0 ax z1 z2 z3 fc z5 z6 z7 qs z9 z10 z11 z12 z13 hd lg fcn z17 z18 z19 md z21 z22 z23 z24 hc z26 z27 z28 z29 z30 z31 sm z33 z34 qn q (show qs ≤ 6 from by first | assumption | omega) (show ∀ j7, qn j7 ≤ 4 from by first | assumption | omega) (show m_in q (nI 0) (nI qs - nI 1) = false ∨ ∃ qi, q = nI qi ∧ qi < qs ∧ qn qi = 0 from by (exact hbad))) (q_cwV 1 hts gkX8_makeFor kmX8_196 knX8_makeFor klX8_makeFor kiX8 rfl rfl rfl (by decide +kernel) ⟨Nat.le_of_ble_eq_true rfl, Nat.le_of_ble_eq_true rfl⟩) (q_preV hK hP [0, 1] rfl 0 (ci := 8) (r := (RX8, TX8, 35)) rfl rfl) rfl rfl hl.1 rfl (lv_room (Nat.le_of_ble_eq_true rfl)) dX8_why_2 ⟨Nat.zero_le _, Nat.zero_le _⟩)) (fun r1 hr1 => ?_)
  subst hr1
  refine lv_istore_n (lv' := [(3, .int (oI (none))), (0, .ref x0), (1, .int (q)), (2, .int (x))]) hx hb dX8_why_5 rfl hl (by decide) rfl (fun ls hl => ?_)
  refine lv_iconst (v := (nI (0))) hx hb dX8_why_6 (by decide) ?_
  refine lv_istore (lv' := [(4, .int (nI (0))), (3, .int (oI (none))), (0, .ref x0), (1, .int (q)), (2, .int (x))]) hx hb dX8_why_7 hl (by decide) rfl (fun ls hl => ?_)
  have L9 : ∀ (fu : Nat) (f : Nat) (ls : Array Slot), 0 - f < fu → (f = 0) → lv_has ls 5 [(4, .int (nI (f))), (3, .int (oI (none))), (0, .ref x0), (1, .int (q)), (2, .int (x))] → W p l e (headSpec wkX8_why rm_c_Model_why_b).room s m args below meth c s.heap [] 0 0 Q (F0 m 9 ls []) := by
    intro fu
    induction fu with
    | zero => intro f ls hmu; exact absurd hmu (Nat.not_lt_zero _)
    | succ fu ih9 =>
      intro f ls hmu hf hl
      refine lv_iload hx hb dX8_why_9 (lv_at hl 0 rfl) ?_
      refine lv_aload_n hx hb dX8_why_11 rfl (lv_at hl 2 rfl) ?_
      refine va_get (D := (dC, dI)) (ci := 8) (v := .int (nI (fcn))) (C := RX8) (T := TX8) (N := 35) hx hb hts uX8 hown hK hP 0 rfl rfl 16 (by decide) (hts _ kfX8_162) (fun _ h9 => h9) rfl dX8_why_12 ?_
      refine q_icmp_ge (x := f) (y := fcn) (tgt := 61) hx hb dX8_why_15 (by decide) (by omega) (by omega) (fun c15_2 => ?_) (fun c15_2 => ?_)
      · refine lv_iload_n hx hb dX8_why_61 rfl (lv_at hl 1 rfl) ?_
        refine q_ifO_ge (x := none) (tgt := 69) hx hb dX8_why_62 (by decide) (by (intro k9 h9; cases h9)) (fun c62_3 => ?_) (fun c62_3 => ?_)
        · exact absurd rfl (by assumption)
        · refine lv_iload_n hx hb dX8_why_65 rfl (lv_at hl 1 rfl) ?_
          refine lv_goto (tgt := 70) hx hb dX8_why_66 (by decide) ?_
          subst hQ
          exact W.iret (v := (oI (none))) hx hb hr (fun t9 h9 _ => ⟨_, rfl, rfl, h9⟩) (fun q hq => by cases hq) dX8_why_70
      · refine lv_iload_n hx hb dX8_why_18 rfl (lv_at hl 1 rfl) ?_
        refine lv_if_ne (tgt := 61) hx hb dX8_why_19 (by decide) (fun c19_4 => ?_) (fun c19_4 => ?_)
        · refine lv_iload_n hx hb dX8_why_61 rfl (lv_at hl 1 rfl) ?_
          refine q_ifO_ge (x := none) (tgt := 69) hx hb dX8_why_62 (by decide) (by (intro k9 h9; cases h9)) (fun c62_5 => ?_) (fun c62_5 => ?_)
          · exact absurd rfl (by assumption)
          · refine lv_iload_n hx hb dX8_why_65 rfl (lv_at hl 1 rfl) ?_
            refine lv_goto (tgt := 70) hx hb dX8_why_66 (by decide) ?_
            subst hQ
            exact W.iret (v := (oI (none))) hx hb hr (fun t9 h9 _ => ⟨_, rfl, rfl, h9⟩) (fun q hq => by cases hq) dX8_why_70
        · exact absurd (show oI none = 0 by assumption) (by decide)
  exact L9 _ 0 ls (by exact Nat.lt_succ_self _) (show 0 = 0 from by omega) (lv_sub hl [0, 1, 2, 3, 4] rfl)
