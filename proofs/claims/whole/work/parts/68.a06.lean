abbrev cX8_findAll : ByteArray := prog_10_method_39_code
def yX8_findAll : MethodName := ⟨RX8, "findAll", "(I)I"⟩
def wkX8_findAll : List Cond := .code yX8_findAll cX8_findAll 4 (some .int) :: qW
set_option maxRecDepth 40000 in
theorem gkX8_findAll : GoodIn qW wkX8_findAll := q_good (qw 805 rfl rfl)
set_option maxRecDepth 40000 in
theorem knX8_findAll : Cond.instanceMethod yX8_findAll ∈ qW := qw 804 rfl rfl
set_option maxRecDepth 40000 in
theorem klX8_findAll : Cond.selects RX8 yX8_findAll yX8_findAll ∈ qW := qw 37 rfl rfl
theorem dX8_findAll_0 : decode cX8_findAll 0 = .ok (.aload_n 0, 1) := by decide +kernel
theorem dX8_findAll_1 : decode cX8_findAll 1 = .ok (.iload_n 1, 1) := by decide +kernel
theorem dX8_findAll_2 : decode cX8_findAll 2 = .ok (.invokevirtual 196, 3) := by decide +kernel
theorem dX8_findAll_5 : decode cX8_findAll 5 = .ok (.istore_n 2, 1) := by decide +kernel
theorem dX8_findAll_6 : decode cX8_findAll 6 = .ok (.aload_n 0, 1) := by decide +kernel
theorem dX8_findAll_7 : decode cX8_findAll 7 = .ok (.invokevirtual 208, 3) := by decide +kernel
theorem dX8_findAll_10 : decode cX8_findAll 10 = .ok (.iconst 0, 1) := by decide +kernel
theorem dX8_findAll_11 : decode cX8_findAll 11 = .ok (.istore_n 3, 1) := by decide +kernel
theorem dX8_findAll_12 : decode cX8_findAll 12 = .ok (.iload_n 3, 1) := by decide +kernel
theorem dX8_findAll_13 : decode cX8_findAll 13 = .ok (.aload_n 0, 1) := by decide +kernel
theorem dX8_findAll_14 : decode cX8_findAll 14 = .ok (.getfield 162, 3) := by decide +kernel
theorem dX8_findAll_17 : decode cX8_findAll 17 = .ok (.if_icmp .ge 18, 3) := by decide +kernel
theorem dX8_findAll_20 : decode cX8_findAll 20 = .ok (.iload_n 2, 1) := by decide +kernel
theorem dX8_findAll_21 : decode cX8_findAll 21 = .ok (.ifCond .ne 14, 3) := by decide +kernel
theorem dX8_findAll_24 : decode cX8_findAll 24 = .ok (.aload_n 0, 1) := by decide +kernel
theorem dX8_findAll_25 : decode cX8_findAll 25 = .ok (.iload_n 3, 1) := by decide +kernel
theorem dX8_findAll_26 : decode cX8_findAll 26 = .ok (.invokevirtual 211, 3) := by decide +kernel
theorem dX8_findAll_29 : decode cX8_findAll 29 = .ok (.iinc 3 1, 3) := by decide +kernel
theorem dX8_findAll_32 : decode cX8_findAll 32 = .ok (.goto (-20), 3) := by decide +kernel
theorem dX8_findAll_35 : decode cX8_findAll 35 = .ok (.iload_n 2, 1) := by decide +kernel
theorem dX8_findAll_36 : decode cX8_findAll 36 = .ok (.ireturn, 1) := by decide +kernel
set_option maxRecDepth 40000 in
theorem kmX8_208 : Cond.methodLink RX8 208 yX8_blank ∈ qW := qw 806 rfl rfl
abbrev rm_c_Model_findAll_b : Room := { frames := 2, cells := 0, slots := 0, locals := 46 }
set_option maxHeartbeats 4000000 in
set_option maxRecDepth 100000 in
theorem c_Model_findAll_b (l : Launch) (dC : Nat → ClassId) (dI : Nat → Nat → Nat) (cI cL cQ cZ : ClassId) (x0 : Nat) (ax : Nat) (z1 : Nat) (z2 : Nat) (z3 : Nat) (fc : Nat) (z5 : Nat) (z6 : Nat) (z7 : Nat) (qs : Nat) (z9 : Nat) (z10 : Nat) (z11 : Nat) (z12 : Nat) (z13 : Nat) (hd : Option Nat) (lg : Bool) (fcn : Nat) (z17 : Nat) (z18 : Nat) (z19 : Nat) (md : Nat) (z21 : Nat) (z22 : Nat) (z23 : Nat) (z24 : Nat) (hc : Nat) (z26 : Nat) (z27 : Nat) (z28 : Nat) (z29 : Nat) (z30 : Nat) (z31 : Nat) (sm : Bool) (z33 : Nat) (z34 : Nat) (qn : Nat → Nat) (fnd : Nat → Bool) (q : Int32) (hqs : qs ≤ 6) (hqn : ∀ j7, qn j7 ≤ 4) (hbad : m_in q (nI 0) (nI qs - nI 1) = false ∨ ∃ qi, q = nI qi ∧ qi < qs ∧ qn qi = 0) (hcn : fcn ≤ 90) : Met l yX8_findAll wkX8_findAll rm_c_Model_findAll_b (q_W (dC, dI) qCl (qT cI cL cQ cZ) [(x0, .inr (8, mO ax z1 z2 z3 fc z5 z6 z7 qs z9 z10 z11 z12 z13 hd lg fcn z17 z18 z19 md z21 z22 z23 z24 hc z26 z27 z28 z29 z30 z31 sm z33 z34)), (z10, .inl (cI, 6, .inl (nF qn))), (z31, .inl (cZ, 192, .inl (bF fnd)))] [.ref x0, .int (q)]) (va_Qi (fun (r : Int32) (u : Unit) => (r = (oI (none)))) (fun (u : Unit) t => va_P (dC, dI) qCl [(x0, .inr (8, mO ax z1 z2 z3 fc z5 z6 z7 qs z9 z10 z11 z12 z13 hd lg fcn z17 z18 z19 md z21 z22 z23 z24 hc z26 z27 z28 z29 z30 z31 false z33 z34)), (z10, .inl (cI, 6, .inl (nF qn))), (z31, .inl (cZ, 192, .inl (bF (fun _ => false))))] t.heap) (q_A [(x0, .inr (8, mO ax z1 z2 z3 fc z5 z6 z7 qs z9 z10 z11 z12 z13 hd lg fcn z17 z18 z19 md z21 z22 z23 z24 hc z26 z27 z28 z29 z30 z31 sm z33 z34)), (z10, .inl (cI, 6, .inl (nF qn))), (z31, .inl (cZ, 192, .inl (bF fnd)))])) 0 0 (q_A [(x0, .inr (8, mO ax z1 z2 z3 fc z5 z6 z7 qs z9 z10 z11 z12 z13 hd lg fcn z17 z18 z19 md z21 z22 z23 z24 hc z26 z27 z28 z29 z30 z31 sm z33 z34)), (z10, .inl (cI, 6, .inl (nF qn))), (z31, .inl (cZ, 192, .inl (bF fnd)))]) := by
  refine Met.ofW (cc := cX8_findAll) (maxL := 4) (ret := (some .int)) (by decide) rfl ?_
  intro p e s m args below meth c s₁ B hml hv
  obtain ⟨hargs, hP, hK, hD0⟩ := hv
  have hx := B.exec
  have hb := B.bytes
  have hr := B.returns
  have hts : ∀ w ∈ qW, w.before args s = true := fun w h => atoms_spec (ws := wkX8_findAll) B.pre w (List.mem_cons_of_mem _ h)
  have hown : s.vm.findClass RX8 = some m.cls := findClass_of_methodNamed B.named
  have hlocks := B.notSynchronized
  refine q_named (fun Q hQ => ?_)
  have hD : va_D (q_A [(x0, .inr (8, mO ax z1 z2 z3 fc z5 z6 z7 qs z9 z10 z11 z12 z13 hd lg fcn z17 z18 z19 md z21 z22 z23 z24 hc z26 z27 z28 z29 z30 z31 sm z33 z34)), (z10, .inl (cI, 6, .inl (nF qn))), (z31, .inl (cZ, 192, .inl (bF fnd)))]) [(x0, .inr (8, mO ax z1 z2 z3 fc z5 z6 z7 qs z9 z10 z11 z12 z13 hd lg fcn z17 z18 z19 md z21 z22 z23 z24 hc z26 z27 z28 z29 z30 z31 sm z33 z34)), (z10, .inl (cI, 6, .inl (nF qn))), (z31, .inl (cZ, 192, .inl (bF fnd)))] := ⟨hD0.1, fun k q h => ⟨k, q.2, h⟩⟩
  generalize hAe : q_A [(x0, .inr (8, mO ax z1 z2 z3 fc z5 z6 z7 qs z9 z10 z11 z12 z13 hd lg fcn z17 z18 z19 md z21 z22 z23 z24 hc z26 z27 z28 z29 z30 z31 sm z33 z34)), (z10, .inl (cI, 6, .inl (nF qn))), (z31, .inl (cZ, 192, .inl (bF fnd)))] = A at hD
  have hS : va_S A s.heap s.heap [] := va_S.rf
  refine q_entry hargs (Nat.le_of_ble_eq_true rfl) (fun ls hl => ?_)
  have hl : lv_has ls 4 [(0, .ref x0), (1, .int (q))] := hl
  obtain ⟨H, locs, eH, eL⟩ : ∃ (H : Heap) (locs : List Loc), s.heap = H ∧ ([] : List Loc) = locs := ⟨_, _, rfl, rfl⟩
  have hS : va_S A s.heap H locs := by rw [← eH, ← eL]; exact hS
  have hP : va_P (dC, dI) qCl [(x0, .inr (8, mO ax z1 z2 z3 fc z5 z6 z7 qs z9 z10 z11 z12 z13 hd lg fcn z17 z18 z19 md z21 z22 z23 z24 hc z26 z27 z28 z29 z30 z31 sm z33 z34)), (z10, .inl (cI, 6, .inl (nF qn))), (z31, .inl (cZ, 192, .inl (bF fnd)))] H := by rw [← eH]; exact hP
  refine W_at eH eL ?_
  refine lv_aload_n hx hb dX8_findAll_0 rfl (lv_at hl 0 rfl) ?_
  refine lv_iload_n hx hb dX8_findAll_1 rfl (lv_at hl 1 rfl) ?_
  refine vp_callSi (va_Run.run (va_runV (As := [.int (q)]) (rest := []) ⟨hx, hb, hml, hown, hts⟩ (c_Model_makeFor_b l dC dI cI cL cQ cZ x0 ax z1 z2 z3 fc z5 z6 z7 qs z9 z10 z11 z12 z13 hd lg fcn z17 z18 z19 md z21 z22 z23 z24 hc z26 z27 z28 z29 z30 z31 sm z33 z34 qn q (show qs ≤ 6 from by first | assumption | omega) (show ∀ j7, qn j7 ≤ 4 from by first | assumption | omega) (show m_in q (nI 0) (nI qs - nI 1) = false ∨ ∃ qi, q = nI qi ∧ qi < qs ∧ qn qi = 0 from by (exact hbad))) (q_cwV 1 hts gkX8_makeFor kmX8_196 knX8_makeFor klX8_makeFor kiX8 rfl rfl rfl (by decide +kernel) ⟨Nat.le_of_ble_eq_true rfl, Nat.le_of_ble_eq_true rfl⟩) (q_preV hK hP [0, 1] rfl 0 (ci := 8) (r := (RX8, TX8, 35)) rfl rfl) rfl rfl hl.1 rfl (lv_room (Nat.le_of_ble_eq_true rfl)) dX8_findAll_2 ⟨Nat.zero_le _, Nat.zero_le _⟩)) (fun r1 hr1 => ?_)
  subst hr1
  refine lv_istore_n (lv' := [(2, .int (oI (none))), (0, .ref x0), (1, .int (q))]) hx hb dX8_findAll_5 rfl hl (by decide) rfl (fun ls hl => ?_)
  refine lv_aload_n hx hb dX8_findAll_6 rfl (lv_at hl 1 rfl) ?_
  refine q_joinv (wr := [(z10, .inl (cI, 6, .inl (nF qn)))]) (va_runV (As := []) (rest := []) ⟨hx, hb, hml, hown, hts⟩ (c_Model_blank l dC dI cI cL cQ cZ x0 ax z1 z2 z3 fc z5 z6 z7 qs z9 z10 z11 z12 z13 hd lg fcn z17 z18 z19 md z21 z22 z23 z24 hc z26 z27 z28 z29 z30 z31 sm z33 z34 fnd ) (q_cwV 0 hts gkX8_blank kmX8_208 knX8_blank klX8_blank kiX8 rfl rfl rfl (by decide +kernel) ⟨Nat.le_of_ble_eq_true rfl, Nat.le_of_ble_eq_true rfl⟩) (q_preVW hK hP hD [0, 2] rfl (by decide) 0 (ci := 8) (r := (RX8, TX8, 35)) rfl rfl) rfl rfl hl.1 rfl (lv_room (Nat.le_of_ble_eq_true rfl)) dX8_findAll_7 ⟨Nat.zero_le _, Nat.zero_le _⟩) hP hD hS [0, 2] [1] rfl rfl (by decide) (fun _ => rfl) (fun _ H locs hq3 hP hD hS => ?_)
  have hP : va_P (dC, dI) qCl [(z10, .inl (cI, 6, .inl (nF qn))), (x0, .inr (8, mO ax z1 z2 z3 fc z5 z6 z7 qs z9 z10 z11 z12 z13 hd lg fcn z17 z18 z19 md z21 z22 z23 z24 hc z26 z27 z28 z29 z30 z31 false z33 z34)), (z31, .inl (cZ, 192, .inl (bF (fun _ => false))))] H := hP
  have hD : va_D A [(z10, .inl (cI, 6, .inl (nF qn))), (x0, .inr (8, mO ax z1 z2 z3 fc z5 z6 z7 qs z9 z10 z11 z12 z13 hd lg fcn z17 z18 z19 md z21 z22 z23 z24 hc z26 z27 z28 z29 z30 z31 false z33 z34)), (z31, .inl (cZ, 192, .inl (bF (fun _ => false))))] := hD
  refine lv_iconst (v := (nI (0))) hx hb dX8_findAll_10 (by decide) ?_
  refine lv_istore_n (lv' := [(3, .int (nI (0))), (2, .int (oI (none))), (0, .ref x0), (1, .int (q))]) hx hb dX8_findAll_11 rfl hl (by decide) rfl (fun ls hl => ?_)
  have L12 : ∀ (fu : Nat) (f : Nat) (ls : Array Slot) (H : Heap) (locs : List Loc), 0 - f < fu → (f = 0) → lv_has ls 4 [(3, .int (nI (f))), (2, .int (oI (none))), (0, .ref x0), (1, .int (q))] → va_P (dC, dI) qCl [(z10, .inl (cI, 6, .inl (nF qn))), (x0, .inr (8, mO ax z1 z2 z3 fc z5 z6 z7 qs z9 z10 z11 z12 z13 hd lg fcn z17 z18 z19 md z21 z22 z23 z24 hc z26 z27 z28 z29 z30 z31 false z33 z34)), (z31, .inl (cZ, 192, .inl (bF (fun _ => false))))] H → va_D A [(z10, .inl (cI, 6, .inl (nF qn))), (x0, .inr (8, mO ax z1 z2 z3 fc z5 z6 z7 qs z9 z10 z11 z12 z13 hd lg fcn z17 z18 z19 md z21 z22 z23 z24 hc z26 z27 z28 z29 z30 z31 false z33 z34)), (z31, .inl (cZ, 192, .inl (bF (fun _ => false))))] → va_S A s.heap H locs → W p l e (headSpec wkX8_findAll rm_c_Model_findAll_b).room s m args below meth c H locs 0 0 Q (F0 m 12 ls []) := by
    intro fu
    induction fu with
    | zero => intro f ls H locs hmu; exact absurd hmu (Nat.not_lt_zero _)
    | succ fu ih12 =>
      intro f ls H locs hmu hf hl hP hD hS
      refine lv_iload_n hx hb dX8_findAll_12 rfl (lv_at hl 0 rfl) ?_
      refine lv_aload_n hx hb dX8_findAll_13 rfl (lv_at hl 2 rfl) ?_
      refine va_get (D := (dC, dI)) (ci := 8) (v := .int (nI (fcn))) (C := RX8) (T := TX8) (N := 35) hx hb hts uX8 hown hK hP 1 rfl rfl 16 (by decide) (hts _ kfX8_162) (fun _ h9 => h9) rfl dX8_findAll_14 ?_
      refine q_icmp_ge (x := f) (y := fcn) (tgt := 35) hx hb dX8_findAll_17 (by decide) (by omega) (by omega) (fun c17_4 => ?_) (fun c17_4 => ?_)
      · refine lv_iload_n hx hb dX8_findAll_35 rfl (lv_at hl 1 rfl) ?_
        subst hQ
        subst hAe
        have hP9 := hP.sub (ws' := [(x0, .inr (8, mO ax z1 z2 z3 fc z5 z6 z7 qs z9 z10 z11 z12 z13 hd lg fcn z17 z18 z19 md z21 z22 z23 z24 hc z26 z27 z28 z29 z30 z31 false z33 z34)), (z10, .inl (cI, 6, .inl (nF qn))), (z31, .inl (cZ, 192, .inl (bF (fun _ => false))))]) [1, 0, 2] rfl
        exact W.iret (v := (oI (none))) hx hb hr (fun t9 h9 _ => ⟨⟨(oI (none)), (), rfl, rfl, by show va_P _ _ _ t9.heap; rw [h9]; exact hP9⟩, hS.F h9⟩) hS.2.2 dX8_findAll_36
      · refine lv_iload_n hx hb dX8_findAll_20 rfl (lv_at hl 1 rfl) ?_
        refine lv_if_ne (tgt := 35) hx hb dX8_findAll_21 (by decide) (fun c21_5 => ?_) (fun c21_5 => ?_)
        · refine lv_iload_n hx hb dX8_findAll_35 rfl (lv_at hl 1 rfl) ?_
          subst hQ
          subst hAe
          have hP9 := hP.sub (ws' := [(x0, .inr (8, mO ax z1 z2 z3 fc z5 z6 z7 qs z9 z10 z11 z12 z13 hd lg fcn z17 z18 z19 md z21 z22 z23 z24 hc z26 z27 z28 z29 z30 z31 false z33 z34)), (z10, .inl (cI, 6, .inl (nF qn))), (z31, .inl (cZ, 192, .inl (bF (fun _ => false))))]) [1, 0, 2] rfl
          exact W.iret (v := (oI (none))) hx hb hr (fun t9 h9 _ => ⟨⟨(oI (none)), (), rfl, rfl, by show va_P _ _ _ t9.heap; rw [h9]; exact hP9⟩, hS.F h9⟩) hS.2.2 dX8_findAll_36
        · exact absurd (show oI none = 0 by assumption) (by decide)
  exact L12 _ 0 ls _ _ (by exact Nat.lt_succ_self _) (show 0 = 0 from by omega) (lv_sub hl [0, 1, 2, 3] rfl) (hP.sub [0, 1, 2] rfl) (hD.sub [0, 1, 2] (by decide) rfl) hS
