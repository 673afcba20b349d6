abbrev cX8_answer : ByteArray := prog_10_method_41_code
def yX8_answer : MethodName := ⟨RX8, "answer", "(II)I"⟩
def wkX8_answer : List Cond := .code yX8_answer cX8_answer 6 (some .int) :: qW
set_option maxRecDepth 40000 in
theorem gkX8_answer : GoodIn qW wkX8_answer := q_good (qw 825 rfl rfl)
set_option maxRecDepth 40000 in
theorem knX8_answer : Cond.instanceMethod yX8_answer ∈ qW := qw 823 rfl rfl
set_option maxRecDepth 40000 in
theorem klX8_answer : Cond.selects RX8 yX8_answer yX8_answer ∈ qW := qw 824 rfl rfl
theorem dX8_answer_0 : decode cX8_answer 0 = .ok (.aload_n 0, 1) := by decide +kernel
theorem dX8_answer_1 : decode cX8_answer 1 = .ok (.iload_n 1, 1) := by decide +kernel
theorem dX8_answer_2 : decode cX8_answer 2 = .ok (.invokevirtual 214, 3) := by decide +kernel
theorem dX8_answer_5 : decode cX8_answer 5 = .ok (.istore_n 3, 1) := by decide +kernel
theorem dX8_answer_6 : decode cX8_answer 6 = .ok (.iconst 0, 1) := by decide +kernel
theorem dX8_answer_7 : decode cX8_answer 7 = .ok (.istore 4, 2) := by decide +kernel
theorem dX8_answer_9 : decode cX8_answer 9 = .ok (.iconst 0, 1) := by decide +kernel
theorem dX8_answer_10 : decode cX8_answer 10 = .ok (.istore 5, 2) := by decide +kernel
theorem dX8_answer_12 : decode cX8_answer 12 = .ok (.iload 5, 2) := by decide +kernel
theorem dX8_answer_14 : decode cX8_answer 14 = .ok (.sipush 192, 3) := by decide +kernel
theorem dX8_answer_17 : decode cX8_answer 17 = .ok (.if_icmp .ge 35, 3) := by decide +kernel
theorem dX8_answer_20 : decode cX8_answer 20 = .ok (.iload_n 3, 1) := by decide +kernel
theorem dX8_answer_21 : decode cX8_answer 21 = .ok (.ifCond .ne 31, 3) := by decide +kernel
theorem dX8_answer_24 : decode cX8_answer 24 = .ok (.aload_n 0, 1) := by decide +kernel
theorem dX8_answer_25 : decode cX8_answer 25 = .ok (.getfield 83, 3) := by decide +kernel
theorem dX8_answer_28 : decode cX8_answer 28 = .ok (.iload 5, 2) := by decide +kernel
theorem dX8_answer_30 : decode cX8_answer 30 = .ok (.baload, 1) := by decide +kernel
theorem dX8_answer_31 : decode cX8_answer 31 = .ok (.ifCond .eq 15, 3) := by decide +kernel
theorem dX8_answer_34 : decode cX8_answer 34 = .ok (.iload 4, 2) := by decide +kernel
theorem dX8_answer_36 : decode cX8_answer 36 = .ok (.iload_n 2, 1) := by decide +kernel
theorem dX8_answer_37 : decode cX8_answer 37 = .ok (.if_icmp .ne 6, 3) := by decide +kernel
theorem dX8_answer_40 : decode cX8_answer 40 = .ok (.iload 5, 2) := by decide +kernel
theorem dX8_answer_42 : decode cX8_answer 42 = .ok (.ireturn, 1) := by decide +kernel
theorem dX8_answer_43 : decode cX8_answer 43 = .ok (.iinc 4 1, 3) := by decide +kernel
theorem dX8_answer_46 : decode cX8_answer 46 = .ok (.iinc 5 1, 3) := by decide +kernel
theorem dX8_answer_49 : decode cX8_answer 49 = .ok (.goto (-37), 3) := by decide +kernel
theorem dX8_answer_52 : decode cX8_answer 52 = .ok (.iload_n 3, 1) := by decide +kernel
theorem dX8_answer_53 : decode cX8_answer 53 = .ok (.ifCond .ge 7, 3) := by decide +kernel
theorem dX8_answer_56 : decode cX8_answer 56 = .ok (.iload_n 3, 1) := by decide +kernel
theorem dX8_answer_57 : decode cX8_answer 57 = .ok (.goto 4, 3) := by decide +kernel
theorem dX8_answer_60 : decode cX8_answer 60 = .ok (.iconst (-1), 1) := by decide +kernel
theorem dX8_answer_61 : decode cX8_answer 61 = .ok (.ireturn, 1) := by decide +kernel
abbrev rm_c_Model_answer_b : Room := { frames := 3, cells := 0, slots := 0, locals := 69 }
set_option maxHeartbeats 4000000 in
set_option maxRecDepth 100000 in
theorem c_Model_answer_b (l : Launch) (dC : Nat → ClassId) (dI : Nat → Nat → Nat) (cI cL cQ cZ : ClassId) (x0 : Nat) (ax : Nat) (z1 : Nat) (z2 : Nat) (z3 : Nat) (fc : Nat) (z5 : Nat) (z6 : Nat) (z7 : Nat) (qs : Nat) (z9 : Nat) (z10 : Nat) (z11 : Nat) (z12 : Nat) (z13 : Nat) (hd : Option Nat) (lg : Bool) (fcn : Nat) (z17 : Nat) (z18 : Nat) (z19 : Nat) (md : Nat) (z21 : Nat) (z22 : Nat) (z23 : Nat) (z24 : Nat) (hc : Nat) (z26 : Nat) (z27 : Nat) (z28 : Nat) (z29 : Nat) (z30 : Nat) (z31 : Nat) (sm : Bool) (z33 : Nat) (z34 : Nat) (qn : Nat → Nat) (fnd : Nat → Bool) (q : Int32) (x : Int32) (hqs : qs ≤ 6) (hqn : ∀ j7, qn j7 ≤ 4) (hbad : m_in q (nI 0) (nI qs - nI 1) = false ∨ ∃ qi, q = nI qi ∧ qi < qs ∧ qn qi = 0) (hcn : fcn ≤ 90) : Met l yX8_answer wkX8_answer rm_c_Model_answer_b (q_W (dC, dI) qCl (qT cI cL cQ cZ) [(x0, .inr (8, mO ax z1 z2 z3 fc z5 z6 z7 qs z9 z10 z11 z12 z13 hd lg fcn z17 z18 z19 md z21 z22 z23 z24 hc z26 z27 z28 z29 z30 z31 sm z33 z34)), (z10, .inl (cI, 6, .inl (nF qn))), (z31, .inl (cZ, 192, .inl (bF fnd)))] [.ref x0, .int (q), .int (x)]) (va_Qi (fun (r : Int32) (u : Unit) => (r = (oI (none)))) (fun (u : Unit) t => va_P (dC, dI) qCl [(x0, .inr (8, mO ax z1 z2 z3 fc z5 z6 z7 qs z9 z10 z11 z12 z13 hd lg fcn z17 z18 z19 md z21 z22 z23 z24 hc z26 z27 z28 z29 z30 z31 false z33 z34)), (z10, .inl (cI, 6, .inl (nF qn))), (z31, .inl (cZ, 192, .inl (bF (fun _ => false))))] t.heap) (q_A [(x0, .inr (8, mO ax z1 z2 z3 fc z5 z6 z7 qs z9 z10 z11 z12 z13 hd lg fcn z17 z18 z19 md z21 z22 z23 z24 hc z26 z27 z28 z29 z30 z31 sm z33 z34)), (z10, .inl (cI, 6, .inl (nF qn))), (z31, .inl (cZ, 192, .inl (bF fnd)))])) 0 0 (q_A [(x0, .inr (8, mO ax z1 z2 z3 fc z5 z6 z7 qs z9 z10 z11 z12 z13 hd lg fcn z17 z18 z19 md z21 z22 z23 z24 hc z26 z27 z28 z29 z30 z31 sm z33 z34)), (z10, .inl (cI, 6, .inl (nF qn))), (z31, .inl (cZ, 192, .inl (bF fnd)))]) := by
  refine Met.ofW (cc := cX8_answer) (maxL := 6) (ret := (some .int)) (by decide) rfl ?_
  intro p e s m args below meth c s₁ B hml hv
  obtain ⟨hargs, hP, hK, hD0⟩ := hv
  have hx := B.exec
  have hb := B.bytes
  have hr := B.returns
  have hts : ∀ w ∈ qW, w.before args s = true := fun w h => atoms_spec (ws := wkX8_answer) B.pre w (List.mem_cons_of_mem _ h)
  have hown : s.vm.findClass RX8 = some m.cls := findClass_of_methodNamed B.named
  have hlocks := B.notSynchronized
  refine q_named (fun Q hQ => ?_)
  have hD : va_D (q_A [(x0, .inr (8, mO ax z1 z2 z3 fc z5 z6 z7 qs z9 z10 z11 z12 z13 hd lg fcn z17 z18 z19 md z21 z22 z23 z24 hc z26 z27 z28 z29 z30 z31 sm z33 z34)), (z10, .inl (cI, 6, .inl (nF qn))), (z31, .inl (cZ, 192, .inl (bF fnd)))]) [(x0, .inr (8, mO ax z1 z2 z3 fc z5 z6 z7 qs z9 z10 z11 z12 z13 hd lg fcn z17 z18 z19 md z21 z22 z23 z24 hc z26 z27 z28 z29 z30 z31 sm z33 z34)), (z10, .inl (cI, 6, .inl (nF qn))), (z31, .inl (cZ, 192, .inl (bF fnd)))] := ⟨hD0.1, fun k q h => ⟨k, q.2, h⟩⟩
  generalize hAe : q_A [(x0, .inr (8, mO ax z1 z2 z3 fc z5 z6 z7 qs z9 z10 z11 z12 z13 hd lg fcn z17 z18 z19 md z21 z22 z23 z24 hc z26 z27 z28 z29 z30 z31 sm z33 z34)), (z10, .inl (cI, 6, .inl (nF qn))), (z31, .inl (cZ, 192, .inl (bF fnd)))] = A at hD
  have hS : va_S A s.heap s.heap [] := va_S.rf
  refine q_entry hargs (Nat.le_of_ble_eq_true rfl) (fun ls hl => ?_)
  have hl : lv_has ls 6 [(0, .ref x0), (1, .int (q)), (2, .int (x))] := hl
  obtain ⟨H, locs, eH, eL⟩ : ∃ (H : Heap) (locs : List Loc), s.heap = H ∧ ([] : List Loc) = locs := ⟨_, _, rfl, rfl⟩
  have hS : va_S A s.heap H locs := by rw [← eH, ← eL]; exact hS
  have hP : va_P (dC, dI) qCl [(x0, .inr (8, mO ax z1 z2 z3 fc z5 z6 z7 qs z9 z10 z11 z12 z13 hd lg fcn z17 z18 z19 md z21 z22 z23 z24 hc z26 z27 z28 z29 z30 z31 sm z33 z34)), (z10, .inl (cI, 6, .inl (nF qn))), (z31, .inl (cZ, 192, .inl (bF fnd)))] H := by rw [← eH]; exact hP
  refine W_at eH eL ?_
  refine lv_aload_n hx hb dX8_answer_0 rfl (lv_at hl 0 rfl) ?_
  refine lv_iload_n hx hb dX8_answer_1 rfl (lv_at hl 1 rfl) ?_
  refine q_joini (wr := []) (va_runV (As := [.int (q)]) (rest := []) ⟨hx, hb, hml, hown, hts⟩ (c_Model_findAll_b l dC dI cI cL cQ cZ x0 ax z1 z2 z3 fc z5 z6 z7 qs z9 z10 z11 z12 z13 hd lg fcn z17 z18 z19 md z21 z22 z23 z24 hc z26 z27 z28 z29 z30 z31 sm z33 z34 qn fnd q (show qs ≤ 6 from by first | assumption | omega) (show ∀ j7, qn j7 ≤ 4 from by first | assumption | omega) (show m_in q (nI 0) (nI qs - nI 1) = false ∨ ∃ qi, q = nI qi ∧ qi < qs ∧ qn qi = 0 from by (exact hbad)) (show fcn ≤ 90 from by first | assumption | omega)) (q_cwV 1 hts gkX8_findAll kmX8_214 knX8_findAll klX8_findAll kiX8 rfl rfl rfl (by decide +kernel) ⟨Nat.le_of_ble_eq_true rfl, Nat.le_of_ble_eq_true rfl⟩) (q_preVW hK hP hD [0, 1, 2] rfl (by decide) 0 (ci := 8) (r := (RX8, TX8, 35)) rfl rfl) rfl rfl hl.1 rfl (lv_room (Nat.le_of_ble_eq_true rfl)) dX8_answer_2 ⟨Nat.zero_le _, Nat.zero_le _⟩) hP hD hS [0, 1, 2] [] rfl rfl (by decide) (fun _ => rfl) (fun r1 _ H locs hq2 hP hD hS => ?_)
  have hq2 : (r1 = (oI (none))) := hq2
  have er1 := hq2
  have hlast := er1
  subst er1
  have hP : va_P (dC, dI) qCl [(x0, .inr (8, mO ax z1 z2 z3 fc z5 z6 z7 qs z9 z10 z11 z12 z13 hd lg fcn z17 z18 z19 md z21 z22 z23 z24 hc z26 z27 z28 z29 z30 z31 false z33 z34)), (z10, .inl (cI, 6, .inl (nF qn))), (z31, .inl (cZ, 192, .inl (bF (fun _ => false))))] H := hP
  have hD : va_D A [(x0, .inr (8, mO ax z1 z2 z3 fc z5 z6 z7 qs z9 z10 z11 z12 z13 hd lg fcn z17 z18 z19 md z21 z22 z23 z24 hc z26 z27 z28 z29 z30 z31 false z33 z34)), (z10, .inl (cI, 6, .inl (nF qn))), (z31, .inl (cZ, 192, .inl (bF (fun _ => false))))] := hD
  refine lv_istore_n (lv' := [(3, .int (oI (none))), (0, .ref x0), (1, .int (q)), (2, .int (x))]) hx hb dX8_answer_5 rfl hl (by decide) rfl (fun ls hl => ?_)
  refine lv_iconst (v := (nI (0))) hx hb dX8_answer_6 (by decide) ?_
  refine lv_istore (lv' := [(4, .int (nI (0))), (3, .int (oI (none))), (0, .ref x0), (1, .int (q)), (2, .int (x))]) hx hb dX8_answer_7 hl (by decide) rfl (fun ls hl => ?_)
  refine lv_iconst (v := (nI (0))) hx hb dX8_answer_9 (by decide) ?_
  refine lv_istore (lv' := [(5, .int (nI (0))), (4, .int (nI (0))), (3, .int (oI (none))), (0, .ref x0), (1, .int (q)), (2, .int (x))]) hx hb dX8_answer_10 hl (by decide) rfl (fun ls hl => ?_)
  have L12 : ∀ (fu : Nat) (k : Nat) (ls : Array Slot) (H : Heap) (locs : List Loc), 0 - k < fu → (k = 0) → lv_has ls 6 [(5, .int (nI (k))), (4, .int (nI (0))), (3, .int (oI (none))), (0, .ref x0), (1, .int (q)), (2, .int (x))] → va_P (dC, dI) qCl [(x0, .inr (8, mO ax z1 z2 z3 fc z5 z6 z7 qs z9 z10 z11 z12 z13 hd lg fcn z17 z18 z19 md z21 z22 z23 z24 hc z26 z27 z28 z29 z30 z31 false z33 z34)), (z10, .inl (cI, 6, .inl (nF qn))), (z31, .inl (cZ, 192, .inl (bF (fun _ => false))))] H → va_D A [(x0, .inr (8, mO ax z1 z2 z3 fc z5 z6 z7 qs z9 z10 z11 z12 z13 hd lg fcn z17 z18 z19 md z21 z22 z23 z24 hc z26 z27 z28 z29 z30 z31 false z33 z34)), (z10, .inl (cI, 6, .inl (nF qn))), (z31, .inl (cZ, 192, .inl (bF (fun _ => false))))] → va_S A s.heap H locs → W p l e (headSpec wkX8_answer rm_c_Model_answer_b).room s m args below meth c H locs 0 0 Q (F0 m 12 ls []) := by
    intro fu
    induction fu with
    | zero => intro k ls H locs hmu; exact absurd hmu (Nat.not_lt_zero _)
    | succ fu ih12 =>
      intro k ls H locs hmu hk hl hP hD hS
      refine lv_iload hx hb dX8_answer_12 (lv_at hl 0 rfl) ?_
      refine lv_sipush (v := (nI (192))) hx hb dX8_answer_14 (by decide) ?_
      refine q_icmp_ge (x := k) (y := 192) (tgt := 52) hx hb dX8_answer_17 (by decide) (by omega) (by omega) (fun c17_3 => ?_) (fun c17_3 => ?_)
      · refine lv_iload_n hx hb dX8_answer_52 rfl (lv_at hl 2 rfl) ?_
        refine q_ifO_ge (x := none) (tgt := 60) hx hb dX8_answer_53 (by decide) (by (intro k9 h9; cases h9)) (fun c53_4 => ?_) (fun c53_4 => ?_)
        · exact absurd rfl (by assumption)
        · refine lv_iload_n hx hb dX8_answer_56 rfl (lv_at hl 2 rfl) ?_
          refine lv_goto (tgt := 61) hx hb dX8_answer_57 (by decide) ?_
          subst hQ
          subst hAe
          have hP9 := hP.sub (ws' := [(x0, .inr (8, mO ax z1 z2 z3 fc z5 z6 z7 qs z9 z10 z11 z12 z13 hd lg fcn z17 z18 z19 md z21 z22 z23 z24 hc z26 z27 z28 z29 z30 z31 false z33 z34)), (z10, .inl (cI, 6, .inl (nF qn))), (z31, .inl (cZ, 192, .inl (bF (fun _ => false))))]) [0, 1, 2] rfl
          exact W.iret (v := (oI (none))) hx hb hr (fun t9 h9 _ => ⟨⟨(oI (none)), (), rfl, rfl, by show va_P _ _ _ t9.heap; rw [h9]; exact hP9⟩, hS.F h9⟩) hS.2.2 dX8_answer_61
      · refine lv_iload_n hx hb dX8_answer_20 rfl (lv_at hl 2 rfl) ?_
        refine lv_if_ne (tgt := 52) hx hb dX8_answer_21 (by decide) (fun c21_5 => ?_) (fun c21_5 => ?_)
        · refine lv_iload_n hx hb dX8_answer_52 rfl (lv_at hl 2 rfl) ?_
          refine q_ifO_ge (x := none) (tgt := 60) hx hb dX8_answer_53 (by decide) (by (intro k9 h9; cases h9)) (fun c53_6 => ?_) (fun c53_6 => ?_)
          · exact absurd rfl (by assumption)
          · refine lv_iload_n hx hb dX8_answer_56 rfl (lv_at hl 2 rfl) ?_
            refine lv_goto (tgt := 61) hx hb dX8_answer_57 (by decide) ?_
            subst hQ
            subst hAe
            have hP9 := hP.sub (ws' := [(x0, .inr (8, mO ax z1 z2 z3 fc z5 z6 z7 qs z9 z10 z11 z12 z13 hd lg fcn z17 z18 z19 md z21 z22 z23 z24 hc z26 z27 z28 z29 z30 z31 false z33 z34)), (z10, .inl (cI, 6, .inl (nF qn))), (z31, .inl (cZ, 192, .inl (bF (fun _ => false))))]) [0, 1, 2] rfl
            exact W.iret (v := (oI (none))) hx hb hr (fun t9 h9 _ => ⟨⟨(oI (none)), (), rfl, rfl, by show va_P _ _ _ t9.heap; rw [h9]; exact hP9⟩, hS.F h9⟩) hS.2.2 dX8_answer_61
        · exact absurd (show oI none = 0 by assumption) (by decide)
  exact L12 _ 0 ls _ _ (by exact Nat.lt_succ_self _) (show 0 = 0 from by omega) (lv_sub hl [0, 1, 2, 3, 4, 5] rfl) (hP.sub [0, 1, 2] rfl) (hD.sub [0, 1, 2] (by decide) rfl) hS
