abbrev cX8_run : ByteArray := prog_10_method_40_code
def yX8_run : MethodName := ⟨RX8, "run", "(I)I"⟩
def wkX8_run : List Cond := .code yX8_run cX8_run 5 (some .int) :: qW
set_option maxRecDepth 40000 in
theorem gkX8_run : GoodIn qW wkX8_run := q_good (qw 801 rfl rfl)
set_option maxRecDepth 40000 in
theorem knX8_run : Cond.instanceMethod yX8_run ∈ qW := qw 799 rfl rfl
set_option maxRecDepth 40000 in
theorem klX8_run : Cond.selects RX8 yX8_run yX8_run ∈ qW := qw 800 rfl rfl
theorem dX8_run_0 : decode cX8_run 0 = .ok (.aload_n 0, 1) := by decide +kernel
theorem dX8_run_1 : decode cX8_run 1 = .ok (.iload_n 1, 1) := by decide +kernel
theorem dX8_run_2 : decode cX8_run 2 = .ok (.invokevirtual 214, 3) := by decide +kernel
theorem dX8_run_5 : decode cX8_run 5 = .ok (.istore_n 2, 1) := by decide +kernel
theorem dX8_run_6 : decode cX8_run 6 = .ok (.iconst 0, 1) := by decide +kernel
theorem dX8_run_7 : decode cX8_run 7 = .ok (.istore_n 3, 1) := by decide +kernel
theorem dX8_run_8 : decode cX8_run 8 = .ok (.iconst 0, 1) := by decide +kernel
theorem dX8_run_9 : decode cX8_run 9 = .ok (.istore 4, 2) := by decide +kernel
theorem dX8_run_11 : decode cX8_run 11 = .ok (.iload 4, 2) := by decide +kernel
theorem dX8_run_13 : decode cX8_run 13 = .ok (.sipush 192, 3) := by decide +kernel
theorem dX8_run_16 : decode cX8_run 16 = .ok (.if_icmp .ge 27, 3) := by decide +kernel
theorem dX8_run_19 : decode cX8_run 19 = .ok (.iload_n 3, 1) := by decide +kernel
theorem dX8_run_20 : decode cX8_run 20 = .ok (.aload_n 0, 1) := by decide +kernel
theorem dX8_run_21 : decode cX8_run 21 = .ok (.getfield 83, 3) := by decide +kernel
theorem dX8_run_24 : decode cX8_run 24 = .ok (.iload 4, 2) := by decide +kernel
theorem dX8_run_26 : decode cX8_run 26 = .ok (.baload, 1) := by decide +kernel
theorem dX8_run_27 : decode cX8_run 27 = .ok (.ifCond .eq 7, 3) := by decide +kernel
theorem dX8_run_30 : decode cX8_run 30 = .ok (.iconst 1, 1) := by decide +kernel
theorem dX8_run_31 : decode cX8_run 31 = .ok (.goto 4, 3) := by decide +kernel
theorem dX8_run_34 : decode cX8_run 34 = .ok (.iconst 0, 1) := by decide +kernel
theorem dX8_run_35 : decode cX8_run 35 = .ok (.iadd, 1) := by decide +kernel
theorem dX8_run_36 : decode cX8_run 36 = .ok (.istore_n 3, 1) := by decide +kernel
theorem dX8_run_37 : decode cX8_run 37 = .ok (.iinc 4 1, 3) := by decide +kernel
theorem dX8_run_40 : decode cX8_run 40 = .ok (.goto (-29), 3) := by decide +kernel
theorem dX8_run_43 : decode cX8_run 43 = .ok (.iload_n 2, 1) := by decide +kernel
theorem dX8_run_44 : decode cX8_run 44 = .ok (.ifCond .ge 7, 3) := by decide +kernel
theorem dX8_run_47 : decode cX8_run 47 = .ok (.iload_n 2, 1) := by decide +kernel
theorem dX8_run_48 : decode cX8_run 48 = .ok (.goto 4, 3) := by decide +kernel
theorem dX8_run_51 : decode cX8_run 51 = .ok (.iload_n 3, 1) := by decide +kernel
theorem dX8_run_52 : decode cX8_run 52 = .ok (.ireturn, 1) := by decide +kernel
set_option maxRecDepth 40000 in
theorem kmX8_214 : Cond.methodLink RX8 214 yX8_findAll ∈ qW := qw 802 rfl rfl
abbrev rm_c_Model_run_b : Room := { frames := 3, cells := 0, slots := 0, locals := 69 }
set_option maxHeartbeats 4000000 in
set_option maxRecDepth 100000 in
theorem c_Model_run_b (l : Launch) (dC : Nat → ClassId) (dI : Nat → Nat → Nat) (cI cL cQ cZ : ClassId) (x0 : Nat) (ax : Nat) (z1 : Nat) (z2 : Nat) (z3 : Nat) (fc : Nat) (z5 : Nat) (z6 : Nat) (z7 : Nat) (qs : Nat) (z9 : Nat) (z10 : Nat) (z11 : Nat) (z12 : Nat) (z13 : Nat) (hd : Option Nat) (lg : Bool) (fcn : Nat) (z17 : Nat) (z18 : Nat) (z19 : Nat) (md : Nat) (z21 : Nat) (z22 : Nat) (z23 : Nat) (z24 : Nat) (hc : Nat) (z26 : Nat) (z27 : Nat) (z28 : Nat) (z29 : Nat) (z30 : Nat) (z31 : Nat) (sm : Bool) (z33 : Nat) (z34 : Nat) (qn : Nat → Nat) (fnd : Nat → Bool) (q : Int32) (hqs : qs ≤ 6) (hqn : ∀ j7, qn j7 ≤ 4) (hbad : m_in q (nI 0) (nI qs - nI 1) = false ∨ ∃ qi, q = nI qi ∧ qi < qs ∧ qn qi = 0) (hcn : fcn ≤ 90) : Met l yX8_run wkX8_run rm_c_Model_run_b (q_W (dC, dI) qCl (qT cI cL cQ cZ) [(x0, .inr (8, mO ax z1 z2 z3 fc z5 z6 z7 qs z9 z10 z11 z12 z13 hd lg fcn z17 z18 z19 md z21 z22 z23 z24 hc z26 z27 z28 z29 z30 z31 sm z33 z34)), (z10, .inl (cI, 6, .inl (nF qn))), (z31, .inl (cZ, 192, .inl (bF fnd)))] [.ref x0, .int (q)]) (va_Qi (fun (r : Int32) (u : Unit) => (r = (oI (none)))) (fun (u : Unit) t => va_P (dC, dI) qCl [(x0, .inr (8, mO ax z1 z2 z3 fc z5 z6 z7 qs z9 z10 z11 z12 z13 hd lg fcn z17 z18 z19 md z21 z22 z23 z24 hc z26 z27 z28 z29 z30 z31 false z33 z34)), (z10, .inl (cI, 6, .inl (nF qn))), (z31, .inl (cZ, 192, .inl (bF (fun _ => false))))] t.heap) (q_A [(x0, .inr (8, mO ax z1 z2 z3 fc z5 z6 z7 qs z9 z10 z11 z12 z13 hd lg fcn z17 z18 z19 md z21 z22 z23 z24 hc z26 z27 z28 z29 z30 z31 sm z33 z34)), (z10, .inl (cI, 6, .inl (nF qn))), (z31, .inl (cZ, 192, .inl (bF fnd)))])) 0 0 (q_A [(x0, .inr (8, mO ax z1 z2 z3 fc z5 z6 z7 qs z9 z10 z11 z12 z13 hd lg fcn z17 z18 z19 md z21 z22 z23 z24 hc z26 z27 z28 z29 z30 z31 sm z33 z34)), (z10, .inl (cI, 6, .inl (nF qn))), (z31, .inl (cZ, 192, .inl (bF fnd)))]) := by
  refine Met.ofW (cc := cX8_run) (maxL := 5) (ret := (some .int)) (by decide) rfl ?_
  intro p e s m args below meth c s₁ B hml hv
  obtain ⟨hargs, hP, hK, hD0⟩ := hv
  have hx := B.exec
  have hb := B.bytes
  have hr := B.returns
  have hts : ∀ w ∈ qW, w.before args s = true := fun w h => atoms_spec (ws := wkX8_run) B.pre w (List.mem_cons_of_mem _ h)
  have hown : s.vm.findClass RX8 = some m.cls := findClass_of_methodNamed B.named
  have hlocks := B.notSynchronized
  refine q_named (fun Q hQ => ?_)
  have hD : va_D (q_A [(x0, .inr (8, mO ax z1 z2 z3 fc z5 z6 z7 qs z9 z10 z11 z12 z13 hd lg fcn z17 z18 z19 md z21 z22 z23 z24 hc z26 z27 z28 z29 z30 z31 sm z33 z34)), (z10, .inl (cI, 6, .inl (nF qn))), (z31, .inl (cZ, 192, .inl (bF fnd)))]) [(x0, .inr (8, mO ax z1 z2 z3 fc z5 z6 z7 qs z9 z10 z11 z12 z13 hd lg fcn z17 z18 z19 md z21 z22 z23 z24 hc z26 z27 z28 z29 z30 z31 sm z33 z34)), (z10, .inl (cI, 6, .inl (nF qn))), (z31, .inl (cZ, 192, .inl (bF fnd)))] := ⟨hD0.1, fun k q h => ⟨k, q.2, h⟩⟩
  generalize hAe : q_A [(x0, .inr (8, mO ax z1 z2 z3 fc z5 z6 z7 qs z9 z10 z11 z12 z13 hd lg fcn z17 z18 z19 md z21 z22 z23 z24 hc z26 z27 z28 z29 z30 z31 sm z33 z34)), (z10, .inl (cI, 6, .inl (nF qn))), (z31, .inl (cZ, 192, .inl (bF fnd)))] = A at hD
  have hS : va_S A s.heap s.heap [] := va_S.rf
  refine q_entry hargs (Nat.le_of_ble_eq_true rfl) (fun ls hl => ?_)
  have hl : lv_has ls 5 [(0, .ref x0), (1, .int (q))] := hl
  obtain ⟨H, locs, eH, eL⟩ : ∃ (H : Heap) (locs : List Loc), s.heap = H ∧ ([] : List Loc) = locs := ⟨_, _, rfl, rfl⟩
  have hS : va_S A s.heap H locs := by rw [← eH, ← eL]; exact hS
  have hP : va_P (dC, dI) qCl [(x0, .inr (8, mO ax z1 z2 z3 fc z5 z6 z7 qs z9 z10 z11 z12 z13 hd lg fcn z17 z18 z19 md z21 z22 z23 z24 hc z26 z27 z28 z29 z30 z31 sm z33 z34)), (z10, .inl (cI, 6, .inl (nF qn))), (z31, .inl (cZ, 192, .inl (bF fnd)))] H := by rw [← eH]; exact hP
  refine W_at eH eL ?_
  refine lv_aload_n hx hb dX8_run_0 rfl (lv_at hl 0 rfl) ?_
  refine lv_iload_n hx hb dX8_run_1 rfl (lv_at hl 1 rfl) ?_
  refine q_joini (wr := []) (va_runV (As := [.int (q)]) (rest := []) ⟨hx, hb, hml, hown, hts⟩ (c_Model_findAll_b l dC dI cI cL cQ cZ x0 ax z1 z2 z3 fc z5 z6 z7 qs z9 z10 z11 z12 z13 hd lg fcn z17 z18 z19 md z21 z22 z23 z24 hc z26 z27 z28 z29 z30 z31 sm z33 z34 qn fnd q (show qs ≤ 6 from by first | assumption | omega) (show ∀ j7, qn j7 ≤ 4 from by first | assumption | omega) (show m_in q (nI 0) (nI qs - nI 1) = false ∨ ∃ qi, q = nI qi ∧ qi < qs ∧ qn qi = 0 from by (exact hbad)) (show fcn ≤ 90 from by first | assumption | omega)) (q_cwV 1 hts gkX8_findAll kmX8_214 knX8_findAll klX8_findAll kiX8 rfl rfl rfl (by decide +kernel) ⟨Nat.le_of_ble_eq_true rfl, Nat.le_of_ble_eq_true rfl⟩) (q_preVW hK hP hD [0, 1, 2] rfl (by decide) 0 (ci := 8) (r := (RX8, TX8, 35)) rfl rfl) rfl rfl hl.1 rfl (lv_room (Nat.le_of_ble_eq_true rfl)) dX8_run_2 ⟨Nat.zero_le _, Nat.zero_le _⟩) hP hD hS [0, 1, 2] [] rfl rfl (by decide) (fun _ => rfl) (fun r1 _ H locs hq2 hP hD hS => ?_)
  have hq2 : (r1 = (oI (none))) := hq2
  have er1 := hq2
  have hlast := er1
  subst er1
  have hP : va_P (dC, dI) qCl [(x0, .inr (8, mO ax z1 z2 z3 fc z5 z6 z7 qs z9 z10 z11 z12 z13 hd lg fcn z17 z18 z19 md z21 z22 z23 z24 hc z26 z27 z28 z29 z30 z31 false z33 z34)), (z10, .inl (cI, 6, .inl (nF qn))), (z31, .inl (cZ, 192, .inl (bF (fun _ => false))))] H := hP
  have hD : va_D A [(x0, .inr (8, mO ax z1 z2 z3 fc z5 z6 z7 qs z9 z10 z11 z12 z13 hd lg fcn z17 z18 z19 md z21 z22 z23 z24 hc z26 z27 z28 z29 z30 z31 false z33 z34)), (z10, .inl (cI, 6, .inl (nF qn))), (z31, .inl (cZ, 192, .inl (bF (fun _ => false))))] := hD
  refine lv_istore_n (lv' := [(2, .int (oI (none))), (0, .ref x0), (1, .int (q))]) hx hb dX8_run_5 rfl hl (by decide) rfl (fun ls hl => ?_)
  refine lv_iconst (v := (nI (0))) hx hb dX8_run_6 (by decide) ?_
  refine lv_istore_n (lv' := [(3, .int (nI (0))), (2, .int (oI (none))), (0, .ref x0), (1, .int (q))]) hx hb dX8_run_7 rfl hl (by decide) rfl (fun ls hl => ?_)
  refine lv_iconst (v := (nI (0))) hx hb dX8_run_8 (by decide) ?_
  refine lv_istore (lv' := [(4, .int (nI (0))), (3, .int (nI (0))), (2, .int (oI (none))), (0, .ref x0), (1, .int (q))]) hx hb dX8_run_9 hl (by decide) rfl (fun ls hl => ?_)
  have L11 : ∀ (fu : Nat) (cn : Nat) (k : Nat) (ls : Array Slot) (H : Heap) (locs : List Loc), 192 - k < fu → (k ≤ 192) → lv_has ls 5 [(4, .int (nI (k))), (3, .int (nI (cn))), (2, .int (oI (none))), (0, .ref x0), (1, .int (q))] → va_P (dC, dI) qCl [(x0, .inr (8, mO ax z1 z2 z3 fc z5 z6 z7 qs z9 z10 z11 z12 z13 hd lg fcn z17 z18 z19 md z21 z22 z23 z24 hc z26 z27 z28 z29 z30 z31 false z33 z34)), (z10, .inl (cI, 6, .inl (nF qn))), (z31, .inl (cZ, 192, .inl (bF (fun _ => false))))] H → va_D A [(x0, .inr (8, mO ax z1 z2 z3 fc z5 z6 z7 qs z9 z10 z11 z12 z13 hd lg fcn z17 z18 z19 md z21 z22 z23 z24 hc z26 z27 z28 z29 z30 z31 false z33 z34)), (z10, .inl (cI, 6, .inl (nF qn))), (z31, .inl (cZ, 192, .inl (bF (fun _ => false))))] → va_S A s.heap H locs → W p l e (headSpec wkX8_run rm_c_Model_run_b).room s m args below meth c H locs 0 0 Q (F0 m 11 ls []) := by
    intro fu
    induction fu with
    | zero => intro cn k ls H locs hmu; exact absurd hmu (Nat.not_lt_zero _)
    | succ fu ih11 =>
      intro cn k ls H locs hmu hk hl hP hD hS
      refine lv_iload hx hb dX8_run_11 (lv_at hl 0 rfl) ?_
      refine lv_sipush (v := (nI (192))) hx hb dX8_run_13 (by decide) ?_
      refine q_icmp_ge (x := k) (y := 192) (tgt := 43) hx hb dX8_run_16 (by decide) (by omega) (by omega) (fun c16_3 => ?_) (fun c16_3 => ?_)
      · refine lv_iload_n hx hb dX8_run_43 rfl (lv_at hl 2 rfl) ?_
        refine q_ifO_ge (x := none) (tgt := 51) hx hb dX8_run_44 (by decide) (by (intro k9 h9; cases h9)) (fun c44_4 => ?_) (fun c44_4 => ?_)
        · exact absurd rfl (by assumption)
        · refine lv_iload_n hx hb dX8_run_47 rfl (lv_at hl 2 rfl) ?_
          refine lv_goto (tgt := 52) hx hb dX8_run_48 (by decide) ?_
          subst hQ
          subst hAe
          have hP9 := hP.sub (ws' := [(x0, .inr (8, mO ax z1 z2 z3 fc z5 z6 z7 qs z9 z10 z11 z12 z13 hd lg fcn z17 z18 z19 md z21 z22 z23 z24 hc z26 z27 z28 z29 z30 z31 false z33 z34)), (z10, .inl (cI, 6, .inl (nF qn))), (z31, .inl (cZ, 192, .inl (bF (fun _ => false))))]) [0, 1, 2] rfl
          exact W.iret (v := (oI (none))) hx hb hr (fun t9 h9 _ => ⟨⟨(oI (none)), (), rfl, rfl, by show va_P _ _ _ t9.heap; rw [h9]; exact hP9⟩, hS.F h9⟩) hS.2.2 dX8_run_52
      · refine lv_iload_n hx hb dX8_run_19 rfl (lv_at hl 1 rfl) ?_
        refine lv_aload_n hx hb dX8_run_20 rfl (lv_at hl 3 rfl) ?_
        refine va_get (D := (dC, dI)) (ci := 8) (v := .ref z31) (C := RX8) (T := TX8) (N := 35) hx hb hts uX8 hown hK hP 0 rfl rfl 31 (by decide) (hts _ kfX8_83) (fun _ h9 => h9) rfl dX8_run_21 ?_
        refine lv_iload hx hb dX8_run_24 (lv_at hl 0 rfl) ?_
        refine q_zald hx hb hK hP 2 3 rfl rfl (j := k) (by omega) (by omega) dX8_run_26 ?_
        refine q_ifb_eq (b := (fun _ => false) k) (tgt := 34) hx hb dX8_run_27 (by decide) (fun c27_5 => ?_) (fun c27_5 => ?_)
        · refine lv_iconst (v := (nI (0))) hx hb dX8_run_34 (by decide) ?_
          refine q_iadd (x := cn) (y := 0) hx hb dX8_run_35 ?_
          refine lv_istore_n (lv' := [(3, .int (nI (cn + 0))), (4, .int (nI (k))), (2, .int (oI (none))), (0, .ref x0), (1, .int (q))]) hx hb dX8_run_36 rfl hl (by decide) rfl (fun ls hl => ?_)
          refine lv_iinc (v := (nI (k + 1))) (lv' := [(4, .int (nI (k + 1))), (3, .int (nI (cn + 0))), (2, .int (oI (none))), (0, .ref x0), (1, .int (q))]) hx hb dX8_run_37 hl (k := 1) rfl (q_inc _) (by decide) rfl (fun ls hl => ?_)
          refine lv_goto (tgt := 11) hx hb dX8_run_40 (by decide) ?_
          exact ih11 (cn + 0) (k + 1) ls _ _ (by omega) (show (k + 1) ≤ 192 from by omega) (lv_sub hl [0, 1, 2, 3, 4] rfl) (hP.sub [0, 1, 2] rfl) (hD.sub [0, 1, 2] (by decide) rfl) hS
        · refine lv_iconst (v := (nI (1))) hx hb dX8_run_30 (by decide) ?_
          refine lv_goto (tgt := 35) hx hb dX8_run_31 (by decide) ?_
          refine q_iadd (x := cn) (y := 1) hx hb dX8_run_35 ?_
          refine lv_istore_n (lv' := [(3, .int (nI (cn + 1))), (4, .int (nI (k))), (2, .int (oI (none))), (0, .ref x0), (1, .int (q))]) hx hb dX8_run_36 rfl hl (by decide) rfl (fun ls hl => ?_)
          refine lv_iinc (v := (nI (k + 1))) (lv' := [(4, .int (nI (k + 1))), (3, .int (nI (cn + 1))), (2, .int (oI (none))), (0, .ref x0), (1, .int (q))]) hx hb dX8_run_37 hl (k := 1) rfl (q_inc _) (by decide) rfl (fun ls hl => ?_)
          refine lv_goto (tgt := 11) hx hb dX8_run_40 (by decide) ?_
          exact ih11 (cn + 1) (k + 1) ls _ _ (by omega) (show (k + 1) ≤ 192 from by omega) (lv_sub hl [0, 1, 2, 3, 4] rfl) (hP.sub [0, 1, 2] rfl) (hD.sub [0, 1, 2] (by decide) rfl) hS
  exact L11 _ 0 0 ls _ _ (by exact Nat.lt_succ_self _) (show 0 ≤ 192 from by omega) (lv_sub hl [0, 1, 2, 3, 4] rfl) (hP.sub [0, 1, 2] rfl) (hD.sub [0, 1, 2] (by decide) rfl) hS
