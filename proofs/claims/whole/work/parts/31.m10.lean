abbrev cX8_blank : ByteArray := prog_10_method_38_code
def yX8_blank : MethodName := ⟨RX8, "blank", "()V"⟩
def wkX8_blank : List Cond := .code yX8_blank cX8_blank 2 none :: qW
set_option maxRecDepth 40000 in
theorem gkX8_blank : GoodIn qW wkX8_blank := q_good (qw 809 rfl rfl)
set_option maxRecDepth 40000 in
theorem knX8_blank : Cond.instanceMethod yX8_blank ∈ qW := qw 808 rfl rfl
set_option maxRecDepth 40000 in
theorem klX8_blank : Cond.selects RX8 yX8_blank yX8_blank ∈ qW := qw 38 rfl rfl
theorem dX8_blank_0 : decode cX8_blank 0 = .ok (.iconst 0, 1) := by decide +kernel
theorem dX8_blank_1 : decode cX8_blank 1 = .ok (.istore_n 1, 1) := by decide +kernel
theorem dX8_blank_2 : decode cX8_blank 2 = .ok (.iload_n 1, 1) := by decide +kernel
theorem dX8_blank_3 : decode cX8_blank 3 = .ok (.sipush 192, 3) := by decide +kernel
theorem dX8_blank_6 : decode cX8_blank 6 = .ok (.if_icmp .ge 16, 3) := by decide +kernel
theorem dX8_blank_9 : decode cX8_blank 9 = .ok (.aload_n 0, 1) := by decide +kernel
theorem dX8_blank_10 : decode cX8_blank 10 = .ok (.getfield 83, 3) := by decide +kernel
theorem dX8_blank_13 : decode cX8_blank 13 = .ok (.iload_n 1, 1) := by decide +kernel
theorem dX8_blank_14 : decode cX8_blank 14 = .ok (.iconst 0, 1) := by decide +kernel
theorem dX8_blank_15 : decode cX8_blank 15 = .ok (.bastore, 1) := by decide +kernel
theorem dX8_blank_16 : decode cX8_blank 16 = .ok (.iinc 1 1, 3) := by decide +kernel
theorem dX8_blank_19 : decode cX8_blank 19 = .ok (.goto (-17), 3) := by decide +kernel
theorem dX8_blank_22 : decode cX8_blank 22 = .ok (.aload_n 0, 1) := by decide +kernel
theorem dX8_blank_23 : decode cX8_blank 23 = .ok (.iconst 0, 1) := by decide +kernel
theorem dX8_blank_24 : decode cX8_blank 24 = .ok (.putfield 199, 3) := by decide +kernel
theorem dX8_blank_27 : decode cX8_blank 27 = .ok (.return_, 1) := by decide +kernel
set_option maxRecDepth 40000 in
theorem kfX8_199 : Cond.fieldLink RX8 199 "QlRewriteModel" "some" "Z" ∈ qW := qw 602 rfl rfl
set_option maxRecDepth 40000 in
theorem kfX8_83 : Cond.fieldLink RX8 83 "QlRewriteModel" "found" "[Z" ∈ qW := qw 601 rfl rfl
abbrev rm_c_Model_blank : Room := { frames := 0, cells := 0, slots := 0, locals := 0 }
set_option maxHeartbeats 4000000 in
set_option maxRecDepth 100000 in
theorem c_Model_blank (l : Launch) (dC : Nat → ClassId) (dI : Nat → Nat → Nat) (cI cL cQ cZ : ClassId) (x0 : Nat) (ax : Nat) (z1 : Nat) (z2 : Nat) (z3 : Nat) (fc : Nat) (z5 : Nat) (z6 : Nat) (z7 : Nat) (qs : Nat) (z9 : Nat) (z10 : Nat) (z11 : Nat) (z12 : Nat) (z13 : Nat) (hd : Option Nat) (lg : Bool) (fcn : Nat) (z17 : Nat) (z18 : Nat) (z19 : Nat) (md : Nat) (z21 : Nat) (z22 : Nat) (z23 : Nat) (z24 : Nat) (hc : Nat) (z26 : Nat) (z27 : Nat) (z28 : Nat) (z29 : Nat) (z30 : Nat) (z31 : Nat) (sm : Bool) (z33 : Nat) (z34 : Nat) (fnd : Nat → Bool)  : Met l yX8_blank wkX8_blank rm_c_Model_blank (q_W (dC, dI) qCl (qT cI cL cQ cZ) [(x0, .inr (8, mO ax z1 z2 z3 fc z5 z6 z7 qs z9 z10 z11 z12 z13 hd lg fcn z17 z18 z19 md z21 z22 z23 z24 hc z26 z27 z28 z29 z30 z31 sm z33 z34)), (z31, .inl (cZ, 192, .inl (bF fnd)))] [.ref x0]) (va_Qv (fun (u : Unit) => True) (fun (u : Unit) t => va_P (dC, dI) qCl [(x0, .inr (8, mO ax z1 z2 z3 fc z5 z6 z7 qs z9 z10 z11 z12 z13 hd lg fcn z17 z18 z19 md z21 z22 z23 z24 hc z26 z27 z28 z29 z30 z31 false z33 z34)), (z31, .inl (cZ, 192, .inl (bF (fun _ => false))))] t.heap) (q_A [(x0, .inr (8, mO ax z1 z2 z3 fc z5 z6 z7 qs z9 z10 z11 z12 z13 hd lg fcn z17 z18 z19 md z21 z22 z23 z24 hc z26 z27 z28 z29 z30 z31 sm z33 z34)), (z31, .inl (cZ, 192, .inl (bF fnd)))])) 0 0 (q_A [(x0, .inr (8, mO ax z1 z2 z3 fc z5 z6 z7 qs z9 z10 z11 z12 z13 hd lg fcn z17 z18 z19 md z21 z22 z23 z24 hc z26 z27 z28 z29 z30 z31 sm z33 z34)), (z31, .inl (cZ, 192, .inl (bF fnd)))]) := by
  refine Met.ofW (cc := cX8_blank) (maxL := 2) (ret := none) (by decide) rfl ?_
  intro p e s m args below meth c s₁ B hml hv
  obtain ⟨hargs, hP, hK, hD0⟩ := hv
  have hx := B.exec
  have hb := B.bytes
  have hr := B.returns
  have hts : ∀ w ∈ qW, w.before args s = true := fun w h => atoms_spec (ws := wkX8_blank) B.pre w (List.mem_cons_of_mem _ h)
  have hown : s.vm.findClass RX8 = some m.cls := findClass_of_methodNamed B.named
  have hlocks := B.notSynchronized
  refine q_named (fun Q hQ => ?_)
  have hD : va_D (q_A [(x0, .inr (8, mO ax z1 z2 z3 fc z5 z6 z7 qs z9 z10 z11 z12 z13 hd lg fcn z17 z18 z19 md z21 z22 z23 z24 hc z26 z27 z28 z29 z30 z31 sm z33 z34)), (z31, .inl (cZ, 192, .inl (bF fnd)))]) [(x0, .inr (8, mO ax z1 z2 z3 fc z5 z6 z7 qs z9 z10 z11 z12 z13 hd lg fcn z17 z18 z19 md z21 z22 z23 z24 hc z26 z27 z28 z29 z30 z31 sm z33 z34)), (z31, .inl (cZ, 192, .inl (bF fnd)))] := ⟨hD0.1, fun k q h => ⟨k, q.2, h⟩⟩
  generalize hAe : q_A [(x0, .inr (8, mO ax z1 z2 z3 fc z5 z6 z7 qs z9 z10 z11 z12 z13 hd lg fcn z17 z18 z19 md z21 z22 z23 z24 hc z26 z27 z28 z29 z30 z31 sm z33 z34)), (z31, .inl (cZ, 192, .inl (bF fnd)))] = A at hD
  have hS : va_S A s.heap s.heap [] := va_S.rf
  refine q_entry hargs (Nat.le_of_ble_eq_true rfl) (fun ls hl => ?_)
  have hl : lv_has ls 2 [(0, .ref x0)] := hl
  obtain ⟨H, locs, eH, eL⟩ : ∃ (H : Heap) (locs : List Loc), s.heap = H ∧ ([] : List Loc) = locs := ⟨_, _, rfl, rfl⟩
  have hS : va_S A s.heap H locs := by rw [← eH, ← eL]; exact hS
  have hP : va_P (dC, dI) qCl [(x0, .inr (8, mO ax z1 z2 z3 fc z5 z6 z7 qs z9 z10 z11 z12 z13 hd lg fcn z17 z18 z19 md z21 z22 z23 z24 hc z26 z27 z28 z29 z30 z31 sm z33 z34)), (z31, .inl (cZ, 192, .inl (bF fnd)))] H := by rw [← eH]; exact hP
  refine W_at eH eL ?_
  refine lv_iconst (v := (nI (0))) hx hb dX8_blank_0 (by decide) ?_
  refine lv_istore_n (lv' := [(1, .int (nI (0))), (0, .ref x0)]) hx hb dX8_blank_1 rfl hl (by decide) rfl (fun ls hl => ?_)
  have L2 : ∀ (fu : Nat) (g : Nat → Bool) (i : Nat) (ls : Array Slot) (H : Heap) (locs : List Loc), 192 - i < fu → (i ≤ 192) → (∀ j, j < i → g j = false) → lv_has ls 2 [(1, .int (nI (i))), (0, .ref x0)] → va_P (dC, dI) qCl [(x0, .inr (8, mO ax z1 z2 z3 fc z5 z6 z7 qs z9 z10 z11 z12 z13 hd lg fcn z17 z18 z19 md z21 z22 z23 z24 hc z26 z27 z28 z29 z30 z31 sm z33 z34)), (z31, .inl (cZ, 192, .inl (bF g)))] H → va_D A [(x0, .inr (8, mO ax z1 z2 z3 fc z5 z6 z7 qs z9 z10 z11 z12 z13 hd lg fcn z17 z18 z19 md z21 z22 z23 z24 hc z26 z27 z28 z29 z30 z31 sm z33 z34)), (z31, .inl (cZ, 192, .inl (bF g)))] → va_S A s.heap H locs → W p l e (headSpec wkX8_blank rm_c_Model_blank).room s m args below meth c H locs 0 0 Q (F0 m 2 ls []) := by
    intro fu
    induction fu with
    | zero => intro g i ls H locs hmu; exact absurd hmu (Nat.not_lt_zero _)
    | succ fu ih2 =>
      intro g i ls H locs hmu hi hg hl hP hD hS
      refine lv_iload_n hx hb dX8_blank_2 rfl (lv_at hl 0 rfl) ?_
      refine lv_sipush (v := (nI (192))) hx hb dX8_blank_3 (by decide) ?_
      refine q_icmp_ge (x := i) (y := 192) (tgt := 22) hx hb dX8_blank_6 (by decide) (by omega) (by omega) (fun c6_1 => ?_) (fun c6_1 => ?_)
      · have hP := q_ext hP 1 rfl (f' := bF (fun _ => false)) (fun j hj => congrArg bI (show g j = (fun _ => false) j from by (exact hg j (by omega))))
        have hD := q_Daddr (w' := [(x0, .inr (8, mO ax z1 z2 z3 fc z5 z6 z7 qs z9 z10 z11 z12 z13 hd lg fcn z17 z18 z19 md z21 z22 z23 z24 hc z26 z27 z28 z29 z30 z31 sm z33 z34)), (z31, .inl (cZ, 192, .inl (bF (fun _ => false))))]) hD rfl
        have hP : va_P (dC, dI) qCl [(x0, .inr (8, mO ax z1 z2 z3 fc z5 z6 z7 qs z9 z10 z11 z12 z13 hd lg fcn z17 z18 z19 md z21 z22 z23 z24 hc z26 z27 z28 z29 z30 z31 sm z33 z34)), (z31, .inl (cZ, 192, .inl (bF (fun _ => false))))] H := hP
        have hD : va_D A [(x0, .inr (8, mO ax z1 z2 z3 fc z5 z6 z7 qs z9 z10 z11 z12 z13 hd lg fcn z17 z18 z19 md z21 z22 z23 z24 hc z26 z27 z28 z29 z30 z31 sm z33 z34)), (z31, .inl (cZ, 192, .inl (bF (fun _ => false))))] := hD
        refine lv_aload_n hx hb dX8_blank_22 rfl (lv_at hl 1 rfl) ?_
        refine lv_iconst (v := (nI (0))) hx hb dX8_blank_23 (by decide) ?_
        refine va_put (D := (dC, dI)) (ci := 8) (v := .int (bI (false))) (ty := .boolean) (C := RX8) (T := TX8) (N := 35) hx hb hts uX8 tyX8 tyX8_ok nmX8 hown hK hP hD hS 0 rfl rfl 32 (by decide) (hts _ kfX8_199) (fun _ h9 => h9) rfl (by decide +kernel) (bI_nar _) (rfl) (Nat.le_of_ble_eq_true rfl) dX8_blank_24 (fun H locs hP hD hS => ?_)
        have hP : va_P (dC, dI) qCl [(x0, .inr (8, mO ax z1 z2 z3 fc z5 z6 z7 qs z9 z10 z11 z12 z13 hd lg fcn z17 z18 z19 md z21 z22 z23 z24 hc z26 z27 z28 z29 z30 z31 false z33 z34)), (z31, .inl (cZ, 192, .inl (bF (fun _ => false))))] H := hP
        have hD : va_D A [(x0, .inr (8, mO ax z1 z2 z3 fc z5 z6 z7 qs z9 z10 z11 z12 z13 hd lg fcn z17 z18 z19 md z21 z22 z23 z24 hc z26 z27 z28 z29 z30 z31 false z33 z34)), (z31, .inl (cZ, 192, .inl (bF (fun _ => false))))] := hD
        subst hQ
        subst hAe
        have hP9 := hP.sub (ws' := [(x0, .inr (8, mO ax z1 z2 z3 fc z5 z6 z7 qs z9 z10 z11 z12 z13 hd lg fcn z17 z18 z19 md z21 z22 z23 z24 hc z26 z27 z28 z29 z30 z31 false z33 z34)), (z31, .inl (cZ, 192, .inl (bF (fun _ => false))))]) [0, 1] rfl
        exact W.vret hx hb hr (fun t9 h9 _ => ⟨⟨(), rfl, trivial, by show va_P _ _ _ t9.heap; rw [h9]; exact hP9⟩, hS.F h9⟩) hS.2.2 dX8_blank_27
      · refine lv_aload_n hx hb dX8_blank_9 rfl (lv_at hl 1 rfl) ?_
        refine va_get (D := (dC, dI)) (ci := 8) (v := .ref z31) (C := RX8) (T := TX8) (N := 35) hx hb hts uX8 hown hK hP 0 rfl rfl 31 (by decide) (hts _ kfX8_83) (fun _ h9 => h9) rfl dX8_blank_10 ?_
        refine lv_iload_n hx hb dX8_blank_13 rfl (lv_at hl 0 rfl) ?_
        refine lv_iconst (v := (nI (0))) hx hb dX8_blank_14 (by decide) ?_
        refine q_zast hx hb hK hP hD hS 1 3 rfl rfl (j := i) (x := false) (by omega) (by omega) dX8_blank_15 (fun H locs hP hD hS => ?_)
        have hP : va_P (dC, dI) qCl [(x0, .inr (8, mO ax z1 z2 z3 fc z5 z6 z7 qs z9 z10 z11 z12 z13 hd lg fcn z17 z18 z19 md z21 z22 z23 z24 hc z26 z27 z28 z29 z30 z31 sm z33 z34)), (z31, .inl (cZ, 192, .inl (bF (va_up g i false))))] H := hP
        have hD : va_D A [(x0, .inr (8, mO ax z1 z2 z3 fc z5 z6 z7 qs z9 z10 z11 z12 z13 hd lg fcn z17 z18 z19 md z21 z22 z23 z24 hc z26 z27 z28 z29 z30 z31 sm z33 z34)), (z31, .inl (cZ, 192, .inl (bF (va_up g i false))))] := hD
        refine lv_iinc (v := (nI (i + 1))) (lv' := [(1, .int (nI (i + 1))), (0, .ref x0)]) hx hb dX8_blank_16 hl (k := 0) rfl (q_inc _) (by decide) rfl (fun ls hl => ?_)
        refine lv_goto (tgt := 2) hx hb dX8_blank_19 (by decide) ?_
        exact ih2 (va_up g i false) (i + 1) ls _ _ (by omega) (show (i + 1) ≤ 192 from by omega) (show ∀ j, j < (i + 1) → (va_up g i false) j = false from by (exact up_all hg)) (lv_sub hl [0, 1] rfl) (hP.sub [0, 1] rfl) (hD.sub [0, 1] (by decide) rfl) hS
  exact L2 _ fnd 0 ls _ _ (by exact Nat.lt_succ_self _) (show 0 ≤ 192 from by omega) (show ∀ j, j < 0 → fnd j = false from by (intro j hj; omega)) (lv_sub hl [0, 1] rfl) (hP.sub [0, 1] rfl) (hD.sub [0, 1] (by decide) rfl) hS
