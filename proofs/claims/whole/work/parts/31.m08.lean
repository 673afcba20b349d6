abbrev cX8_ways : ByteArray := prog_10_method_20_code
def yX8_ways : MethodName := ⟨RX8, "ways", "(I)I"⟩
def wkX8_ways : List Cond := .code yX8_ways cX8_ways 2 (some .int) :: qW
set_option maxRecDepth 40000 in
theorem gkX8_ways : GoodIn qW wkX8_ways := q_good (qw 757 rfl rfl)
set_option maxRecDepth 40000 in
theorem knX8_ways : Cond.instanceMethod yX8_ways ∈ qW := qw 756 rfl rfl
set_option maxRecDepth 40000 in
theorem klX8_ways : Cond.selects RX8 yX8_ways yX8_ways ∈ qW := qw 27 rfl rfl
theorem dX8_ways_0 : decode cX8_ways 0 = .ok (.iload_n 1, 1) := by decide +kernel
theorem dX8_ways_1 : decode cX8_ways 1 = .ok (.iconst 2, 1) := by decide +kernel
theorem dX8_ways_2 : decode cX8_ways 2 = .ok (.if_icmp .ge 7, 3) := by decide +kernel
theorem dX8_ways_5 : decode cX8_ways 5 = .ok (.iconst 1, 1) := by decide +kernel
theorem dX8_ways_6 : decode cX8_ways 6 = .ok (.goto 24, 3) := by decide +kernel
theorem dX8_ways_9 : decode cX8_ways 9 = .ok (.iload_n 1, 1) := by decide +kernel
theorem dX8_ways_10 : decode cX8_ways 10 = .ok (.iconst 2, 1) := by decide +kernel
theorem dX8_ways_11 : decode cX8_ways 11 = .ok (.if_icmp .ne 7, 3) := by decide +kernel
theorem dX8_ways_14 : decode cX8_ways 14 = .ok (.iconst 2, 1) := by decide +kernel
theorem dX8_ways_15 : decode cX8_ways 15 = .ok (.goto 15, 3) := by decide +kernel
theorem dX8_ways_18 : decode cX8_ways 18 = .ok (.iload_n 1, 1) := by decide +kernel
theorem dX8_ways_19 : decode cX8_ways 19 = .ok (.iconst 3, 1) := by decide +kernel
theorem dX8_ways_20 : decode cX8_ways 20 = .ok (.if_icmp .ne 8, 3) := by decide +kernel
theorem dX8_ways_23 : decode cX8_ways 23 = .ok (.bipush 6, 2) := by decide +kernel
theorem dX8_ways_25 : decode cX8_ways 25 = .ok (.goto 5, 3) := by decide +kernel
theorem dX8_ways_28 : decode cX8_ways 28 = .ok (.bipush 24, 2) := by decide +kernel
theorem dX8_ways_30 : decode cX8_ways 30 = .ok (.ireturn, 1) := by decide +kernel
abbrev rm_c_Model_ways : Room := { frames := 0, cells := 0, slots := 0, locals := 0 }
set_option maxHeartbeats 4000000 in
set_option maxRecDepth 100000 in
theorem c_Model_ways (l : Launch) (dC : Nat → ClassId) (dI : Nat → Nat → Nat) (cI cL cQ cZ : ClassId) (x0 : Nat) (ax : Nat) (z1 : Nat) (z2 : Nat) (z3 : Nat) (fc : Nat) (z5 : Nat) (z6 : Nat) (z7 : Nat) (qs : Nat) (z9 : Nat) (z10 : Nat) (z11 : Nat) (z12 : Nat) (z13 : Nat) (hd : Option Nat) (lg : Bool) (fcn : Nat) (z17 : Nat) (z18 : Nat) (z19 : Nat) (md : Nat) (z21 : Nat) (z22 : Nat) (z23 : Nat) (z24 : Nat) (hc : Nat) (z26 : Nat) (z27 : Nat) (z28 : Nat) (z29 : Nat) (z30 : Nat) (z31 : Nat) (sm : Bool) (z33 : Nat) (z34 : Nat) (n : Nat) (hn : n ≤ 4) : Met l yX8_ways wkX8_ways rm_c_Model_ways (q_R (dC, dI) qCl (qT cI cL cQ cZ) [(x0, .inr (8, mO ax z1 z2 z3 fc z5 z6 z7 qs z9 z10 z11 z12 z13 hd lg fcn z17 z18 z19 md z21 z22 z23 z24 hc z26 z27 z28 z29 z30 z31 sm z33 z34))] [.ref x0, .int (nI (n))]) (vp_Si (fun r => r = (nI (if n < 2 then 1 else if n = 2 then 2 else if n = 3 then 6 else 24)))) 0 0 (fun _ => False) := by
  refine Met.ofW (cc := cX8_ways) (maxL := 2) (ret := (some .int)) (by decide) rfl ?_
  intro p e s m args below meth c s₁ B hml hv
  obtain ⟨hargs, hP, hK⟩ := hv
  have hx := B.exec
  have hb := B.bytes
  have hr := B.returns
  have hts : ∀ w ∈ qW, w.before args s = true := fun w h => atoms_spec (ws := wkX8_ways) B.pre w (List.mem_cons_of_mem _ h)
  have hown : s.vm.findClass RX8 = some m.cls := findClass_of_methodNamed B.named
  have hlocks := B.notSynchronized
  refine q_named (fun Q hQ => ?_)
  refine q_entry hargs (Nat.le_of_ble_eq_true rfl) (fun ls hl => ?_)
  have hl : lv_has ls 2 [(0, .ref x0), (1, .int (nI (n)))] := hl
  refine lv_iload_n hx hb dX8_ways_0 rfl (lv_at hl 1 rfl) ?_
  refine lv_iconst (v := (nI (2))) hx hb dX8_ways_1 (by decide) ?_
  refine q_icmp_ge (x := n) (y := 2) (tgt := 9) hx hb dX8_ways_2 (by decide) (by omega) (by omega) (fun c2_1 => ?_) (fun c2_1 => ?_)
  · refine lv_iload_n hx hb dX8_ways_9 rfl (lv_at hl 1 rfl) ?_
    refine lv_iconst (v := (nI (2))) hx hb dX8_ways_10 (by decide) ?_
    refine q_icmp_ne (x := n) (y := 2) (tgt := 18) hx hb dX8_ways_11 (by decide) (by omega) (by omega) (fun c11_2 => ?_) (fun c11_2 => ?_)
    · refine lv_iload_n hx hb dX8_ways_18 rfl (lv_at hl 1 rfl) ?_
      refine lv_iconst (v := (nI (3))) hx hb dX8_ways_19 (by decide) ?_
      refine q_icmp_ne (x := n) (y := 3) (tgt := 28) hx hb dX8_ways_20 (by decide) (by omega) (by omega) (fun c20_3 => ?_) (fun c20_3 => ?_)
      · refine lv_bipush (v := (nI (24))) hx hb dX8_ways_28 (by decide) ?_
        subst hQ
        exact W.iret (v := (nI (24))) hx hb hr (fun t9 h9 _ => ⟨_, rfl, congrArg nI (show 24 = if n < 2 then 1 else if n = 2 then 2 else if n = 3 then 6 else 24 from by (split <;> (try split) <;> (try split) <;> omega)), h9⟩) (fun q hq => by cases hq) dX8_ways_30
      · refine lv_bipush (v := (nI (6))) hx hb dX8_ways_23 (by decide) ?_
        refine lv_goto (tgt := 30) hx hb dX8_ways_25 (by decide) ?_
        subst hQ
        exact W.iret (v := (nI (6))) hx hb hr (fun t9 h9 _ => ⟨_, rfl, congrArg nI (show 6 = if n < 2 then 1 else if n = 2 then 2 else if n = 3 then 6 else 24 from by (split <;> (try split) <;> (try split) <;> omega)), h9⟩) (fun q hq => by cases hq) dX8_ways_30
    · refine lv_iconst (v := (nI (2))) hx hb dX8_ways_14 (by decide) ?_
      refine lv_goto (tgt := 30) hx hb dX8_ways_15 (by decide) ?_
      subst hQ
      exact W.iret (v := (nI (2))) hx hb hr (fun t9 h9 _ => ⟨_, rfl, congrArg nI (show 2 = if n < 2 then 1 else if n = 2 then 2 else if n = 3 then 6 else 24 from by (split <;> (try split) <;> (try split) <;> omega)), h9⟩) (fun q hq => by cases hq) dX8_ways_30
  · refine lv_iconst (v := (nI (1))) hx hb dX8_ways_5 (by decide) ?_
    refine lv_goto (tgt := 30) hx hb dX8_ways_6 (by decide) ?_
    subst hQ
    exact W.iret (v := (nI (1))) hx hb hr (fun t9 h9 _ => ⟨_, rfl, congrArg nI (show 1 = if n < 2 then 1 else if n = 2 then 2 else if n = 3 then 6 else 24 from by (split <;> (try split) <;> (try split) <;> omega)), h9⟩) (fun q hq => by cases hq) dX8_ways_30
