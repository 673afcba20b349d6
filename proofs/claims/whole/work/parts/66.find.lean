theorem m_dec_i (d : Nat) : nI d + Int32.ofInt (-1) = oI (m_dec d) := by
  unfold m_dec
  by_cases h : d = 0
  · rw [if_pos h, h]; decide
  · rw [if_neg h]; exact q_dec (by omega)
abbrev cX8_findBy : ByteArray := prog_10_method_37_code
def yX8_findBy : MethodName := ⟨RX8, "findBy", "(I)V"⟩
def wkX8_findBy : List Cond := .code yX8_findBy cX8_findBy 3 none :: qW
set_option maxRecDepth 40000 in
theorem gkX8_findBy : GoodIn qW wkX8_findBy := q_good (qw 813 rfl rfl)
set_option maxRecDepth 40000 in
theorem knX8_findBy : Cond.instanceMethod yX8_findBy ∈ qW := qw 812 rfl rfl
set_option maxRecDepth 40000 in
theorem klX8_findBy : Cond.selects RX8 yX8_findBy yX8_findBy ∈ qW := qw 39 rfl rfl
theorem dX8_findBy_0 : decode cX8_findBy 0 = .ok (.iconst 0, 1) := by decide +kernel
theorem dX8_findBy_1 : decode cX8_findBy 1 = .ok (.istore_n 2, 1) := by decide +kernel
theorem dX8_findBy_2 : decode cX8_findBy 2 = .ok (.iload_n 2, 1) := by decide +kernel
theorem dX8_findBy_3 : decode cX8_findBy 3 = .ok (.bipush 8, 2) := by decide +kernel
theorem dX8_findBy_5 : decode cX8_findBy 5 = .ok (.if_icmp .ge 16, 3) := by decide +kernel
theorem dX8_findBy_8 : decode cX8_findBy 8 = .ok (.aload_n 0, 1) := by decide +kernel
theorem dX8_findBy_9 : decode cX8_findBy 9 = .ok (.getfield 87, 3) := by decide +kernel
theorem dX8_findBy_12 : decode cX8_findBy 12 = .ok (.iload_n 2, 1) := by decide +kernel
theorem dX8_findBy_13 : decode cX8_findBy 13 = .ok (.iconst (-1), 1) := by decide +kernel
theorem dX8_findBy_14 : decode cX8_findBy 14 = .ok (.iastore, 1) := by decide +kernel
theorem dX8_findBy_15 : decode cX8_findBy 15 = .ok (.iinc 2 1, 3) := by decide +kernel
theorem dX8_findBy_18 : decode cX8_findBy 18 = .ok (.goto (-16), 3) := by decide +kernel
theorem dX8_findBy_21 : decode cX8_findBy 21 = .ok (.iconst 0, 1) := by decide +kernel
theorem dX8_findBy_22 : decode cX8_findBy 22 = .ok (.istore_n 2, 1) := by decide +kernel
theorem dX8_findBy_23 : decode cX8_findBy 23 = .ok (.aload_n 0, 1) := by decide +kernel
theorem dX8_findBy_24 : decode cX8_findBy 24 = .ok (.getfield 90, 3) := by decide +kernel
theorem dX8_findBy_27 : decode cX8_findBy 27 = .ok (.iconst 0, 1) := by decide +kernel
theorem dX8_findBy_28 : decode cX8_findBy 28 = .ok (.iconst 0, 1) := by decide +kernel
theorem dX8_findBy_29 : decode cX8_findBy 29 = .ok (.iastore, 1) := by decide +kernel
theorem dX8_findBy_30 : decode cX8_findBy 30 = .ok (.iload_n 2, 1) := by decide +kernel
theorem dX8_findBy_31 : decode cX8_findBy 31 = .ok (.ifCond .lt 83, 3) := by decide +kernel
theorem dX8_findBy_34 : decode cX8_findBy 34 = .ok (.iload_n 2, 1) := by decide +kernel
theorem dX8_findBy_35 : decode cX8_findBy 35 = .ok (.aload_n 0, 1) := by decide +kernel
theorem dX8_findBy_36 : decode cX8_findBy 36 = .ok (.getfield 47, 3) := by decide +kernel
theorem dX8_findBy_39 : decode cX8_findBy 39 = .ok (.iload_n 1, 1) := by decide +kernel
theorem dX8_findBy_40 : decode cX8_findBy 40 = .ok (.iaload, 1) := by decide +kernel
theorem dX8_findBy_41 : decode cX8_findBy 41 = .ok (.if_icmp .ne 14, 3) := by decide +kernel
theorem dX8_findBy_44 : decode cX8_findBy 44 = .ok (.aload_n 0, 1) := by decide +kernel
theorem dX8_findBy_45 : decode cX8_findBy 45 = .ok (.iload_n 1, 1) := by decide +kernel
theorem dX8_findBy_46 : decode cX8_findBy 46 = .ok (.invokevirtual 202, 3) := by decide +kernel
theorem dX8_findBy_49 : decode cX8_findBy 49 = .ok (.iinc 2 (-1), 3) := by decide +kernel
theorem dX8_findBy_52 : decode cX8_findBy 52 = .ok (.goto (-22), 3) := by decide +kernel
theorem dX8_findBy_55 : decode cX8_findBy 55 = .ok (.aload_n 0, 1) := by decide +kernel
theorem dX8_findBy_56 : decode cX8_findBy 56 = .ok (.getfield 90, 3) := by decide +kernel
theorem dX8_findBy_59 : decode cX8_findBy 59 = .ok (.iload_n 2, 1) := by decide +kernel
theorem dX8_findBy_60 : decode cX8_findBy 60 = .ok (.iaload, 1) := by decide +kernel
theorem dX8_findBy_61 : decode cX8_findBy 61 = .ok (.aload_n 0, 1) := by decide +kernel
theorem dX8_findBy_62 : decode cX8_findBy 62 = .ok (.getfield 104, 3) := by decide +kernel
theorem dX8_findBy_65 : decode cX8_findBy 65 = .ok (.if_icmp .ne 9, 3) := by decide +kernel
theorem dX8_findBy_68 : decode cX8_findBy 68 = .ok (.iinc 2 (-1), 3) := by decide +kernel
theorem dX8_findBy_71 : decode cX8_findBy 71 = .ok (.goto (-41), 3) := by decide +kernel
theorem dX8_findBy_74 : decode cX8_findBy 74 = .ok (.aload_n 0, 1) := by decide +kernel
theorem dX8_findBy_75 : decode cX8_findBy 75 = .ok (.getfield 90, 3) := by decide +kernel
theorem dX8_findBy_78 : decode cX8_findBy 78 = .ok (.iload_n 2, 1) := by decide +kernel
theorem dX8_findBy_79 : decode cX8_findBy 79 = .ok (.dup2, 1) := by decide +kernel
theorem dX8_findBy_80 : decode cX8_findBy 80 = .ok (.iaload, 1) := by decide +kernel
theorem dX8_findBy_81 : decode cX8_findBy 81 = .ok (.iconst 1, 1) := by decide +kernel
theorem dX8_findBy_82 : decode cX8_findBy 82 = .ok (.iadd, 1) := by decide +kernel
theorem dX8_findBy_83 : decode cX8_findBy 83 = .ok (.iastore, 1) := by decide +kernel
theorem dX8_findBy_84 : decode cX8_findBy 84 = .ok (.aload_n 0, 1) := by decide +kernel
theorem dX8_findBy_85 : decode cX8_findBy 85 = .ok (.iload_n 1, 1) := by decide +kernel
theorem dX8_findBy_86 : decode cX8_findBy 86 = .ok (.iload_n 2, 1) := by decide +kernel
theorem dX8_findBy_87 : decode cX8_findBy 87 = .ok (.aload_n 0, 1) := by decide +kernel
theorem dX8_findBy_88 : decode cX8_findBy 88 = .ok (.getfield 90, 3) := by decide +kernel
theorem dX8_findBy_91 : decode cX8_findBy 91 = .ok (.iload_n 2, 1) := by decide +kernel
theorem dX8_findBy_92 : decode cX8_findBy 92 = .ok (.iaload, 1) := by decide +kernel
theorem dX8_findBy_93 : decode cX8_findBy 93 = .ok (.iconst 1, 1) := by decide +kernel
theorem dX8_findBy_94 : decode cX8_findBy 94 = .ok (.isub, 1) := by decide +kernel
theorem dX8_findBy_95 : decode cX8_findBy 95 = .ok (.invokevirtual 205, 3) := by decide +kernel
theorem dX8_findBy_98 : decode cX8_findBy 98 = .ok (.ifCond .eq (-68), 3) := by decide +kernel
theorem dX8_findBy_101 : decode cX8_findBy 101 = .ok (.iinc 2 1, 3) := by decide +kernel
theorem dX8_findBy_104 : decode cX8_findBy 104 = .ok (.aload_n 0, 1) := by decide +kernel
theorem dX8_findBy_105 : decode cX8_findBy 105 = .ok (.getfield 90, 3) := by decide +kernel
theorem dX8_findBy_108 : decode cX8_findBy 108 = .ok (.iload_n 2, 1) := by decide +kernel
theorem dX8_findBy_109 : decode cX8_findBy 109 = .ok (.iconst 0, 1) := by decide +kernel
theorem dX8_findBy_110 : decode cX8_findBy 110 = .ok (.iastore, 1) := by decide +kernel
theorem dX8_findBy_111 : decode cX8_findBy 111 = .ok (.goto (-81), 3) := by decide +kernel
theorem dX8_findBy_114 : decode cX8_findBy 114 = .ok (.return_, 1) := by decide +kernel
set_option maxRecDepth 40000 in
theorem kfX8_90 : Cond.fieldLink RX8 90 "QlRewriteModel" "next" "[I" ∈ qW := qw 604 rfl rfl
set_option maxRecDepth 40000 in
theorem kmX8_205 : Cond.methodLink RX8 205 yX8_binds ∈ qW := qw 818 rfl rfl
set_option maxRecDepth 40000 in
theorem kmX8_202 : Cond.methodLink RX8 202 yX8_tell ∈ qW := qw 814 rfl rfl
abbrev rm_c_Model_binds2 : Room := { frames := 0, cells := 0, slots := 0, locals := 0 }
set_option maxHeartbeats 4000000 in
set_option maxRecDepth 100000 in
theorem c_Model_binds2 (l : Launch) (dC : Nat → ClassId) (dI : Nat → Nat → Nat) (cI cL cQ cZ : ClassId) (x0 : Nat) (ax : Nat) (z1 : Nat) (z2 : Nat) (z3 : Nat) (fc : Nat) (z5 : Nat) (z6 : Nat) (z7 : Nat) (qs : Nat) (z9 : Nat) (z10 : Nat) (z11 : Nat) (z12 : Nat) (z13 : Nat) (hd : Option Nat) (lg : Bool) (fcn : Nat) (z17 : Nat) (z18 : Nat) (z19 : Nat) (md : Nat) (z21 : Nat) (z22 : Nat) (z23 : Nat) (z24 : Nat) (hc : Nat) (z26 : Nat) (z27 : Nat) (z28 : Nat) (z29 : Nat) (z30 : Nat) (z31 : Nat) (sm : Bool) (z33 : Nat) (z34 : Nat) (cs : Nat → Nat) (fn : Nat → Nat) (fo : Nat → Nat) (ft : Nat → Nat) (bd : Nat → Option Nat) (f : Nat) (d : Nat) (k : Nat) (hf : f < 90) (hd9 : d < 4) (hk : k < 60) (hcs : ∀ j, cs j < 8192) (hfn : ∀ j, fn j < 64) (hfo : ∀ j, fo j < 12) (hft : ∀ j, ft j < 12) (hbd : ∀ j7 k7, bd j7 = some k7 → k7 < 12) : Met l yX8_binds wkX8_binds rm_c_Model_binds2 (q_W (dC, dI) qCl (qT cI cL cQ cZ) [(x0, .inr (8, mO ax z1 z2 z3 fc z5 z6 z7 qs z9 z10 z11 z12 z13 hd lg fcn z17 z18 z19 md z21 z22 z23 z24 hc z26 z27 z28 z29 z30 z31 sm z33 z34)), (z18, .inl (cI, 360, .inl (nF cs))), (z5, .inl (cI, 60, .inl (nF fn))), (z6, .inl (cI, 60, .inl (nF fo))), (z7, .inl (cI, 60, .inl (nF ft))), (z33, .inl (cI, 40, .inl (oF bd)))] [.ref x0, .int (nI (f)), .int (nI (d)), .int (nI (k))]) (va_Qi (fun (r : Int32) (u : Bool × (Nat → Option Nat)) => (r = (bI (u.1))) ∧ (∀ j7, j7 < 8 * (d + 1) → u.2 j7 = bd j7) ∧ (∀ j7 k7, u.2 j7 = some k7 → k7 < 12) ∧ (m_bn (fun v7 => bd (8 * d + v7)) (cs (4 * f + d)) (fn k) (fo k) (ft k) u.1 (fun v7 => u.2 (8 * (d + 1) + v7)))) (fun (u : Bool × (Nat → Option Nat)) t => va_P (dC, dI) qCl [(x0, .inr (8, mO ax z1 z2 z3 fc z5 z6 z7 qs z9 z10 z11 z12 z13 hd lg fcn z17 z18 z19 md z21 z22 z23 z24 hc z26 z27 z28 z29 z30 z31 sm z33 z34)), (z18, .inl (cI, 360, .inl (nF cs))), (z5, .inl (cI, 60, .inl (nF fn))), (z6, .inl (cI, 60, .inl (nF fo))), (z7, .inl (cI, 60, .inl (nF ft))), (z33, .inl (cI, 40, .inl (oF u.2)))] t.heap) (q_A [(x0, .inr (8, mO ax z1 z2 z3 fc z5 z6 z7 qs z9 z10 z11 z12 z13 hd lg fcn z17 z18 z19 md z21 z22 z23 z24 hc z26 z27 z28 z29 z30 z31 sm z33 z34)), (z18, .inl (cI, 360, .inl (nF cs))), (z5, .inl (cI, 60, .inl (nF fn))), (z6, .inl (cI, 60, .inl (nF fo))), (z7, .inl (cI, 60, .inl (nF ft))), (z33, .inl (cI, 40, .inl (oF bd)))])) 0 0 (q_A [(x0, .inr (8, mO ax z1 z2 z3 fc z5 z6 z7 qs z9 z10 z11 z12 z13 hd lg fcn z17 z18 z19 md z21 z22 z23 z24 hc z26 z27 z28 z29 z30 z31 sm z33 z34)), (z18, .inl (cI, 360, .inl (nF cs))), (z5, .inl (cI, 60, .inl (nF fn))), (z6, .inl (cI, 60, .inl (nF fo))), (z7, .inl (cI, 60, .inl (nF ft))), (z33, .inl (cI, 40, .inl (oF bd)))]) := by
  refine Met.ofW (cc := cX8_binds) (maxL := 8) (ret := (some .boolean)) (by decide) rfl ?_
  intro p e s m args below meth c s₁ B hml hv
  obtain ⟨hargs, hP, hK, hD0⟩ := hv
  have hx := B.exec
  have hb := B.bytes
  have hr := B.returns
  have hts : ∀ w ∈ qW, w.before args s = true := fun w h => atoms_spec (ws := wkX8_binds) B.pre w (List.mem_cons_of_mem _ h)
  have hown : s.vm.findClass RX8 = some m.cls := findClass_of_methodNamed B.named
  have hlocks := B.notSynchronized
  refine q_named (fun Q hQ => ?_)
  have hD : va_D (q_A [(x0, .inr (8, mO ax z1 z2 z3 fc z5 z6 z7 qs z9 z10 z11 z12 z13 hd lg fcn z17 z18 z19 md z21 z22 z23 z24 hc z26 z27 z28 z29 z30 z31 sm z33 z34)), (z18, .inl (cI, 360, .inl (nF cs))), (z5, .inl (cI, 60, .inl (nF fn))), (z6, .inl (cI, 60, .inl (nF fo))), (z7, .inl (cI, 60, .inl (nF ft))), (z33, .inl (cI, 40, .inl (oF bd)))]) [(x0, .inr (8, mO ax z1 z2 z3 fc z5 z6 z7 qs z9 z10 z11 z12 z13 hd lg fcn z17 z18 z19 md z21 z22 z23 z24 hc z26 z27 z28 z29 z30 z31 sm z33 z34)), (z18, .inl (cI, 360, .inl (nF cs))), (z5, .inl (cI, 60, .inl (nF fn))), (z6, .inl (cI, 60, .inl (nF fo))), (z7, .inl (cI, 60, .inl (nF ft))), (z33, .inl (cI, 40, .inl (oF bd)))] := ⟨hD0.1, fun k q h => ⟨k, q.2, h⟩⟩
  generalize hAe : q_A [(x0, .inr (8, mO ax z1 z2 z3 fc z5 z6 z7 qs z9 z10 z11 z12 z13 hd lg fcn z17 z18 z19 md z21 z22 z23 z24 hc z26 z27 z28 z29 z30 z31 sm z33 z34)), (z18, .inl (cI, 360, .inl (nF cs))), (z5, .inl (cI, 60, .inl (nF fn))), (z6, .inl (cI, 60, .inl (nF fo))), (z7, .inl (cI, 60, .inl (nF ft))), (z33, .inl (cI, 40, .inl (oF bd)))] = A at hD
  have hS : va_S A s.heap s.heap [] := va_S.rf
  refine q_entry hargs (Nat.le_of_ble_eq_true rfl) (fun ls hl => ?_)
  have hl : lv_has ls 8 [(0, .ref x0), (1, .int (nI (f))), (2, .int (nI (d))), (3, .int (nI (k)))] := hl
  obtain ⟨H, locs, eH, eL⟩ : ∃ (H : Heap) (locs : List Loc), s.heap = H ∧ ([] : List Loc) = locs := ⟨_, _, rfl, rfl⟩
  have hS : va_S A s.heap H locs := by rw [← eH, ← eL]; exact hS
  have hP : va_P (dC, dI) qCl [(x0, .inr (8, mO ax z1 z2 z3 fc z5 z6 z7 qs z9 z10 z11 z12 z13 hd lg fcn z17 z18 z19 md z21 z22 z23 z24 hc z26 z27 z28 z29 z30 z31 sm z33 z34)), (z18, .inl (cI, 360, .inl (nF cs))), (z5, .inl (cI, 60, .inl (nF fn))), (z6, .inl (cI, 60, .inl (nF fo))), (z7, .inl (cI, 60, .inl (nF ft))), (z33, .inl (cI, 40, .inl (oF bd)))] H := by rw [← eH]; exact hP
  refine W_at eH eL ?_
  refine lv_aload_n hx hb dX8_binds_0 rfl (lv_at hl 0 rfl) ?_
  refine va_get (D := (dC, dI)) (ci := 8) (v := .ref z18) (C := RX8) (T := TX8) (N := 35) hx hb hts uX8 hown hK hP 0 rfl rfl 18 (by decide) (hts _ kfX8_50) (fun _ h9 => h9) rfl dX8_binds_1 ?_
  refine lv_iconst (v := (nI (4))) hx hb dX8_binds_4 (by decide) ?_
  refine lv_iload_n hx hb dX8_binds_5 rfl (lv_at hl 1 rfl) ?_
  refine q_imul (x := 4) (y := f) hx hb dX8_binds_6 ?_
  refine lv_iload_n hx hb dX8_binds_7 rfl (lv_at hl 2 rfl) ?_
  refine q_iadd (x := 4 * f) (y := d) hx hb dX8_binds_8 ?_
  refine q_ialdN hx hb hK hP 1 0 rfl rfl (j := (4 * f) + d) (by omega) (by omega) dX8_binds_9 ?_
  have bd1 := hcs ((4 * f) + d)
  refine lv_istore (lv' := [(4, .int (nI (cs ((4 * f) + d)))), (0, .ref x0), (1, .int (nI (f))), (2, .int (nI (d))), (3, .int (nI (k)))]) hx hb dX8_binds_10 hl (by decide) rfl (fun ls hl => ?_)
  refine lv_iload hx hb dX8_binds_12 (lv_at hl 0 rfl) ?_
  refine lv_bipush (v := (nI (8))) hx hb dX8_binds_14 (by decide) ?_
  refine q_idiv (x := cs ((4 * f) + d)) (y := 8) hx hb (by omega) (by omega) (by omega) dX8_binds_16 ?_
  refine lv_bipush (v := (nI (8))) hx hb dX8_binds_17 (by decide) ?_
  refine q_irem (x := (cs ((4 * f) + d)) / 8) (y := 8) hx hb (by omega) (by omega) (by omega) dX8_binds_19 ?_
  refine lv_istore (lv' := [(5, .int (nI (((cs ((4 * f) + d)) / 8) % 8))), (4, .int (nI (cs ((4 * f) + d)))), (0, .ref x0), (1, .int (nI (f))), (2, .int (nI (d))), (3, .int (nI (k)))]) hx hb dX8_binds_20 hl (by decide) rfl (fun ls hl => ?_)
  refine lv_iload hx hb dX8_binds_22 (lv_at hl 1 rfl) ?_
  refine lv_bipush (v := (nI (8))) hx hb dX8_binds_24 (by decide) ?_
  refine q_irem (x := cs ((4 * f) + d)) (y := 8) hx hb (by omega) (by omega) (by omega) dX8_binds_26 ?_
  refine lv_istore (lv' := [(6, .int (nI ((cs ((4 * f) + d)) % 8))), (5, .int (nI (((cs ((4 * f) + d)) / 8) % 8))), (4, .int (nI (cs ((4 * f) + d)))), (0, .ref x0), (1, .int (nI (f))), (2, .int (nI (d))), (3, .int (nI (k)))]) hx hb dX8_binds_27 hl (by decide) rfl (fun ls hl => ?_)
  obtain ⟨cq, ecq⟩ : ∃ cq, cq = cs (4 * f + d) := ⟨_, rfl⟩
  have hcq : cq < 8192 := (by rw [ecq]; exact hcs _)
  have hl := lv_updv hl 2 rfl (show (.int (nI (cs ((4 * f) + d))) : Value) = .int (nI (cq)) from (by rw [ecq]))
  have hl : lv_has ls 8 [(6, .int (nI ((cs ((4 * f) + d)) % 8))), (5, .int (nI (((cs ((4 * f) + d)) / 8) % 8))), (4, .int (nI (cq))), (0, .ref x0), (1, .int (nI (f))), (2, .int (nI (d))), (3, .int (nI (k)))] := hl
  obtain ⟨xq, exq⟩ : ∃ xq, xq = cq / 8 % 8 := ⟨_, rfl⟩
  have hl := lv_updv hl 1 rfl (show (.int (nI (((cs ((4 * f) + d)) / 8) % 8)) : Value) = .int (nI (xq)) from (by rw [exq, ecq]))
  have hl : lv_has ls 8 [(6, .int (nI ((cs ((4 * f) + d)) % 8))), (5, .int (nI (xq))), (4, .int (nI (cq))), (0, .ref x0), (1, .int (nI (f))), (2, .int (nI (d))), (3, .int (nI (k)))] := hl
  obtain ⟨yq, eyq⟩ : ∃ yq, yq = cq % 8 := ⟨_, rfl⟩
  have hl := lv_updv hl 0 rfl (show (.int (nI ((cs ((4 * f) + d)) % 8)) : Value) = .int (nI (yq)) from (by rw [eyq, ecq]))
  have hl : lv_has ls 8 [(6, .int (nI (yq))), (5, .int (nI (xq))), (4, .int (nI (cq))), (0, .ref x0), (1, .int (nI (f))), (2, .int (nI (d))), (3, .int (nI (k)))] := hl
  refine lv_aload_n hx hb dX8_binds_29 rfl (lv_at hl 3 rfl) ?_
  refine va_get (D := (dC, dI)) (ci := 8) (v := .ref z5) (C := RX8) (T := TX8) (N := 35) hx hb hts uX8 hown hK hP 0 rfl rfl 5 (by decide) (hts _ kfX8_19) (fun _ h9 => h9) rfl dX8_binds_30 ?_
  refine lv_iload_n hx hb dX8_binds_33 rfl (lv_at hl 6 rfl) ?_
  refine q_ialdN hx hb hK hP 2 0 rfl rfl (j := k) (by omega) (by omega) dX8_binds_34 ?_
  have bd2 := hfn k
  refine lv_iload hx hb dX8_binds_35 (lv_at hl 2 rfl) ?_
  refine lv_bipush (v := (nI (64))) hx hb dX8_binds_37 (by decide) ?_
  refine q_idiv (x := cq) (y := 64) hx hb (by omega) (by omega) (by omega) dX8_binds_39 ?_
  refine q_icmp_eq (x := fn k) (y := cq / 64) (tgt := 45) hx hb dX8_binds_40 (by decide) (by omega) (by omega) (fun c40_3 => ?_) (fun c40_3 => ?_)
  · refine lv_iconst (v := (nI (0))) hx hb dX8_binds_45 (by decide) ?_
    refine lv_istore (lv' := [(7, .int (nI (0))), (6, .int (nI (yq))), (5, .int (nI (xq))), (4, .int (nI (cq))), (0, .ref x0), (1, .int (nI (f))), (2, .int (nI (d))), (3, .int (nI (k)))]) hx hb dX8_binds_46 hl (by decide) rfl (fun ls hl => ?_)
    have L48 : ∀ (fu : Nat) (g : Nat → Option Nat) (w : Nat) (ls : Array Slot) (H : Heap) (locs : List Loc), 8 - w < fu → (w ≤ 8) → (g = m_cp bd d w) → lv_has ls 8 [(7, .int (nI (w))), (6, .int (nI (yq))), (5, .int (nI (xq))), (4, .int (nI (cq))), (0, .ref x0), (1, .int (nI (f))), (2, .int (nI (d))), (3, .int (nI (k)))] → va_P (dC, dI) qCl [(x0, .inr (8, mO ax z1 z2 z3 fc z5 z6 z7 qs z9 z10 z11 z12 z13 hd lg fcn z17 z18 z19 md z21 z22 z23 z24 hc z26 z27 z28 z29 z30 z31 sm z33 z34)), (z18, .inl (cI, 360, .inl (nF cs))), (z5, .inl (cI, 60, .inl (nF fn))), (z6, .inl (cI, 60, .inl (nF fo))), (z7, .inl (cI, 60, .inl (nF ft))), (z33, .inl (cI, 40, .inl (oF g)))] H → va_D A [(x0, .inr (8, mO ax z1 z2 z3 fc z5 z6 z7 qs z9 z10 z11 z12 z13 hd lg fcn z17 z18 z19 md z21 z22 z23 z24 hc z26 z27 z28 z29 z30 z31 sm z33 z34)), (z18, .inl (cI, 360, .inl (nF cs))), (z5, .inl (cI, 60, .inl (nF fn))), (z6, .inl (cI, 60, .inl (nF fo))), (z7, .inl (cI, 60, .inl (nF ft))), (z33, .inl (cI, 40, .inl (oF g)))] → va_S A s.heap H locs → W p l e (headSpec wkX8_binds rm_c_Model_binds2).room s m args below meth c H locs 0 0 Q (F0 m 48 ls []) := by
      intro fu
      induction fu with
      | zero => intro g w ls H locs hmu; exact absurd hmu (Nat.not_lt_zero _)
      | succ fu ih48 =>
        intro g w ls H locs hmu hw hg hl hP hD hS
        refine lv_iload hx hb dX8_binds_48 (lv_at hl 0 rfl) ?_
        refine lv_bipush (v := (nI (8))) hx hb dX8_binds_50 (by decide) ?_
        refine q_icmp_ge (x := w) (y := 8) (tgt := 87) hx hb dX8_binds_52 (by decide) (by omega) (by omega) (fun c52_4 => ?_) (fun c52_4 => ?_)
        · have ea5 : (g) = m_cp bd d 8 := by (rw [hg, show w = 8 by omega])
          rw [ea5] at hP hD
          have hP : va_P (dC, dI) qCl [(x0, .inr (8, mO ax z1 z2 z3 fc z5 z6 z7 qs z9 z10 z11 z12 z13 hd lg fcn z17 z18 z19 md z21 z22 z23 z24 hc z26 z27 z28 z29 z30 z31 sm z33 z34)), (z18, .inl (cI, 360, .inl (nF cs))), (z5, .inl (cI, 60, .inl (nF fn))), (z6, .inl (cI, 60, .inl (nF fo))), (z7, .inl (cI, 60, .inl (nF ft))), (z33, .inl (cI, 40, .inl (oF (m_cp bd d 8))))] H := hP
          have hD : va_D A [(x0, .inr (8, mO ax z1 z2 z3 fc z5 z6 z7 qs z9 z10 z11 z12 z13 hd lg fcn z17 z18 z19 md z21 z22 z23 z24 hc z26 z27 z28 z29 z30 z31 sm z33 z34)), (z18, .inl (cI, 360, .inl (nF cs))), (z5, .inl (cI, 60, .inl (nF fn))), (z6, .inl (cI, 60, .inl (nF fo))), (z7, .inl (cI, 60, .inl (nF ft))), (z33, .inl (cI, 40, .inl (oF (m_cp bd d 8))))] := hD
          refine lv_iload hx hb dX8_binds_87 (lv_at hl 2 rfl) ?_
          have L132 : ∀  (ls : Array Slot) (H : Heap) (locs : List Loc), (¬ m_cl (fun v7 => bd (8 * d + v7)) xq (fo k)) → lv_has ls 8 [(6, .int (nI (yq))), (5, .int (nI (xq))), (4, .int (nI (cq))), (0, .ref x0), (1, .int (nI (f))), (2, .int (nI (d))), (3, .int (nI (k)))] → va_P (dC, dI) qCl [(x0, .inr (8, mO ax z1 z2 z3 fc z5 z6 z7 qs z9 z10 z11 z12 z13 hd lg fcn z17 z18 z19 md z21 z22 z23 z24 hc z26 z27 z28 z29 z30 z31 sm z33 z34)), (z18, .inl (cI, 360, .inl (nF cs))), (z5, .inl (cI, 60, .inl (nF fn))), (z6, .inl (cI, 60, .inl (nF fo))), (z7, .inl (cI, 60, .inl (nF ft))), (z33, .inl (cI, 40, .inl (oF (m_cp bd d 8))))] H → va_D A [(x0, .inr (8, mO ax z1 z2 z3 fc z5 z6 z7 qs z9 z10 z11 z12 z13 hd lg fcn z17 z18 z19 md z21 z22 z23 z24 hc z26 z27 z28 z29 z30 z31 sm z33 z34)), (z18, .inl (cI, 360, .inl (nF cs))), (z5, .inl (cI, 60, .inl (nF fn))), (z6, .inl (cI, 60, .inl (nF fo))), (z7, .inl (cI, 60, .inl (nF ft))), (z33, .inl (cI, 40, .inl (oF (m_cp bd d 8))))] → va_S A s.heap H locs → W p l e (headSpec wkX8_binds rm_c_Model_binds2).room s m args below meth c H locs 0 0 Q (F0 m 132 ls []) := by
            intro  ls H locs hncl hl hP hD hS
            refine lv_aload_n hx hb dX8_binds_132 rfl (lv_at hl 3 rfl) ?_
            refine va_get (D := (dC, dI)) (ci := 8) (v := .ref z33) (C := RX8) (T := TX8) (N := 35) hx hb hts uX8 hown hK hP 0 rfl rfl 33 (by decide) (hts _ kfX8_87) (fun _ h9 => h9) rfl dX8_binds_133 ?_
            refine lv_bipush (v := (nI (8))) hx hb dX8_binds_136 (by decide) ?_
            refine lv_iload_n hx hb dX8_binds_138 rfl (lv_at hl 5 rfl) ?_
            refine lv_iconst (v := (nI (1))) hx hb dX8_binds_139 (by decide) ?_
            refine q_iadd (x := d) (y := 1) hx hb dX8_binds_140 ?_
            refine q_imul (x := 8) (y := d + 1) hx hb dX8_binds_141 ?_
            refine lv_iload hx hb dX8_binds_142 (lv_at hl 1 rfl) ?_
            refine q_iadd (x := 8 * (d + 1)) (y := xq) hx hb dX8_binds_144 ?_
            refine lv_iload hx hb dX8_binds_145 (lv_at hl 1 rfl) ?_
            refine lv_bipush (v := (nI (6))) hx hb dX8_binds_147 (by decide) ?_
            refine q_icmp_ne (x := xq) (y := 6) (tgt := 156) hx hb dX8_binds_149 (by decide) (by omega) (by omega) (fun c149_6 => ?_) (fun c149_6 => ?_)
            · refine lv_aload_n hx hb dX8_binds_156 rfl (lv_at hl 3 rfl) ?_
              refine va_get (D := (dC, dI)) (ci := 8) (v := .ref z6) (C := RX8) (T := TX8) (N := 35) hx hb hts uX8 hown hK hP 0 rfl rfl 6 (by decide) (hts _ kfX8_22) (fun _ h9 => h9) rfl dX8_binds_157 ?_
              refine lv_iload_n hx hb dX8_binds_160 rfl (lv_at hl 6 rfl) ?_
              refine q_ialdN hx hb hK hP 3 0 rfl rfl (j := k) (by omega) (by omega) dX8_binds_161 ?_
              have bd7 := hfo k
              refine q_iastO hx hb hK hP hD hS 5 0 rfl rfl (j := (8 * (d + 1)) + xq) (x := some (fo k)) (by omega) (by omega) dX8_binds_162 (fun H locs hP hD hS => ?_)
              have hP : va_P (dC, dI) qCl [(x0, .inr (8, mO ax z1 z2 z3 fc z5 z6 z7 qs z9 z10 z11 z12 z13 hd lg fcn z17 z18 z19 md z21 z22 z23 z24 hc z26 z27 z28 z29 z30 z31 sm z33 z34)), (z18, .inl (cI, 360, .inl (nF cs))), (z5, .inl (cI, 60, .inl (nF fn))), (z6, .inl (cI, 60, .inl (nF fo))), (z7, .inl (cI, 60, .inl (nF ft))), (z33, .inl (cI, 40, .inl (oF (va_up (m_cp bd d 8) ((8 * (d + 1)) + xq) (some (fo k))))))] H := hP
              have hD : va_D A [(x0, .inr (8, mO ax z1 z2 z3 fc z5 z6 z7 qs z9 z10 z11 z12 z13 hd lg fcn z17 z18 z19 md z21 z22 z23 z24 hc z26 z27 z28 z29 z30 z31 sm z33 z34)), (z18, .inl (cI, 360, .inl (nF cs))), (z5, .inl (cI, 60, .inl (nF fn))), (z6, .inl (cI, 60, .inl (nF fo))), (z7, .inl (cI, 60, .inl (nF ft))), (z33, .inl (cI, 40, .inl (oF (va_up (m_cp bd d 8) ((8 * (d + 1)) + xq) (some (fo k))))))] := hD
              have ea8 : (va_up (m_cp bd d 8) ((8 * (d + 1)) + xq) (some (fo k))) = va_up (m_cp bd d 8) (8 * (d + 1) + xq) (if xq = 6 then none else some (fo k)) := by (first | (rw [if_pos (by omega)]) | (rw [if_neg (by omega)]))
              rw [ea8] at hP hD
              have hP : va_P (dC, dI) qCl [(x0, .inr (8, mO ax z1 z2 z3 fc z5 z6 z7 qs z9 z10 z11 z12 z13 hd lg fcn z17 z18 z19 md z21 z22 z23 z24 hc z26 z27 z28 z29 z30 z31 sm z33 z34)), (z18, .inl (cI, 360, .inl (nF cs))), (z5, .inl (cI, 60, .inl (nF fn))), (z6, .inl (cI, 60, .inl (nF fo))), (z7, .inl (cI, 60, .inl (nF ft))), (z33, .inl (cI, 40, .inl (oF (va_up (m_cp bd d 8) (8 * (d + 1) + xq) (if xq = 6 then none else some (fo k))))))] H := hP
              have hD : va_D A [(x0, .inr (8, mO ax z1 z2 z3 fc z5 z6 z7 qs z9 z10 z11 z12 z13 hd lg fcn z17 z18 z19 md z21 z22 z23 z24 hc z26 z27 z28 z29 z30 z31 sm z33 z34)), (z18, .inl (cI, 360, .inl (nF cs))), (z5, .inl (cI, 60, .inl (nF fn))), (z6, .inl (cI, 60, .inl (nF fo))), (z7, .inl (cI, 60, .inl (nF ft))), (z33, .inl (cI, 40, .inl (oF (va_up (m_cp bd d 8) (8 * (d + 1) + xq) (if xq = 6 then none else some (fo k))))))] := hD
              refine lv_iload hx hb dX8_binds_163 (lv_at hl 2 rfl) ?_
              refine lv_bipush (v := (nI (64))) hx hb dX8_binds_165 (by decide) ?_
              refine q_idiv (x := cq) (y := 64) hx hb (by omega) (by omega) (by omega) dX8_binds_167 ?_
              refine lv_bipush (v := (nI (32))) hx hb dX8_binds_168 (by decide) ?_
              refine q_icmp_lt (x := cq / 64) (y := 32) (tgt := 180) hx hb dX8_binds_170 (by decide) (by omega) (by omega) (fun c170_9 => ?_) (fun c170_9 => ?_)
              · refine lv_iconst (v := (nI (1))) hx hb dX8_binds_180 (by decide) ?_
                subst hQ
                subst hAe
                have hP9 := hP.sub (ws' := [(x0, .inr (8, mO ax z1 z2 z3 fc z5 z6 z7 qs z9 z10 z11 z12 z13 hd lg fcn z17 z18 z19 md z21 z22 z23 z24 hc z26 z27 z28 z29 z30 z31 sm z33 z34)), (z18, .inl (cI, 360, .inl (nF cs))), (z5, .inl (cI, 60, .inl (nF fn))), (z6, .inl (cI, 60, .inl (nF fo))), (z7, .inl (cI, 60, .inl (nF ft))), (z33, .inl (cI, 40, .inl (oF (va_up (m_cp bd d 8) (8 * (d + 1) + xq) (if xq = 6 then none else some (fo k))))))]) [0, 1, 2, 3, 4, 5] rfl
                exact W.zret (v := (nI (1))) hx hb hr (by decide) (fun t9 h9 _ => ⟨⟨(nI (1)), (true, va_up (m_cp bd d 8) (8 * (d + 1) + xq) (if xq = 6 then none else some (fo k))), rfl, ⟨bI_1 rfl, (show ∀ j7, j7 < 8 * (d + 1) → (va_up (m_cp bd d 8) (8 * (d + 1) + xq) (if xq = 6 then none else some (fo k))) j7 = bd j7 from by (intro j7 hj7; rw [up_n _ _ (show j7 ≠ 8 * (d + 1) + xq by omega)]; exact m_cp_lo hj7)), (show ∀ j7 k7, (va_up (m_cp bd d 8) (8 * (d + 1) + xq) (if xq = 6 then none else some (fo k))) j7 = some k7 → k7 < 12 from by (exact up_oltn (m_cp_lt hbd) (if_olt (hfo k)))), (show m_bn (fun v7 => bd (8 * d + v7)) (cs (4 * f + d)) (fn k) (fo k) (ft k) true (fun v7 => (va_up (m_cp bd d 8) (8 * (d + 1) + xq) (if xq = 6 then none else some (fo k))) (8 * (d + 1) + v7)) from by (rw [← ecq]; refine Or.inr (Or.inr (Or.inl ⟨by assumption, by rw [← exq]; exact hncl, by omega, rfl, fun v7 hv7 => ?_⟩)); rw [← exq]; exact m_cp_hi hv7))⟩, by show va_P _ _ _ t9.heap; rw [h9]; exact hP9⟩, hS.F h9⟩) hS.2.2 dX8_binds_181
              · refine lv_iload hx hb dX8_binds_173 (lv_at hl 0 rfl) ?_
                refine lv_bipush (v := (nI (6))) hx hb dX8_binds_175 (by decide) ?_
                refine q_icmp_ne (x := yq) (y := 6) (tgt := 182) hx hb dX8_binds_177 (by decide) (by omega) (by omega) (fun c177_10 => ?_) (fun c177_10 => ?_)
                · refine lv_aload_n hx hb dX8_binds_182 rfl (lv_at hl 3 rfl) ?_
                  refine va_get (D := (dC, dI)) (ci := 8) (v := .ref z33) (C := RX8) (T := TX8) (N := 35) hx hb hts uX8 hown hK hP 0 rfl rfl 33 (by decide) (hts _ kfX8_87) (fun _ h9 => h9) rfl dX8_binds_183 ?_
                  refine lv_bipush (v := (nI (8))) hx hb dX8_binds_186 (by decide) ?_
                  refine lv_iload_n hx hb dX8_binds_188 rfl (lv_at hl 5 rfl) ?_
                  refine lv_iconst (v := (nI (1))) hx hb dX8_binds_189 (by decide) ?_
                  refine q_iadd (x := d) (y := 1) hx hb dX8_binds_190 ?_
                  refine q_imul (x := 8) (y := d + 1) hx hb dX8_binds_191 ?_
                  refine lv_iload hx hb dX8_binds_192 (lv_at hl 0 rfl) ?_
                  refine q_iadd (x := 8 * (d + 1)) (y := yq) hx hb dX8_binds_194 ?_
                  refine q_ialdO hx hb hK hP 5 0 rfl rfl (j := (8 * (d + 1)) + yq) (by omega) (by omega) dX8_binds_195 ?_
                  refine q_top (show (oI ((va_up (m_cp bd d 8) (8 * (d + 1) + xq) (if xq = 6 then none else some (fo k))) ((8 * (d + 1)) + yq))) = (oI (m_r1 (fun v7 => bd (8 * d + v7)) xq (fo k) yq)) from (congrArg oI (m_cp_hi (by omega)))) ?_
                  refine lv_istore (lv' := [(7, .int (oI (m_r1 (fun v7 => bd (8 * d + v7)) xq (fo k) yq))), (6, .int (nI (yq))), (5, .int (nI (xq))), (4, .int (nI (cq))), (0, .ref x0), (1, .int (nI (f))), (2, .int (nI (d))), (3, .int (nI (k)))]) hx hb dX8_binds_196 hl (by decide) rfl (fun ls hl => ?_)
                  have hr1b : ∀ j k7, m_r1 (fun v7 => bd (8 * d + v7)) xq (fo k) j = some k7 → k7 < 12 := up_oltn (fun j k7 h => hbd _ _ h) (if_olt (hfo k))
                  refine lv_aload_n hx hb dX8_binds_198 rfl (lv_at hl 4 rfl) ?_
                  refine va_get (D := (dC, dI)) (ci := 8) (v := .ref z33) (C := RX8) (T := TX8) (N := 35) hx hb hts uX8 hown hK hP 0 rfl rfl 33 (by decide) (hts _ kfX8_87) (fun _ h9 => h9) rfl dX8_binds_199 ?_
                  refine lv_bipush (v := (nI (8))) hx hb dX8_binds_202 (by decide) ?_
                  refine lv_iload_n hx hb dX8_binds_204 rfl (lv_at hl 6 rfl) ?_
                  refine lv_iconst (v := (nI (1))) hx hb dX8_binds_205 (by decide) ?_
                  refine q_iadd (x := d) (y := 1) hx hb dX8_binds_206 ?_
                  refine q_imul (x := 8) (y := d + 1) hx hb dX8_binds_207 ?_
                  refine lv_iload hx hb dX8_binds_208 (lv_at hl 1 rfl) ?_
                  refine q_iadd (x := 8 * (d + 1)) (y := yq) hx hb dX8_binds_210 ?_
                  refine lv_aload_n hx hb dX8_binds_211 rfl (lv_at hl 4 rfl) ?_
                  refine va_get (D := (dC, dI)) (ci := 8) (v := .ref z7) (C := RX8) (T := TX8) (N := 35) hx hb hts uX8 hown hK hP 0 rfl rfl 7 (by decide) (hts _ kfX8_25) (fun _ h9 => h9) rfl dX8_binds_212 ?_
                  refine lv_iload_n hx hb dX8_binds_215 rfl (lv_at hl 7 rfl) ?_
                  refine q_ialdN hx hb hK hP 4 0 rfl rfl (j := k) (by omega) (by omega) dX8_binds_216 ?_
                  have bd11 := hft k
                  refine q_iastO hx hb hK hP hD hS 5 0 rfl rfl (j := (8 * (d + 1)) + yq) (x := some (ft k)) (by omega) (by omega) dX8_binds_217 (fun H locs hP hD hS => ?_)
                  have hP : va_P (dC, dI) qCl [(x0, .inr (8, mO ax z1 z2 z3 fc z5 z6 z7 qs z9 z10 z11 z12 z13 hd lg fcn z17 z18 z19 md z21 z22 z23 z24 hc z26 z27 z28 z29 z30 z31 sm z33 z34)), (z18, .inl (cI, 360, .inl (nF cs))), (z5, .inl (cI, 60, .inl (nF fn))), (z6, .inl (cI, 60, .inl (nF fo))), (z7, .inl (cI, 60, .inl (nF ft))), (z33, .inl (cI, 40, .inl (oF (va_up (va_up (m_cp bd d 8) (8 * (d + 1) + xq) (if xq = 6 then none else some (fo k))) ((8 * (d + 1)) + yq) (some (ft k))))))] H := hP
                  have hD : va_D A [(x0, .inr (8, mO ax z1 z2 z3 fc z5 z6 z7 qs z9 z10 z11 z12 z13 hd lg fcn z17 z18 z19 md z21 z22 z23 z24 hc z26 z27 z28 z29 z30 z31 sm z33 z34)), (z18, .inl (cI, 360, .inl (nF cs))), (z5, .inl (cI, 60, .inl (nF fn))), (z6, .inl (cI, 60, .inl (nF fo))), (z7, .inl (cI, 60, .inl (nF ft))), (z33, .inl (cI, 40, .inl (oF (va_up (va_up (m_cp bd d 8) (8 * (d + 1) + xq) (if xq = 6 then none else some (fo k))) ((8 * (d + 1)) + yq) (some (ft k))))))] := hD
                  have hP : va_P (dC, dI) qCl [(x0, .inr (8, mO ax z1 z2 z3 fc z5 z6 z7 qs z9 z10 z11 z12 z13 hd lg fcn z17 z18 z19 md z21 z22 z23 z24 hc z26 z27 z28 z29 z30 z31 sm z33 z34)), (z18, .inl (cI, 360, .inl (nF cs))), (z5, .inl (cI, 60, .inl (nF fn))), (z6, .inl (cI, 60, .inl (nF fo))), (z7, .inl (cI, 60, .inl (nF ft))), (z33, .inl (cI, 40, .inl (oF (va_up (va_up (m_cp bd d 8) (8 * (d + 1) + xq) (if xq = 6 then none else some (fo k))) (8 * (d + 1) + yq) (some (ft k))))))] H := hP
                  have hD : va_D A [(x0, .inr (8, mO ax z1 z2 z3 fc z5 z6 z7 qs z9 z10 z11 z12 z13 hd lg fcn z17 z18 z19 md z21 z22 z23 z24 hc z26 z27 z28 z29 z30 z31 sm z33 z34)), (z18, .inl (cI, 360, .inl (nF cs))), (z5, .inl (cI, 60, .inl (nF fn))), (z6, .inl (cI, 60, .inl (nF fo))), (z7, .inl (cI, 60, .inl (nF ft))), (z33, .inl (cI, 40, .inl (oF (va_up (va_up (m_cp bd d 8) (8 * (d + 1) + xq) (if xq = 6 then none else some (fo k))) (8 * (d + 1) + yq) (some (ft k))))))] := hD
                  refine lv_iload hx hb dX8_binds_218 (lv_at hl 0 rfl) ?_
                  refine q_ifO_lt (x := m_r1 (fun v7 => bd (8 * d + v7)) xq (fo k) yq) (tgt := 234) hx hb dX8_binds_220 (by decide) (by (intro k9 h9; have := hr1b _ _ h9; omega)) (fun c220_12 => ?_) (fun c220_12 => ?_)
                  · refine lv_iconst (v := (nI (1))) hx hb dX8_binds_234 (by decide) ?_
                    refine lv_goto (tgt := 239) hx hb dX8_binds_235 (by decide) ?_
                    subst hQ
                    subst hAe
                    have hP9 := hP.sub (ws' := [(x0, .inr (8, mO ax z1 z2 z3 fc z5 z6 z7 qs z9 z10 z11 z12 z13 hd lg fcn z17 z18 z19 md z21 z22 z23 z24 hc z26 z27 z28 z29 z30 z31 sm z33 z34)), (z18, .inl (cI, 360, .inl (nF cs))), (z5, .inl (cI, 60, .inl (nF fn))), (z6, .inl (cI, 60, .inl (nF fo))), (z7, .inl (cI, 60, .inl (nF ft))), (z33, .inl (cI, 40, .inl (oF (va_up (va_up (m_cp bd d 8) (8 * (d + 1) + xq) (if xq = 6 then none else some (fo k))) (8 * (d + 1) + yq) (some (ft k))))))]) [0, 1, 2, 3, 4, 5] rfl
                    exact W.zret (v := (nI (1))) hx hb hr (by decide) (fun t9 h9 _ => ⟨⟨(nI (1)), (true, va_up (va_up (m_cp bd d 8) (8 * (d + 1) + xq) (if xq = 6 then none else some (fo k))) (8 * (d + 1) + yq) (some (ft k))), rfl, ⟨bI_1 rfl, (show ∀ j7, j7 < 8 * (d + 1) → (va_up (va_up (m_cp bd d 8) (8 * (d + 1) + xq) (if xq = 6 then none else some (fo k))) (8 * (d + 1) + yq) (some (ft k))) j7 = bd j7 from by (intro j7 hj7; rw [up_n _ _ (show j7 ≠ 8 * (d + 1) + yq by omega), up_n _ _ (show j7 ≠ 8 * (d + 1) + xq by omega)]; exact m_cp_lo hj7)), (show ∀ j7 k7, (va_up (va_up (m_cp bd d 8) (8 * (d + 1) + xq) (if xq = 6 then none else some (fo k))) (8 * (d + 1) + yq) (some (ft k))) j7 = some k7 → k7 < 12 from by (exact up_oltn (up_oltn (m_cp_lt hbd) (if_olt (hfo k))) (fun m7 h => (Option.some.inj h) ▸ hft k))), (show m_bn (fun v7 => bd (8 * d + v7)) (cs (4 * f + d)) (fn k) (fo k) (ft k) true (fun v7 => (va_up (va_up (m_cp bd d 8) (8 * (d + 1) + xq) (if xq = 6 then none else some (fo k))) (8 * (d + 1) + yq) (some (ft k))) (8 * (d + 1) + v7)) from by (rw [← ecq]; refine Or.inr (Or.inr (Or.inr ⟨by assumption, by rw [← exq]; exact hncl, by omega, ?_, fun v7 hv7 => by rw [← exq, ← eyq]; exact m_cp_hi2 hv7⟩)); rw [← exq, ← eyq]; first | (exact ⟨fun _ => Or.inl (by assumption), fun _ => rfl⟩) | (exact ⟨fun _ => Or.inr (by rw [eu8]; exact congrArg some (by assumption)), fun _ => rfl⟩) | (exact m_bf eu8 (by assumption))))⟩, by show va_P _ _ _ t9.heap; rw [h9]; exact hP9⟩, hS.F h9⟩) hS.2.2 dX8_binds_239
                  · obtain ⟨u8, eu8⟩ : ∃ u8, m_r1 (fun v7 => bd (8 * d + v7)) xq (fo k) yq = some u8 := Option.ne_none_iff_exists'.mp (by assumption)
                    have hu8 : u8 < 12 := hr1b _ _ eu8
                    have hl := lv_updv hl 0 rfl (show (.int (oI (m_r1 (fun v7 => bd (8 * d + v7)) xq (fo k) yq)) : Value) = .int (nI (u8)) from (by rw [eu8]; rfl))
                    have hl : lv_has ls 8 [(7, .int (nI (u8))), (6, .int (nI (yq))), (5, .int (nI (xq))), (4, .int (nI (cq))), (0, .ref x0), (1, .int (nI (f))), (2, .int (nI (d))), (3, .int (nI (k)))] := hl
                    refine lv_iload hx hb dX8_binds_223 (lv_at hl 0 rfl) ?_
                    refine lv_aload_n hx hb dX8_binds_225 rfl (lv_at hl 4 rfl) ?_
                    refine va_get (D := (dC, dI)) (ci := 8) (v := .ref z7) (C := RX8) (T := TX8) (N := 35) hx hb hts uX8 hown hK hP 0 rfl rfl 7 (by decide) (hts _ kfX8_25) (fun _ h9 => h9) rfl dX8_binds_226 ?_
                    refine lv_iload_n hx hb dX8_binds_229 rfl (lv_at hl 7 rfl) ?_
                    refine q_ialdN hx hb hK hP 4 0 rfl rfl (j := k) (by omega) (by omega) dX8_binds_230 ?_
                    have bd13 := hft k
                    refine q_icmp_ne (x := u8) (y := ft k) (tgt := 238) hx hb dX8_binds_231 (by decide) (by omega) (by omega) (fun c231_14 => ?_) (fun c231_14 => ?_)
                    · refine lv_iconst (v := (nI (0))) hx hb dX8_binds_238 (by decide) ?_
                      subst hQ
                      subst hAe
                      have hP9 := hP.sub (ws' := [(x0, .inr (8, mO ax z1 z2 z3 fc z5 z6 z7 qs z9 z10 z11 z12 z13 hd lg fcn z17 z18 z19 md z21 z22 z23 z24 hc z26 z27 z28 z29 z30 z31 sm z33 z34)), (z18, .inl (cI, 360, .inl (nF cs))), (z5, .inl (cI, 60, .inl (nF fn))), (z6, .inl (cI, 60, .inl (nF fo))), (z7, .inl (cI, 60, .inl (nF ft))), (z33, .inl (cI, 40, .inl (oF (va_up (va_up (m_cp bd d 8) (8 * (d + 1) + xq) (if xq = 6 then none else some (fo k))) (8 * (d + 1) + yq) (some (ft k))))))]) [0, 1, 2, 3, 4, 5] rfl
                      exact W.zret (v := (nI (0))) hx hb hr (by decide) (fun t9 h9 _ => ⟨⟨(nI (0)), (false, va_up (va_up (m_cp bd d 8) (8 * (d + 1) + xq) (if xq = 6 then none else some (fo k))) (8 * (d + 1) + yq) (some (ft k))), rfl, ⟨bI_0 rfl, (show ∀ j7, j7 < 8 * (d + 1) → (va_up (va_up (m_cp bd d 8) (8 * (d + 1) + xq) (if xq = 6 then none else some (fo k))) (8 * (d + 1) + yq) (some (ft k))) j7 = bd j7 from by (intro j7 hj7; rw [up_n _ _ (show j7 ≠ 8 * (d + 1) + yq by omega), up_n _ _ (show j7 ≠ 8 * (d + 1) + xq by omega)]; exact m_cp_lo hj7)), (show ∀ j7 k7, (va_up (va_up (m_cp bd d 8) (8 * (d + 1) + xq) (if xq = 6 then none else some (fo k))) (8 * (d + 1) + yq) (some (ft k))) j7 = some k7 → k7 < 12 from by (exact up_oltn (up_oltn (m_cp_lt hbd) (if_olt (hfo k))) (fun m7 h => (Option.some.inj h) ▸ hft k))), (show m_bn (fun v7 => bd (8 * d + v7)) (cs (4 * f + d)) (fn k) (fo k) (ft k) false (fun v7 => (va_up (va_up (m_cp bd d 8) (8 * (d + 1) + xq) (if xq = 6 then none else some (fo k))) (8 * (d + 1) + yq) (some (ft k))) (8 * (d + 1) + v7)) from by (rw [← ecq]; refine Or.inr (Or.inr (Or.inr ⟨by assumption, by rw [← exq]; exact hncl, by omega, ?_, fun v7 hv7 => by rw [← exq, ← eyq]; exact m_cp_hi2 hv7⟩)); rw [← exq, ← eyq]; first | (exact ⟨fun _ => Or.inl (by assumption), fun _ => rfl⟩) | (exact ⟨fun _ => Or.inr (by rw [eu8]; exact congrArg some (by assumption)), fun _ => rfl⟩) | (exact m_bf eu8 (by assumption))))⟩, by show va_P _ _ _ t9.heap; rw [h9]; exact hP9⟩, hS.F h9⟩) hS.2.2 dX8_binds_239
                    · refine lv_iconst (v := (nI (1))) hx hb dX8_binds_234 (by decide) ?_
                      refine lv_goto (tgt := 239) hx hb dX8_binds_235 (by decide) ?_
                      subst hQ
                      subst hAe
                      have hP9 := hP.sub (ws' := [(x0, .inr (8, mO ax z1 z2 z3 fc z5 z6 z7 qs z9 z10 z11 z12 z13 hd lg fcn z17 z18 z19 md z21 z22 z23 z24 hc z26 z27 z28 z29 z30 z31 sm z33 z34)), (z18, .inl (cI, 360, .inl (nF cs))), (z5, .inl (cI, 60, .inl (nF fn))), (z6, .inl (cI, 60, .inl (nF fo))), (z7, .inl (cI, 60, .inl (nF ft))), (z33, .inl (cI, 40, .inl (oF (va_up (va_up (m_cp bd d 8) (8 * (d + 1) + xq) (if xq = 6 then none else some (fo k))) (8 * (d + 1) + yq) (some (ft k))))))]) [0, 1, 2, 3, 4, 5] rfl
                      exact W.zret (v := (nI (1))) hx hb hr (by decide) (fun t9 h9 _ => ⟨⟨(nI (1)), (true, va_up (va_up (m_cp bd d 8) (8 * (d + 1) + xq) (if xq = 6 then none else some (fo k))) (8 * (d + 1) + yq) (some (ft k))), rfl, ⟨bI_1 rfl, (show ∀ j7, j7 < 8 * (d + 1) → (va_up (va_up (m_cp bd d 8) (8 * (d + 1) + xq) (if xq = 6 then none else some (fo k))) (8 * (d + 1) + yq) (some (ft k))) j7 = bd j7 from by (intro j7 hj7; rw [up_n _ _ (show j7 ≠ 8 * (d + 1) + yq by omega), up_n _ _ (show j7 ≠ 8 * (d + 1) + xq by omega)]; exact m_cp_lo hj7)), (show ∀ j7 k7, (va_up (va_up (m_cp bd d 8) (8 * (d + 1) + xq) (if xq = 6 then none else some (fo k))) (8 * (d + 1) + yq) (some (ft k))) j7 = some k7 → k7 < 12 from by (exact up_oltn (up_oltn (m_cp_lt hbd) (if_olt (hfo k))) (fun m7 h => (Option.some.inj h) ▸ hft k))), (show m_bn (fun v7 => bd (8 * d + v7)) (cs (4 * f + d)) (fn k) (fo k) (ft k) true (fun v7 => (va_up (va_up (m_cp bd d 8) (8 * (d + 1) + xq) (if xq = 6 then none else some (fo k))) (8 * (d + 1) + yq) (some (ft k))) (8 * (d + 1) + v7)) from by (rw [← ecq]; refine Or.inr (Or.inr (Or.inr ⟨by assumption, by rw [← exq]; exact hncl, by omega, ?_, fun v7 hv7 => by rw [← exq, ← eyq]; exact m_cp_hi2 hv7⟩)); rw [← exq, ← eyq]; first | (exact ⟨fun _ => Or.inl (by assumption), fun _ => rfl⟩) | (exact ⟨fun _ => Or.inr (by rw [eu8]; exact congrArg some (by assumption)), fun _ => rfl⟩) | (exact m_bf eu8 (by assumption))))⟩, by show va_P _ _ _ t9.heap; rw [h9]; exact hP9⟩, hS.F h9⟩) hS.2.2 dX8_binds_239
                · refine lv_iconst (v := (nI (1))) hx hb dX8_binds_180 (by decide) ?_
                  subst hQ
                  subst hAe
                  have hP9 := hP.sub (ws' := [(x0, .inr (8, mO ax z1 z2 z3 fc z5 z6 z7 qs z9 z10 z11 z12 z13 hd lg fcn z17 z18 z19 md z21 z22 z23 z24 hc z26 z27 z28 z29 z30 z31 sm z33 z34)), (z18, .inl (cI, 360, .inl (nF cs))), (z5, .inl (cI, 60, .inl (nF fn))), (z6, .inl (cI, 60, .inl (nF fo))), (z7, .inl (cI, 60, .inl (nF ft))), (z33, .inl (cI, 40, .inl (oF (va_up (m_cp bd d 8) (8 * (d + 1) + xq) (if xq = 6 then none else some (fo k))))))]) [0, 1, 2, 3, 4, 5] rfl
                  exact W.zret (v := (nI (1))) hx hb hr (by decide) (fun t9 h9 _ => ⟨⟨(nI (1)), (true, va_up (m_cp bd d 8) (8 * (d + 1) + xq) (if xq = 6 then none else some (fo k))), rfl, ⟨bI_1 rfl, (show ∀ j7, j7 < 8 * (d + 1) → (va_up (m_cp bd d 8) (8 * (d + 1) + xq) (if xq = 6 then none else some (fo k))) j7 = bd j7 from by (intro j7 hj7; rw [up_n _ _ (show j7 ≠ 8 * (d + 1) + xq by omega)]; exact m_cp_lo hj7)), (show ∀ j7 k7, (va_up (m_cp bd d 8) (8 * (d + 1) + xq) (if xq = 6 then none else some (fo k))) j7 = some k7 → k7 < 12 from by (exact up_oltn (m_cp_lt hbd) (if_olt (hfo k)))), (show m_bn (fun v7 => bd (8 * d + v7)) (cs (4 * f + d)) (fn k) (fo k) (ft k) true (fun v7 => (va_up (m_cp bd d 8) (8 * (d + 1) + xq) (if xq = 6 then none else some (fo k))) (8 * (d + 1) + v7)) from by (rw [← ecq]; refine Or.inr (Or.inr (Or.inl ⟨by assumption, by rw [← exq]; exact hncl, by omega, rfl, fun v7 hv7 => ?_⟩)); rw [← exq]; exact m_cp_hi hv7))⟩, by show va_P _ _ _ t9.heap; rw [h9]; exact hP9⟩, hS.F h9⟩) hS.2.2 dX8_binds_181
            · refine lv_iconst (v := (oI (none))) hx hb dX8_binds_152 (by decide) ?_
              refine lv_goto (tgt := 162) hx hb dX8_binds_153 (by decide) ?_
              refine q_iastO hx hb hK hP hD hS 5 0 rfl rfl (j := (8 * (d + 1)) + xq) (x := none) (by omega) (by omega) dX8_binds_162 (fun H locs hP hD hS => ?_)
              have hP : va_P (dC, dI) qCl [(x0, .inr (8, mO ax z1 z2 z3 fc z5 z6 z7 qs z9 z10 z11 z12 z13 hd lg fcn z17 z18 z19 md z21 z22 z23 z24 hc z26 z27 z28 z29 z30 z31 sm z33 z34)), (z18, .inl (cI, 360, .inl (nF cs))), (z5, .inl (cI, 60, .inl (nF fn))), (z6, .inl (cI, 60, .inl (nF fo))), (z7, .inl (cI, 60, .inl (nF ft))), (z33, .inl (cI, 40, .inl (oF (va_up (m_cp bd d 8) ((8 * (d + 1)) + xq) none))))] H := hP
              have hD : va_D A [(x0, .inr (8, mO ax z1 z2 z3 fc z5 z6 z7 qs z9 z10 z11 z12 z13 hd lg fcn z17 z18 z19 md z21 z22 z23 z24 hc z26 z27 z28 z29 z30 z31 sm z33 z34)), (z18, .inl (cI, 360, .inl (nF cs))), (z5, .inl (cI, 60, .inl (nF fn))), (z6, .inl (cI, 60, .inl (nF fo))), (z7, .inl (cI, 60, .inl (nF ft))), (z33, .inl (cI, 40, .inl (oF (va_up (m_cp bd d 8) ((8 * (d + 1)) + xq) none))))] := hD
              have ea15 : (va_up (m_cp bd d 8) ((8 * (d + 1)) + xq) none) = va_up (m_cp bd d 8) (8 * (d + 1) + xq) (if xq = 6 then none else some (fo k)) := by (first | (rw [if_pos (by omega)]) | (rw [if_neg (by omega)]))
              rw [ea15] at hP hD
              have hP : va_P (dC, dI) qCl [(x0, .inr (8, mO ax z1 z2 z3 fc z5 z6 z7 qs z9 z10 z11 z12 z13 hd lg fcn z17 z18 z19 md z21 z22 z23 z24 hc z26 z27 z28 z29 z30 z31 sm z33 z34)), (z18, .inl (cI, 360, .inl (nF cs))), (z5, .inl (cI, 60, .inl (nF fn))), (z6, .inl (cI, 60, .inl (nF fo))), (z7, .inl (cI, 60, .inl (nF ft))), (z33, .inl (cI, 40, .inl (oF (va_up (m_cp bd d 8) (8 * (d + 1) + xq) (if xq = 6 then none else some (fo k))))))] H := hP
              have hD : va_D A [(x0, .inr (8, mO ax z1 z2 z3 fc z5 z6 z7 qs z9 z10 z11 z12 z13 hd lg fcn z17 z18 z19 md z21 z22 z23 z24 hc z26 z27 z28 z29 z30 z31 sm z33 z34)), (z18, .inl (cI, 360, .inl (nF cs))), (z5, .inl (cI, 60, .inl (nF fn))), (z6, .inl (cI, 60, .inl (nF fo))), (z7, .inl (cI, 60, .inl (nF ft))), (z33, .inl (cI, 40, .inl (oF (va_up (m_cp bd d 8) (8 * (d + 1) + xq) (if xq = 6 then none else some (fo k))))))] := hD
              refine lv_iload hx hb dX8_binds_163 (lv_at hl 2 rfl) ?_
              refine lv_bipush (v := (nI (64))) hx hb dX8_binds_165 (by decide) ?_
              refine q_idiv (x := cq) (y := 64) hx hb (by omega) (by omega) (by omega) dX8_binds_167 ?_
              refine lv_bipush (v := (nI (32))) hx hb dX8_binds_168 (by decide) ?_
              refine q_icmp_lt (x := cq / 64) (y := 32) (tgt := 180) hx hb dX8_binds_170 (by decide) (by omega) (by omega) (fun c170_16 => ?_) (fun c170_16 => ?_)
              · refine lv_iconst (v := (nI (1))) hx hb dX8_binds_180 (by decide) ?_
                subst hQ
                subst hAe
                have hP9 := hP.sub (ws' := [(x0, .inr (8, mO ax z1 z2 z3 fc z5 z6 z7 qs z9 z10 z11 z12 z13 hd lg fcn z17 z18 z19 md z21 z22 z23 z24 hc z26 z27 z28 z29 z30 z31 sm z33 z34)), (z18, .inl (cI, 360, .inl (nF cs))), (z5, .inl (cI, 60, .inl (nF fn))), (z6, .inl (cI, 60, .inl (nF fo))), (z7, .inl (cI, 60, .inl (nF ft))), (z33, .inl (cI, 40, .inl (oF (va_up (m_cp bd d 8) (8 * (d + 1) + xq) (if xq = 6 then none else some (fo k))))))]) [0, 1, 2, 3, 4, 5] rfl
                exact W.zret (v := (nI (1))) hx hb hr (by decide) (fun t9 h9 _ => ⟨⟨(nI (1)), (true, va_up (m_cp bd d 8) (8 * (d + 1) + xq) (if xq = 6 then none else some (fo k))), rfl, ⟨bI_1 rfl, (show ∀ j7, j7 < 8 * (d + 1) → (va_up (m_cp bd d 8) (8 * (d + 1) + xq) (if xq = 6 then none else some (fo k))) j7 = bd j7 from by (intro j7 hj7; rw [up_n _ _ (show j7 ≠ 8 * (d + 1) + xq by omega)]; exact m_cp_lo hj7)), (show ∀ j7 k7, (va_up (m_cp bd d 8) (8 * (d + 1) + xq) (if xq = 6 then none else some (fo k))) j7 = some k7 → k7 < 12 from by (exact up_oltn (m_cp_lt hbd) (if_olt (hfo k)))), (show m_bn (fun v7 => bd (8 * d + v7)) (cs (4 * f + d)) (fn k) (fo k) (ft k) true (fun v7 => (va_up (m_cp bd d 8) (8 * (d + 1) + xq) (if xq = 6 then none else some (fo k))) (8 * (d + 1) + v7)) from by (rw [← ecq]; refine Or.inr (Or.inr (Or.inl ⟨by assumption, by rw [← exq]; exact hncl, by omega, rfl, fun v7 hv7 => ?_⟩)); rw [← exq]; exact m_cp_hi hv7))⟩, by show va_P _ _ _ t9.heap; rw [h9]; exact hP9⟩, hS.F h9⟩) hS.2.2 dX8_binds_181
              · refine lv_iload hx hb dX8_binds_173 (lv_at hl 0 rfl) ?_
                refine lv_bipush (v := (nI (6))) hx hb dX8_binds_175 (by decide) ?_
                refine q_icmp_ne (x := yq) (y := 6) (tgt := 182) hx hb dX8_binds_177 (by decide) (by omega) (by omega) (fun c177_17 => ?_) (fun c177_17 => ?_)
                · refine lv_aload_n hx hb dX8_binds_182 rfl (lv_at hl 3 rfl) ?_
                  refine va_get (D := (dC, dI)) (ci := 8) (v := .ref z33) (C := RX8) (T := TX8) (N := 35) hx hb hts uX8 hown hK hP 0 rfl rfl 33 (by decide) (hts _ kfX8_87) (fun _ h9 => h9) rfl dX8_binds_183 ?_
                  refine lv_bipush (v := (nI (8))) hx hb dX8_binds_186 (by decide) ?_
                  refine lv_iload_n hx hb dX8_binds_188 rfl (lv_at hl 5 rfl) ?_
                  refine lv_iconst (v := (nI (1))) hx hb dX8_binds_189 (by decide) ?_
                  refine q_iadd (x := d) (y := 1) hx hb dX8_binds_190 ?_
                  refine q_imul (x := 8) (y := d + 1) hx hb dX8_binds_191 ?_
                  refine lv_iload hx hb dX8_binds_192 (lv_at hl 0 rfl) ?_
                  refine q_iadd (x := 8 * (d + 1)) (y := yq) hx hb dX8_binds_194 ?_
                  refine q_ialdO hx hb hK hP 5 0 rfl rfl (j := (8 * (d + 1)) + yq) (by omega) (by omega) dX8_binds_195 ?_
                  refine q_top (show (oI ((va_up (m_cp bd d 8) (8 * (d + 1) + xq) (if xq = 6 then none else some (fo k))) ((8 * (d + 1)) + yq))) = (oI (m_r1 (fun v7 => bd (8 * d + v7)) xq (fo k) yq)) from (congrArg oI (m_cp_hi (by omega)))) ?_
                  refine lv_istore (lv' := [(7, .int (oI (m_r1 (fun v7 => bd (8 * d + v7)) xq (fo k) yq))), (6, .int (nI (yq))), (5, .int (nI (xq))), (4, .int (nI (cq))), (0, .ref x0), (1, .int (nI (f))), (2, .int (nI (d))), (3, .int (nI (k)))]) hx hb dX8_binds_196 hl (by decide) rfl (fun ls hl => ?_)
                  have hr1b : ∀ j k7, m_r1 (fun v7 => bd (8 * d + v7)) xq (fo k) j = some k7 → k7 < 12 := up_oltn (fun j k7 h => hbd _ _ h) (if_olt (hfo k))
                  refine lv_aload_n hx hb dX8_binds_198 rfl (lv_at hl 4 rfl) ?_
                  refine va_get (D := (dC, dI)) (ci := 8) (v := .ref z33) (C := RX8) (T := TX8) (N := 35) hx hb hts uX8 hown hK hP 0 rfl rfl 33 (by decide) (hts _ kfX8_87) (fun _ h9 => h9) rfl dX8_binds_199 ?_
                  refine lv_bipush (v := (nI (8))) hx hb dX8_binds_202 (by decide) ?_
                  refine lv_iload_n hx hb dX8_binds_204 rfl (lv_at hl 6 rfl) ?_
                  refine lv_iconst (v := (nI (1))) hx hb dX8_binds_205 (by decide) ?_
                  refine q_iadd (x := d) (y := 1) hx hb dX8_binds_206 ?_
                  refine q_imul (x := 8) (y := d + 1) hx hb dX8_binds_207 ?_
                  refine lv_iload hx hb dX8_binds_208 (lv_at hl 1 rfl) ?_
                  refine q_iadd (x := 8 * (d + 1)) (y := yq) hx hb dX8_binds_210 ?_
                  refine lv_aload_n hx hb dX8_binds_211 rfl (lv_at hl 4 rfl) ?_
                  refine va_get (D := (dC, dI)) (ci := 8) (v := .ref z7) (C := RX8) (T := TX8) (N := 35) hx hb hts uX8 hown hK hP 0 rfl rfl 7 (by decide) (hts _ kfX8_25) (fun _ h9 => h9) rfl dX8_binds_212 ?_
                  refine lv_iload_n hx hb dX8_binds_215 rfl (lv_at hl 7 rfl) ?_
                  refine q_ialdN hx hb hK hP 4 0 rfl rfl (j := k) (by omega) (by omega) dX8_binds_216 ?_
                  have bd18 := hft k
                  refine q_iastO hx hb hK hP hD hS 5 0 rfl rfl (j := (8 * (d + 1)) + yq) (x := some (ft k)) (by omega) (by omega) dX8_binds_217 (fun H locs hP hD hS => ?_)
                  have hP : va_P (dC, dI) qCl [(x0, .inr (8, mO ax z1 z2 z3 fc z5 z6 z7 qs z9 z10 z11 z12 z13 hd lg fcn z17 z18 z19 md z21 z22 z23 z24 hc z26 z27 z28 z29 z30 z31 sm z33 z34)), (z18, .inl (cI, 360, .inl (nF cs))), (z5, .inl (cI, 60, .inl (nF fn))), (z6, .inl (cI, 60, .inl (nF fo))), (z7, .inl (cI, 60, .inl (nF ft))), (z33, .inl (cI, 40, .inl (oF (va_up (va_up (m_cp bd d 8) (8 * (d + 1) + xq) (if xq = 6 then none else some (fo k))) ((8 * (d + 1)) + yq) (some (ft k))))))] H := hP
                  have hD : va_D A [(x0, .inr (8, mO ax z1 z2 z3 fc z5 z6 z7 qs z9 z10 z11 z12 z13 hd lg fcn z17 z18 z19 md z21 z22 z23 z24 hc z26 z27 z28 z29 z30 z31 sm z33 z34)), (z18, .inl (cI, 360, .inl (nF cs))), (z5, .inl (cI, 60, .inl (nF fn))), (z6, .inl (cI, 60, .inl (nF fo))), (z7, .inl (cI, 60, .inl (nF ft))), (z33, .inl (cI, 40, .inl (oF (va_up (va_up (m_cp bd d 8) (8 * (d + 1) + xq) (if xq = 6 then none else some (fo k))) ((8 * (d + 1)) + yq) (some (ft k))))))] := hD
                  have hP : va_P (dC, dI) qCl [(x0, .inr (8, mO ax z1 z2 z3 fc z5 z6 z7 qs z9 z10 z11 z12 z13 hd lg fcn z17 z18 z19 md z21 z22 z23 z24 hc z26 z27 z28 z29 z30 z31 sm z33 z34)), (z18, .inl (cI, 360, .inl (nF cs))), (z5, .inl (cI, 60, .inl (nF fn))), (z6, .inl (cI, 60, .inl (nF fo))), (z7, .inl (cI, 60, .inl (nF ft))), (z33, .inl (cI, 40, .inl (oF (va_up (va_up (m_cp bd d 8) (8 * (d + 1) + xq) (if xq = 6 then none else some (fo k))) (8 * (d + 1) + yq) (some (ft k))))))] H := hP
                  have hD : va_D A [(x0, .inr (8, mO ax z1 z2 z3 fc z5 z6 z7 qs z9 z10 z11 z12 z13 hd lg fcn z17 z18 z19 md z21 z22 z23 z24 hc z26 z27 z28 z29 z30 z31 sm z33 z34)), (z18, .inl (cI, 360, .inl (nF cs))), (z5, .inl (cI, 60, .inl (nF fn))), (z6, .inl (cI, 60, .inl (nF fo))), (z7, .inl (cI, 60, .inl (nF ft))), (z33, .inl (cI, 40, .inl (oF (va_up (va_up (m_cp bd d 8) (8 * (d + 1) + xq) (if xq = 6 then none else some (fo k))) (8 * (d + 1) + yq) (some (ft k))))))] := hD
                  refine lv_iload hx hb dX8_binds_218 (lv_at hl 0 rfl) ?_
                  refine q_ifO_lt (x := m_r1 (fun v7 => bd (8 * d + v7)) xq (fo k) yq) (tgt := 234) hx hb dX8_binds_220 (by decide) (by (intro k9 h9; have := hr1b _ _ h9; omega)) (fun c220_19 => ?_) (fun c220_19 => ?_)
                  · refine lv_iconst (v := (nI (1))) hx hb dX8_binds_234 (by decide) ?_
                    refine lv_goto (tgt := 239) hx hb dX8_binds_235 (by decide) ?_
                    subst hQ
                    subst hAe
                    have hP9 := hP.sub (ws' := [(x0, .inr (8, mO ax z1 z2 z3 fc z5 z6 z7 qs z9 z10 z11 z12 z13 hd lg fcn z17 z18 z19 md z21 z22 z23 z24 hc z26 z27 z28 z29 z30 z31 sm z33 z34)), (z18, .inl (cI, 360, .inl (nF cs))), (z5, .inl (cI, 60, .inl (nF fn))), (z6, .inl (cI, 60, .inl (nF fo))), (z7, .inl (cI, 60, .inl (nF ft))), (z33, .inl (cI, 40, .inl (oF (va_up (va_up (m_cp bd d 8) (8 * (d + 1) + xq) (if xq = 6 then none else some (fo k))) (8 * (d + 1) + yq) (some (ft k))))))]) [0, 1, 2, 3, 4, 5] rfl
                    exact W.zret (v := (nI (1))) hx hb hr (by decide) (fun t9 h9 _ => ⟨⟨(nI (1)), (true, va_up (va_up (m_cp bd d 8) (8 * (d + 1) + xq) (if xq = 6 then none else some (fo k))) (8 * (d + 1) + yq) (some (ft k))), rfl, ⟨bI_1 rfl, (show ∀ j7, j7 < 8 * (d + 1) → (va_up (va_up (m_cp bd d 8) (8 * (d + 1) + xq) (if xq = 6 then none else some (fo k))) (8 * (d + 1) + yq) (some (ft k))) j7 = bd j7 from by (intro j7 hj7; rw [up_n _ _ (show j7 ≠ 8 * (d + 1) + yq by omega), up_n _ _ (show j7 ≠ 8 * (d + 1) + xq by omega)]; exact m_cp_lo hj7)), (show ∀ j7 k7, (va_up (va_up (m_cp bd d 8) (8 * (d + 1) + xq) (if xq = 6 then none else some (fo k))) (8 * (d + 1) + yq) (some (ft k))) j7 = some k7 → k7 < 12 from by (exact up_oltn (up_oltn (m_cp_lt hbd) (if_olt (hfo k))) (fun m7 h => (Option.some.inj h) ▸ hft k))), (show m_bn (fun v7 => bd (8 * d + v7)) (cs (4 * f + d)) (fn k) (fo k) (ft k) true (fun v7 => (va_up (va_up (m_cp bd d 8) (8 * (d + 1) + xq) (if xq = 6 then none else some (fo k))) (8 * (d + 1) + yq) (some (ft k))) (8 * (d + 1) + v7)) from by (rw [← ecq]; refine Or.inr (Or.inr (Or.inr ⟨by assumption, by rw [← exq]; exact hncl, by omega, ?_, fun v7 hv7 => by rw [← exq, ← eyq]; exact m_cp_hi2 hv7⟩)); rw [← exq, ← eyq]; first | (exact ⟨fun _ => Or.inl (by assumption), fun _ => rfl⟩) | (exact ⟨fun _ => Or.inr (by rw [eu8]; exact congrArg some (by assumption)), fun _ => rfl⟩) | (exact m_bf eu8 (by assumption))))⟩, by show va_P _ _ _ t9.heap; rw [h9]; exact hP9⟩, hS.F h9⟩) hS.2.2 dX8_binds_239
                  · obtain ⟨u8, eu8⟩ : ∃ u8, m_r1 (fun v7 => bd (8 * d + v7)) xq (fo k) yq = some u8 := Option.ne_none_iff_exists'.mp (by assumption)
                    have hu8 : u8 < 12 := hr1b _ _ eu8
                    have hl := lv_updv hl 0 rfl (show (.int (oI (m_r1 (fun v7 => bd (8 * d + v7)) xq (fo k) yq)) : Value) = .int (nI (u8)) from (by rw [eu8]; rfl))
                    have hl : lv_has ls 8 [(7, .int (nI (u8))), (6, .int (nI (yq))), (5, .int (nI (xq))), (4, .int (nI (cq))), (0, .ref x0), (1, .int (nI (f))), (2, .int (nI (d))), (3, .int (nI (k)))] := hl
                    refine lv_iload hx hb dX8_binds_223 (lv_at hl 0 rfl) ?_
                    refine lv_aload_n hx hb dX8_binds_225 rfl (lv_at hl 4 rfl) ?_
                    refine va_get (D := (dC, dI)) (ci := 8) (v := .ref z7) (C := RX8) (T := TX8) (N := 35) hx hb hts uX8 hown hK hP 0 rfl rfl 7 (by decide) (hts _ kfX8_25) (fun _ h9 => h9) rfl dX8_binds_226 ?_
                    refine lv_iload_n hx hb dX8_binds_229 rfl (lv_at hl 7 rfl) ?_
                    refine q_ialdN hx hb hK hP 4 0 rfl rfl (j := k) (by omega) (by omega) dX8_binds_230 ?_
                    have bd20 := hft k
                    refine q_icmp_ne (x := u8) (y := ft k) (tgt := 238) hx hb dX8_binds_231 (by decide) (by omega) (by omega) (fun c231_21 => ?_) (fun c231_21 => ?_)
                    · refine lv_iconst (v := (nI (0))) hx hb dX8_binds_238 (by decide) ?_
                      subst hQ
                      subst hAe
                      have hP9 := hP.sub (ws' := [(x0, .inr (8, mO ax z1 z2 z3 fc z5 z6 z7 qs z9 z10 z11 z12 z13 hd lg fcn z17 z18 z19 md z21 z22 z23 z24 hc z26 z27 z28 z29 z30 z31 sm z33 z34)), (z18, .inl (cI, 360, .inl (nF cs))), (z5, .inl (cI, 60, .inl (nF fn))), (z6, .inl (cI, 60, .inl (nF fo))), (z7, .inl (cI, 60, .inl (nF ft))), (z33, .inl (cI, 40, .inl (oF (va_up (va_up (m_cp bd d 8) (8 * (d + 1) + xq) (if xq = 6 then none else some (fo k))) (8 * (d + 1) + yq) (some (ft k))))))]) [0, 1, 2, 3, 4, 5] rfl
                      exact W.zret (v := (nI (0))) hx hb hr (by decide) (fun t9 h9 _ => ⟨⟨(nI (0)), (false, va_up (va_up (m_cp bd d 8) (8 * (d + 1) + xq) (if xq = 6 then none else some (fo k))) (8 * (d + 1) + yq) (some (ft k))), rfl, ⟨bI_0 rfl, (show ∀ j7, j7 < 8 * (d + 1) → (va_up (va_up (m_cp bd d 8) (8 * (d + 1) + xq) (if xq = 6 then none else some (fo k))) (8 * (d + 1) + yq) (some (ft k))) j7 = bd j7 from by (intro j7 hj7; rw [up_n _ _ (show j7 ≠ 8 * (d + 1) + yq by omega), up_n _ _ (show j7 ≠ 8 * (d + 1) + xq by omega)]; exact m_cp_lo hj7)), (show ∀ j7 k7, (va_up (va_up (m_cp bd d 8) (8 * (d + 1) + xq) (if xq = 6 then none else some (fo k))) (8 * (d + 1) + yq) (some (ft k))) j7 = some k7 → k7 < 12 from by (exact up_oltn (up_oltn (m_cp_lt hbd) (if_olt (hfo k))) (fun m7 h => (Option.some.inj h) ▸ hft k))), (show m_bn (fun v7 => bd (8 * d + v7)) (cs (4 * f + d)) (fn k) (fo k) (ft k) false (fun v7 => (va_up (va_up (m_cp bd d 8) (8 * (d + 1) + xq) (if xq = 6 then none else some (fo k))) (8 * (d + 1) + yq) (some (ft k))) (8 * (d + 1) + v7)) from by (rw [← ecq]; refine Or.inr (Or.inr (Or.inr ⟨by assumption, by rw [← exq]; exact hncl, by omega, ?_, fun v7 hv7 => by rw [← exq, ← eyq]; exact m_cp_hi2 hv7⟩)); rw [← exq, ← eyq]; first | (exact ⟨fun _ => Or.inl (by assumption), fun _ => rfl⟩) | (exact ⟨fun _ => Or.inr (by rw [eu8]; exact congrArg some (by assumption)), fun _ => rfl⟩) | (exact m_bf eu8 (by assumption))))⟩, by show va_P _ _ _ t9.heap; rw [h9]; exact hP9⟩, hS.F h9⟩) hS.2.2 dX8_binds_239
                    · refine lv_iconst (v := (nI (1))) hx hb dX8_binds_234 (by decide) ?_
                      refine lv_goto (tgt := 239) hx hb dX8_binds_235 (by decide) ?_
                      subst hQ
                      subst hAe
                      have hP9 := hP.sub (ws' := [(x0, .inr (8, mO ax z1 z2 z3 fc z5 z6 z7 qs z9 z10 z11 z12 z13 hd lg fcn z17 z18 z19 md z21 z22 z23 z24 hc z26 z27 z28 z29 z30 z31 sm z33 z34)), (z18, .inl (cI, 360, .inl (nF cs))), (z5, .inl (cI, 60, .inl (nF fn))), (z6, .inl (cI, 60, .inl (nF fo))), (z7, .inl (cI, 60, .inl (nF ft))), (z33, .inl (cI, 40, .inl (oF (va_up (va_up (m_cp bd d 8) (8 * (d + 1) + xq) (if xq = 6 then none else some (fo k))) (8 * (d + 1) + yq) (some (ft k))))))]) [0, 1, 2, 3, 4, 5] rfl
                      exact W.zret (v := (nI (1))) hx hb hr (by decide) (fun t9 h9 _ => ⟨⟨(nI (1)), (true, va_up (va_up (m_cp bd d 8) (8 * (d + 1) + xq) (if xq = 6 then none else some (fo k))) (8 * (d + 1) + yq) (some (ft k))), rfl, ⟨bI_1 rfl, (show ∀ j7, j7 < 8 * (d + 1) → (va_up (va_up (m_cp bd d 8) (8 * (d + 1) + xq) (if xq = 6 then none else some (fo k))) (8 * (d + 1) + yq) (some (ft k))) j7 = bd j7 from by (intro j7 hj7; rw [up_n _ _ (show j7 ≠ 8 * (d + 1) + yq by omega), up_n _ _ (show j7 ≠ 8 * (d + 1) + xq by omega)]; exact m_cp_lo hj7)), (show ∀ j7 k7, (va_up (va_up (m_cp bd d 8) (8 * (d + 1) + xq) (if xq = 6 then none else some (fo k))) (8 * (d + 1) + yq) (some (ft k))) j7 = some k7 → k7 < 12 from by (exact up_oltn (up_oltn (m_cp_lt hbd) (if_olt (hfo k))) (fun m7 h => (Option.some.inj h) ▸ hft k))), (show m_bn (fun v7 => bd (8 * d + v7)) (cs (4 * f + d)) (fn k) (fo k) (ft k) true (fun v7 => (va_up (va_up (m_cp bd d 8) (8 * (d + 1) + xq) (if xq = 6 then none else some (fo k))) (8 * (d + 1) + yq) (some (ft k))) (8 * (d + 1) + v7)) from by (rw [← ecq]; refine Or.inr (Or.inr (Or.inr ⟨by assumption, by rw [← exq]; exact hncl, by omega, ?_, fun v7 hv7 => by rw [← exq, ← eyq]; exact m_cp_hi2 hv7⟩)); rw [← exq, ← eyq]; first | (exact ⟨fun _ => Or.inl (by assumption), fun _ => rfl⟩) | (exact ⟨fun _ => Or.inr (by rw [eu8]; exact congrArg some (by assumption)), fun _ => rfl⟩) | (exact m_bf eu8 (by assumption))))⟩, by show va_P _ _ _ t9.heap; rw [h9]; exact hP9⟩, hS.F h9⟩) hS.2.2 dX8_binds_239
                · refine lv_iconst (v := (nI (1))) hx hb dX8_binds_180 (by decide) ?_
                  subst hQ
                  subst hAe
                  have hP9 := hP.sub (ws' := [(x0, .inr (8, mO ax z1 z2 z3 fc z5 z6 z7 qs z9 z10 z11 z12 z13 hd lg fcn z17 z18 z19 md z21 z22 z23 z24 hc z26 z27 z28 z29 z30 z31 sm z33 z34)), (z18, .inl (cI, 360, .inl (nF cs))), (z5, .inl (cI, 60, .inl (nF fn))), (z6, .inl (cI, 60, .inl (nF fo))), (z7, .inl (cI, 60, .inl (nF ft))), (z33, .inl (cI, 40, .inl (oF (va_up (m_cp bd d 8) (8 * (d + 1) + xq) (if xq = 6 then none else some (fo k))))))]) [0, 1, 2, 3, 4, 5] rfl
                  exact W.zret (v := (nI (1))) hx hb hr (by decide) (fun t9 h9 _ => ⟨⟨(nI (1)), (true, va_up (m_cp bd d 8) (8 * (d + 1) + xq) (if xq = 6 then none else some (fo k))), rfl, ⟨bI_1 rfl, (show ∀ j7, j7 < 8 * (d + 1) → (va_up (m_cp bd d 8) (8 * (d + 1) + xq) (if xq = 6 then none else some (fo k))) j7 = bd j7 from by (intro j7 hj7; rw [up_n _ _ (show j7 ≠ 8 * (d + 1) + xq by omega)]; exact m_cp_lo hj7)), (show ∀ j7 k7, (va_up (m_cp bd d 8) (8 * (d + 1) + xq) (if xq = 6 then none else some (fo k))) j7 = some k7 → k7 < 12 from by (exact up_oltn (m_cp_lt hbd) (if_olt (hfo k)))), (show m_bn (fun v7 => bd (8 * d + v7)) (cs (4 * f + d)) (fn k) (fo k) (ft k) true (fun v7 => (va_up (m_cp bd d 8) (8 * (d + 1) + xq) (if xq = 6 then none else some (fo k))) (8 * (d + 1) + v7)) from by (rw [← ecq]; refine Or.inr (Or.inr (Or.inl ⟨by assumption, by rw [← exq]; exact hncl, by omega, rfl, fun v7 hv7 => ?_⟩)); rw [← exq]; exact m_cp_hi hv7))⟩, by show va_P _ _ _ t9.heap; rw [h9]; exact hP9⟩, hS.F h9⟩) hS.2.2 dX8_binds_181
          refine lv_bipush (v := (nI (6))) hx hb dX8_binds_89 (by decide) ?_
          refine q_icmp_eq (x := xq) (y := 6) (tgt := 132) hx hb dX8_binds_91 (by decide) (by omega) (by omega) (fun c91_22 => ?_) (fun c91_22 => ?_)
          · exact L132  ls _ _ (show ¬ m_cl (fun v7 => bd (8 * d + v7)) xq (fo k) from by (first | (exact fun h9 => absurd (show xq = 6 by assumption) h9.1) | (exact m_ncl_n (show bd (8 * d + xq) = none by assumption)) | (exact m_ncl_e (u := u9) eu9 (by assumption)))) (lv_sub hl [1, 2, 3, 4, 5, 6, 7] rfl) (hP.sub [0, 1, 2, 3, 4, 5] rfl) (hD.sub [0, 1, 2, 3, 4, 5] (by decide) rfl) hS
          · refine lv_aload_n hx hb dX8_binds_94 rfl (lv_at hl 4 rfl) ?_
            refine va_get (D := (dC, dI)) (ci := 8) (v := .ref z33) (C := RX8) (T := TX8) (N := 35) hx hb hts uX8 hown hK hP 0 rfl rfl 33 (by decide) (hts _ kfX8_87) (fun _ h9 => h9) rfl dX8_binds_95 ?_
            refine lv_bipush (v := (nI (8))) hx hb dX8_binds_98 (by decide) ?_
            refine lv_iload_n hx hb dX8_binds_100 rfl (lv_at hl 6 rfl) ?_
            refine q_imul (x := 8) (y := d) hx hb dX8_binds_101 ?_
            refine lv_iload hx hb dX8_binds_102 (lv_at hl 2 rfl) ?_
            refine q_iadd (x := 8 * d) (y := xq) hx hb dX8_binds_104 ?_
            refine q_ialdO hx hb hK hP 5 0 rfl rfl (j := (8 * d) + xq) (by omega) (by omega) dX8_binds_105 ?_
            refine q_top (show (oI ((m_cp bd d 8) ((8 * d) + xq))) = (oI (bd (8 * d + xq))) from (congrArg oI (m_cp_lo (by omega)))) ?_
            refine q_ifO_lt (x := bd (8 * d + xq)) (tgt := 132) hx hb dX8_binds_106 (by decide) (by (intro k9 h9; have := hbd _ _ h9; omega)) (fun c106_23 => ?_) (fun c106_23 => ?_)
            · exact L132  ls _ _ (show ¬ m_cl (fun v7 => bd (8 * d + v7)) xq (fo k) from by (first | (exact fun h9 => absurd (show xq = 6 by assumption) h9.1) | (exact m_ncl_n (show bd (8 * d + xq) = none by assumption)) | (exact m_ncl_e (u := u9) eu9 (by assumption)))) (lv_sub hl [1, 2, 3, 4, 5, 6, 7] rfl) (hP.sub [0, 1, 2, 3, 4, 5] rfl) (hD.sub [0, 1, 2, 3, 4, 5] (by decide) rfl) hS
            · obtain ⟨u9, eu9⟩ : ∃ u9, bd (8 * d + xq) = some u9 := Option.ne_none_iff_exists'.mp (by assumption)
              have hu9 := hbd _ _ eu9
              refine lv_aload_n hx hb dX8_binds_109 rfl (lv_at hl 4 rfl) ?_
              refine va_get (D := (dC, dI)) (ci := 8) (v := .ref z33) (C := RX8) (T := TX8) (N := 35) hx hb hts uX8 hown hK hP 0 rfl rfl 33 (by decide) (hts _ kfX8_87) (fun _ h9 => h9) rfl dX8_binds_110 ?_
              refine lv_bipush (v := (nI (8))) hx hb dX8_binds_113 (by decide) ?_
              refine lv_iload_n hx hb dX8_binds_115 rfl (lv_at hl 6 rfl) ?_
              refine q_imul (x := 8) (y := d) hx hb dX8_binds_116 ?_
              refine lv_iload hx hb dX8_binds_117 (lv_at hl 2 rfl) ?_
              refine q_iadd (x := 8 * d) (y := xq) hx hb dX8_binds_119 ?_
              refine q_ialdO hx hb hK hP 5 0 rfl rfl (j := (8 * d) + xq) (by omega) (by omega) dX8_binds_120 ?_
              refine q_top (show (oI ((m_cp bd d 8) ((8 * d) + xq))) = (nI (u9)) from (congrArg oI ((m_cp_lo (by omega)).trans eu9))) ?_
              refine lv_aload_n hx hb dX8_binds_121 rfl (lv_at hl 4 rfl) ?_
              refine va_get (D := (dC, dI)) (ci := 8) (v := .ref z6) (C := RX8) (T := TX8) (N := 35) hx hb hts uX8 hown hK hP 0 rfl rfl 6 (by decide) (hts _ kfX8_22) (fun _ h9 => h9) rfl dX8_binds_122 ?_
              refine lv_iload_n hx hb dX8_binds_125 rfl (lv_at hl 7 rfl) ?_
              refine q_ialdN hx hb hK hP 3 0 rfl rfl (j := k) (by omega) (by omega) dX8_binds_126 ?_
              have bd24 := hfo k
              refine q_icmp_eq (x := u9) (y := fo k) (tgt := 132) hx hb dX8_binds_127 (by decide) (by omega) (by omega) (fun c127_25 => ?_) (fun c127_25 => ?_)
              · exact L132  ls _ _ (show ¬ m_cl (fun v7 => bd (8 * d + v7)) xq (fo k) from by (first | (exact fun h9 => absurd (show xq = 6 by assumption) h9.1) | (exact m_ncl_n (show bd (8 * d + xq) = none by assumption)) | (exact m_ncl_e (u := u9) eu9 (by assumption)))) (lv_sub hl [1, 2, 3, 4, 5, 6, 7] rfl) (hP.sub [0, 1, 2, 3, 4, 5] rfl) (hD.sub [0, 1, 2, 3, 4, 5] (by decide) rfl) hS
              · refine lv_iconst (v := (nI (0))) hx hb dX8_binds_130 (by decide) ?_
                subst hQ
                subst hAe
                have hP9 := hP.sub (ws' := [(x0, .inr (8, mO ax z1 z2 z3 fc z5 z6 z7 qs z9 z10 z11 z12 z13 hd lg fcn z17 z18 z19 md z21 z22 z23 z24 hc z26 z27 z28 z29 z30 z31 sm z33 z34)), (z18, .inl (cI, 360, .inl (nF cs))), (z5, .inl (cI, 60, .inl (nF fn))), (z6, .inl (cI, 60, .inl (nF fo))), (z7, .inl (cI, 60, .inl (nF ft))), (z33, .inl (cI, 40, .inl (oF (m_cp bd d 8))))]) [0, 1, 2, 3, 4, 5] rfl
                exact W.zret (v := (nI (0))) hx hb hr (by decide) (fun t9 h9 _ => ⟨⟨(nI (0)), (false, m_cp bd d 8), rfl, ⟨bI_0 rfl, (show ∀ j7, j7 < 8 * (d + 1) → (m_cp bd d 8) j7 = bd j7 from by (intro j7 hj7; exact m_cp_lo hj7)), (show ∀ j7 k7, (m_cp bd d 8) j7 = some k7 → k7 < 12 from by (exact m_cp_lt hbd)), (show m_bn (fun v7 => bd (8 * d + v7)) (cs (4 * f + d)) (fn k) (fo k) (ft k) false (fun v7 => (m_cp bd d 8) (8 * (d + 1) + v7)) from by (rw [← ecq]; exact Or.inr (Or.inl ⟨by assumption, by rw [← exq]; exact ⟨by assumption, u9, eu9, by assumption⟩, rfl⟩)))⟩, by show va_P _ _ _ t9.heap; rw [h9]; exact hP9⟩, hS.F h9⟩) hS.2.2 dX8_binds_131
        · refine lv_aload_n hx hb dX8_binds_55 rfl (lv_at hl 4 rfl) ?_
          refine va_get (D := (dC, dI)) (ci := 8) (v := .ref z33) (C := RX8) (T := TX8) (N := 35) hx hb hts uX8 hown hK hP 0 rfl rfl 33 (by decide) (hts _ kfX8_87) (fun _ h9 => h9) rfl dX8_binds_56 ?_
          refine lv_bipush (v := (nI (8))) hx hb dX8_binds_59 (by decide) ?_
          refine lv_iload_n hx hb dX8_binds_61 rfl (lv_at hl 6 rfl) ?_
          refine lv_iconst (v := (nI (1))) hx hb dX8_binds_62 (by decide) ?_
          refine q_iadd (x := d) (y := 1) hx hb dX8_binds_63 ?_
          refine q_imul (x := 8) (y := d + 1) hx hb dX8_binds_64 ?_
          refine lv_iload hx hb dX8_binds_65 (lv_at hl 0 rfl) ?_
          refine q_iadd (x := 8 * (d + 1)) (y := w) hx hb dX8_binds_67 ?_
          refine lv_aload_n hx hb dX8_binds_68 rfl (lv_at hl 4 rfl) ?_
          refine va_get (D := (dC, dI)) (ci := 8) (v := .ref z33) (C := RX8) (T := TX8) (N := 35) hx hb hts uX8 hown hK hP 0 rfl rfl 33 (by decide) (hts _ kfX8_87) (fun _ h9 => h9) rfl dX8_binds_69 ?_
          refine lv_bipush (v := (nI (8))) hx hb dX8_binds_72 (by decide) ?_
          refine lv_iload_n hx hb dX8_binds_74 rfl (lv_at hl 6 rfl) ?_
          refine q_imul (x := 8) (y := d) hx hb dX8_binds_75 ?_
          refine lv_iload hx hb dX8_binds_76 (lv_at hl 0 rfl) ?_
          refine q_iadd (x := 8 * d) (y := w) hx hb dX8_binds_78 ?_
          refine q_ialdO hx hb hK hP 5 0 rfl rfl (j := (8 * d) + w) (by omega) (by omega) dX8_binds_79 ?_
          refine q_iastO hx hb hK hP hD hS 5 0 rfl rfl (j := (8 * (d + 1)) + w) (x := g ((8 * d) + w)) (by omega) (by omega) dX8_binds_80 (fun H locs hP hD hS => ?_)
          have hP : va_P (dC, dI) qCl [(x0, .inr (8, mO ax z1 z2 z3 fc z5 z6 z7 qs z9 z10 z11 z12 z13 hd lg fcn z17 z18 z19 md z21 z22 z23 z24 hc z26 z27 z28 z29 z30 z31 sm z33 z34)), (z18, .inl (cI, 360, .inl (nF cs))), (z5, .inl (cI, 60, .inl (nF fn))), (z6, .inl (cI, 60, .inl (nF fo))), (z7, .inl (cI, 60, .inl (nF ft))), (z33, .inl (cI, 40, .inl (oF (va_up g ((8 * (d + 1)) + w) (g ((8 * d) + w))))))] H := hP
          have hD : va_D A [(x0, .inr (8, mO ax z1 z2 z3 fc z5 z6 z7 qs z9 z10 z11 z12 z13 hd lg fcn z17 z18 z19 md z21 z22 z23 z24 hc z26 z27 z28 z29 z30 z31 sm z33 z34)), (z18, .inl (cI, 360, .inl (nF cs))), (z5, .inl (cI, 60, .inl (nF fn))), (z6, .inl (cI, 60, .inl (nF fo))), (z7, .inl (cI, 60, .inl (nF ft))), (z33, .inl (cI, 40, .inl (oF (va_up g ((8 * (d + 1)) + w) (g ((8 * d) + w))))))] := hD
          refine lv_iinc (v := (nI (w + 1))) (lv' := [(7, .int (nI (w + 1))), (6, .int (nI (yq))), (5, .int (nI (xq))), (4, .int (nI (cq))), (0, .ref x0), (1, .int (nI (f))), (2, .int (nI (d))), (3, .int (nI (k)))]) hx hb dX8_binds_81 hl (k := 0) rfl (q_inc _) (by decide) rfl (fun ls hl => ?_)
          refine lv_goto (tgt := 48) hx hb dX8_binds_84 (by decide) ?_
          exact ih48 (va_up g ((8 * (d + 1)) + w) (g ((8 * d) + w))) (w + 1) ls _ _ (by omega) (show (w + 1) ≤ 8 from by omega) (show (va_up g ((8 * (d + 1)) + w) (g ((8 * d) + w))) = m_cp bd d (w + 1) from by (rw [hg]; exact m_cp_s (by omega))) (lv_sub hl [0, 1, 2, 3, 4, 5, 6, 7] rfl) (hP.sub [0, 1, 2, 3, 4, 5] rfl) (hD.sub [0, 1, 2, 3, 4, 5] (by decide) rfl) hS
    exact L48 _ bd 0 ls _ _ (by exact Nat.lt_succ_self _) (show 0 ≤ 8 from by omega) (show bd = m_cp bd d 0 from by (exact (m_cp_0 _ _).symm)) (lv_sub hl [0, 1, 2, 3, 4, 5, 6, 7] rfl) (hP.sub [0, 1, 2, 3, 4, 5] rfl) (hD.sub [0, 1, 2, 3, 4, 5] (by decide) rfl) hS
  · refine lv_iconst (v := (nI (0))) hx hb dX8_binds_43 (by decide) ?_
    subst hQ
    subst hAe
    have hP9 := hP.sub (ws' := [(x0, .inr (8, mO ax z1 z2 z3 fc z5 z6 z7 qs z9 z10 z11 z12 z13 hd lg fcn z17 z18 z19 md z21 z22 z23 z24 hc z26 z27 z28 z29 z30 z31 sm z33 z34)), (z18, .inl (cI, 360, .inl (nF cs))), (z5, .inl (cI, 60, .inl (nF fn))), (z6, .inl (cI, 60, .inl (nF fo))), (z7, .inl (cI, 60, .inl (nF ft))), (z33, .inl (cI, 40, .inl (oF bd)))]) [0, 1, 2, 3, 4, 5] rfl
    exact W.zret (v := (nI (0))) hx hb hr (by decide) (fun t9 h9 _ => ⟨⟨(nI (0)), (false, bd), rfl, ⟨bI_0 rfl, (show ∀ j7, j7 < 8 * (d + 1) → bd j7 = bd j7 from by (intro j7 _; rfl)), (show ∀ j7 k7, bd j7 = some k7 → k7 < 12 from by (exact hbd)), (show m_bn (fun v7 => bd (8 * d + v7)) (cs (4 * f + d)) (fn k) (fo k) (ft k) false (fun v7 => bd (8 * (d + 1) + v7)) from by (rw [← ecq]; exact Or.inl ⟨by assumption, rfl⟩))⟩, by show va_P _ _ _ t9.heap; rw [h9]; exact hP9⟩, hS.F h9⟩) hS.2.2 dX8_binds_44
abbrev rm_c_Model_findBy : Room := { frames := 1, cells := 0, slots := 0, locals := 27 }
set_option maxHeartbeats 4000000 in
set_option maxRecDepth 100000 in
theorem c_Model_findBy (l : Launch) (dC : Nat → ClassId) (dI : Nat → Nat → Nat) (cI cL cQ cZ : ClassId) (x0 : Nat) (ax : Nat) (z1 : Nat) (z2 : Nat) (z3 : Nat) (fc : Nat) (z5 : Nat) (z6 : Nat) (z7 : Nat) (qs : Nat) (z9 : Nat) (z10 : Nat) (z11 : Nat) (z12 : Nat) (z13 : Nat) (hd : Option Nat) (lg : Bool) (fcn : Nat) (z17 : Nat) (z18 : Nat) (z19 : Nat) (md : Nat) (z21 : Nat) (z22 : Nat) (z23 : Nat) (z24 : Nat) (hc : Nat) (z26 : Nat) (z27 : Nat) (z28 : Nat) (z29 : Nat) (z30 : Nat) (z31 : Nat) (sm : Bool) (z33 : Nat) (z34 : Nat) (zs : Nat → Nat) (cs : Nat → Nat) (hs : Nat → Option Nat) (fn : Nat → Nat) (fo : Nat → Nat) (ft : Nat → Nat) (bd : Nat → Option Nat) (fnd : Nat → Bool) (nx : Nat → Nat) (f : Nat) (hf : f < 90) (har : m_arr zs cs hs) (hbd : ∀ j7 k7, bd j7 = some k7 → k7 < 12) (hfc : fc ≤ 60) (hfn : ∀ j7, fn j7 < 64) (hfo : ∀ j7, fo j7 < 12) (hft : ∀ j7, ft j7 < 12) : Met l yX8_findBy wkX8_findBy rm_c_Model_findBy (q_W (dC, dI) qCl (qT cI cL cQ cZ) [(x0, .inr (8, mO ax z1 z2 z3 fc z5 z6 z7 qs z9 z10 z11 z12 z13 hd lg fcn z17 z18 z19 md z21 z22 z23 z24 hc z26 z27 z28 z29 z30 z31 sm z33 z34)), (z17, .inl (cI, 90, .inl (nF zs))), (z18, .inl (cI, 360, .inl (nF cs))), (z19, .inl (cI, 180, .inl (oF hs))), (z5, .inl (cI, 60, .inl (nF fn))), (z6, .inl (cI, 60, .inl (nF fo))), (z7, .inl (cI, 60, .inl (nF ft))), (z33, .inl (cI, 40, .inl (oF bd))), (z31, .inl (cZ, 192, .inl (bF fnd))), (z34, .inl (cI, 5, .inl (nF nx)))] [.ref x0, .int (nI (f))]) (va_Qv (fun (u : (Nat → Option Nat) × (Nat → Bool) × (Nat → Nat) × Bool) => (∀ j7 k7, u.1 j7 = some k7 → k7 < 12) ∧ (∀ j7, u.2.1 j7 = true ↔ fnd j7 = true ∨ g_rea (m_K (fun d7 => cs (4 * f + d7)) fn fo ft fc) (m_E (hs (2 * f)) (hs (2 * f + 1))) fc (zs f) 0 (fun _ => none) j7) ∧ (u.2.2.2 = true ↔ sm = true ∨ ∃ j7, g_rea (m_K (fun d7 => cs (4 * f + d7)) fn fo ft fc) (m_E (hs (2 * f)) (hs (2 * f + 1))) fc (zs f) 0 (fun _ => none) j7)) (fun (u : (Nat → Option Nat) × (Nat → Bool) × (Nat → Nat) × Bool) t => va_P (dC, dI) qCl [(x0, .inr (8, mO ax z1 z2 z3 fc z5 z6 z7 qs z9 z10 z11 z12 z13 hd lg fcn z17 z18 z19 md z21 z22 z23 z24 hc z26 z27 z28 z29 z30 z31 u.2.2.2 z33 z34)), (z17, .inl (cI, 90, .inl (nF zs))), (z18, .inl (cI, 360, .inl (nF cs))), (z19, .inl (cI, 180, .inl (oF hs))), (z5, .inl (cI, 60, .inl (nF fn))), (z6, .inl (cI, 60, .inl (nF fo))), (z7, .inl (cI, 60, .inl (nF ft))), (z33, .inl (cI, 40, .inl (oF u.1))), (z31, .inl (cZ, 192, .inl (bF u.2.1))), (z34, .inl (cI, 5, .inl (nF u.2.2.1)))] t.heap) (q_A [(x0, .inr (8, mO ax z1 z2 z3 fc z5 z6 z7 qs z9 z10 z11 z12 z13 hd lg fcn z17 z18 z19 md z21 z22 z23 z24 hc z26 z27 z28 z29 z30 z31 sm z33 z34)), (z17, .inl (cI, 90, .inl (nF zs))), (z18, .inl (cI, 360, .inl (nF cs))), (z19, .inl (cI, 180, .inl (oF hs))), (z5, .inl (cI, 60, .inl (nF fn))), (z6, .inl (cI, 60, .inl (nF fo))), (z7, .inl (cI, 60, .inl (nF ft))), (z33, .inl (cI, 40, .inl (oF bd))), (z31, .inl (cZ, 192, .inl (bF fnd))), (z34, .inl (cI, 5, .inl (nF nx)))])) 0 0 (q_A [(x0, .inr (8, mO ax z1 z2 z3 fc z5 z6 z7 qs z9 z10 z11 z12 z13 hd lg fcn z17 z18 z19 md z21 z22 z23 z24 hc z26 z27 z28 z29 z30 z31 sm z33 z34)), (z17, .inl (cI, 90, .inl (nF zs))), (z18, .inl (cI, 360, .inl (nF cs))), (z19, .inl (cI, 180, .inl (oF hs))), (z5, .inl (cI, 60, .inl (nF fn))), (z6, .inl (cI, 60, .inl (nF fo))), (z7, .inl (cI, 60, .inl (nF ft))), (z33, .inl (cI, 40, .inl (oF bd))), (z31, .inl (cZ, 192, .inl (bF fnd))), (z34, .inl (cI, 5, .inl (nF nx)))]) := by
  refine Met.ofW (cc := cX8_findBy) (maxL := 3) (ret := none) (by decide) rfl ?_
  intro p e s m args below meth c s₁ B hml hv
  obtain ⟨hargs, hP, hK, hD0⟩ := hv
  have hx := B.exec
  have hb := B.bytes
  have hr := B.returns
  have hts : ∀ w ∈ qW, w.before args s = true := fun w h => atoms_spec (ws := wkX8_findBy) B.pre w (List.mem_cons_of_mem _ h)
  have hown : s.vm.findClass RX8 = some m.cls := findClass_of_methodNamed B.named
  have hlocks := B.notSynchronized
  refine q_named (fun Q hQ => ?_)
  have hD : va_D (q_A [(x0, .inr (8, mO ax z1 z2 z3 fc z5 z6 z7 qs z9 z10 z11 z12 z13 hd lg fcn z17 z18 z19 md z21 z22 z23 z24 hc z26 z27 z28 z29 z30 z31 sm z33 z34)), (z17, .inl (cI, 90, .inl (nF zs))), (z18, .inl (cI, 360, .inl (nF cs))), (z19, .inl (cI, 180, .inl (oF hs))), (z5, .inl (cI, 60, .inl (nF fn))), (z6, .inl (cI, 60, .inl (nF fo))), (z7, .inl (cI, 60, .inl (nF ft))), (z33, .inl (cI, 40, .inl (oF bd))), (z31, .inl (cZ, 192, .inl (bF fnd))), (z34, .inl (cI, 5, .inl (nF nx)))]) [(x0, .inr (8, mO ax z1 z2 z3 fc z5 z6 z7 qs z9 z10 z11 z12 z13 hd lg fcn z17 z18 z19 md z21 z22 z23 z24 hc z26 z27 z28 z29 z30 z31 sm z33 z34)), (z17, .inl (cI, 90, .inl (nF zs))), (z18, .inl (cI, 360, .inl (nF cs))), (z19, .inl (cI, 180, .inl (oF hs))), (z5, .inl (cI, 60, .inl (nF fn))), (z6, .inl (cI, 60, .inl (nF fo))), (z7, .inl (cI, 60, .inl (nF ft))), (z33, .inl (cI, 40, .inl (oF bd))), (z31, .inl (cZ, 192, .inl (bF fnd))), (z34, .inl (cI, 5, .inl (nF nx)))] := ⟨hD0.1, fun k q h => ⟨k, q.2, h⟩⟩
  generalize hAe : q_A [(x0, .inr (8, mO ax z1 z2 z3 fc z5 z6 z7 qs z9 z10 z11 z12 z13 hd lg fcn z17 z18 z19 md z21 z22 z23 z24 hc z26 z27 z28 z29 z30 z31 sm z33 z34)), (z17, .inl (cI, 90, .inl (nF zs))), (z18, .inl (cI, 360, .inl (nF cs))), (z19, .inl (cI, 180, .inl (oF hs))), (z5, .inl (cI, 60, .inl (nF fn))), (z6, .inl (cI, 60, .inl (nF fo))), (z7, .inl (cI, 60, .inl (nF ft))), (z33, .inl (cI, 40, .inl (oF bd))), (z31, .inl (cZ, 192, .inl (bF fnd))), (z34, .inl (cI, 5, .inl (nF nx)))] = A at hD
  have hS : va_S A s.heap s.heap [] := va_S.rf
  refine q_entry hargs (Nat.le_of_ble_eq_true rfl) (fun ls hl => ?_)
  have hl : lv_has ls 3 [(0, .ref x0), (1, .int (nI (f)))] := hl
  obtain ⟨H, locs, eH, eL⟩ : ∃ (H : Heap) (locs : List Loc), s.heap = H ∧ ([] : List Loc) = locs := ⟨_, _, rfl, rfl⟩
  have hS : va_S A s.heap H locs := by rw [← eH, ← eL]; exact hS
  have hP : va_P (dC, dI) qCl [(x0, .inr (8, mO ax z1 z2 z3 fc z5 z6 z7 qs z9 z10 z11 z12 z13 hd lg fcn z17 z18 z19 md z21 z22 z23 z24 hc z26 z27 z28 z29 z30 z31 sm z33 z34)), (z17, .inl (cI, 90, .inl (nF zs))), (z18, .inl (cI, 360, .inl (nF cs))), (z19, .inl (cI, 180, .inl (oF hs))), (z5, .inl (cI, 60, .inl (nF fn))), (z6, .inl (cI, 60, .inl (nF fo))), (z7, .inl (cI, 60, .inl (nF ft))), (z33, .inl (cI, 40, .inl (oF bd))), (z31, .inl (cZ, 192, .inl (bF fnd))), (z34, .inl (cI, 5, .inl (nF nx)))] H := by rw [← eH]; exact hP
  refine W_at eH eL ?_
  have hzf := har.1 f
  have hgk := m_gok (cf := fun d7 => cs (4 * f + d7)) (fn := fn) (fo := fo) (ft := ft) (fc := fc) (o0 := hs (2 * f)) (o1 := hs (2 * f + 1)) (fun u9 h9 => (by have := har.2.2 _ _ h9; omega)) (fun u9 h9 => (by have := har.2.2 _ _ h9; omega))
  refine lv_iconst (v := (nI (0))) hx hb dX8_findBy_0 (by decide) ?_
  refine lv_istore_n (lv' := [(2, .int (nI (0))), (0, .ref x0), (1, .int (nI (f)))]) hx hb dX8_findBy_1 rfl hl (by decide) rfl (fun ls hl => ?_)
  have L2 : ∀ (fu : Nat) (v : Nat) (bz : Nat → Option Nat) (ls : Array Slot) (H : Heap) (locs : List Loc), 8 - v < fu → (v ≤ 8) → (∀ j7 k7, bz j7 = some k7 → k7 < 12) → (∀ j7, j7 < v → bz j7 = none) → lv_has ls 3 [(2, .int (nI (v))), (0, .ref x0), (1, .int (nI (f)))] → va_P (dC, dI) qCl [(x0, .inr (8, mO ax z1 z2 z3 fc z5 z6 z7 qs z9 z10 z11 z12 z13 hd lg fcn z17 z18 z19 md z21 z22 z23 z24 hc z26 z27 z28 z29 z30 z31 sm z33 z34)), (z17, .inl (cI, 90, .inl (nF zs))), (z18, .inl (cI, 360, .inl (nF cs))), (z19, .inl (cI, 180, .inl (oF hs))), (z5, .inl (cI, 60, .inl (nF fn))), (z6, .inl (cI, 60, .inl (nF fo))), (z7, .inl (cI, 60, .inl (nF ft))), (z33, .inl (cI, 40, .inl (oF bz))), (z31, .inl (cZ, 192, .inl (bF fnd))), (z34, .inl (cI, 5, .inl (nF nx)))] H → va_D A [(x0, .inr (8, mO ax z1 z2 z3 fc z5 z6 z7 qs z9 z10 z11 z12 z13 hd lg fcn z17 z18 z19 md z21 z22 z23 z24 hc z26 z27 z28 z29 z30 z31 sm z33 z34)), (z17, .inl (cI, 90, .inl (nF zs))), (z18, .inl (cI, 360, .inl (nF cs))), (z19, .inl (cI, 180, .inl (oF hs))), (z5, .inl (cI, 60, .inl (nF fn))), (z6, .inl (cI, 60, .inl (nF fo))), (z7, .inl (cI, 60, .inl (nF ft))), (z33, .inl (cI, 40, .inl (oF bz))), (z31, .inl (cZ, 192, .inl (bF fnd))), (z34, .inl (cI, 5, .inl (nF nx)))] → va_S A s.heap H locs → W p l e (headSpec wkX8_findBy rm_c_Model_findBy).room s m args below meth c H locs 0 0 Q (F0 m 2 ls []) := by
    intro fu
    induction fu with
    | zero => intro v bz ls H locs hmu; exact absurd hmu (Nat.not_lt_zero _)
    | succ fu ih2 =>
      intro v bz ls H locs hmu hv hbz hz hl hP hD hS
      refine lv_iload_n hx hb dX8_findBy_2 rfl (lv_at hl 0 rfl) ?_
      refine lv_bipush (v := (nI (8))) hx hb dX8_findBy_3 (by decide) ?_
      refine q_icmp_ge (x := v) (y := 8) (tgt := 21) hx hb dX8_findBy_5 (by decide) (by omega) (by omega) (fun c5_1 => ?_) (fun c5_1 => ?_)
      · refine lv_iconst (v := (nI (0))) hx hb dX8_findBy_21 (by decide) ?_
        refine lv_istore_n (lv' := [(2, .int (nI (0))), (0, .ref x0), (1, .int (nI (f)))]) hx hb dX8_findBy_22 rfl hl (by decide) rfl (fun ls hl => ?_)
        refine lv_aload_n hx hb dX8_findBy_23 rfl (lv_at hl 1 rfl) ?_
        refine va_get (D := (dC, dI)) (ci := 8) (v := .ref z34) (C := RX8) (T := TX8) (N := 35) hx hb hts uX8 hown hK hP 0 rfl rfl 34 (by decide) (hts _ kfX8_90) (fun _ h9 => h9) rfl dX8_findBy_24 ?_
        refine lv_iconst (v := (nI (0))) hx hb dX8_findBy_27 (by decide) ?_
        refine lv_iconst (v := (nI (0))) hx hb dX8_findBy_28 (by decide) ?_
        refine q_iastN hx hb hK hP hD hS 9 0 rfl rfl (j := 0) (x := 0) (by omega) (by omega) dX8_findBy_29 (fun H locs hP hD hS => ?_)
        have hP : va_P (dC, dI) qCl [(x0, .inr (8, mO ax z1 z2 z3 fc z5 z6 z7 qs z9 z10 z11 z12 z13 hd lg fcn z17 z18 z19 md z21 z22 z23 z24 hc z26 z27 z28 z29 z30 z31 sm z33 z34)), (z17, .inl (cI, 90, .inl (nF zs))), (z18, .inl (cI, 360, .inl (nF cs))), (z19, .inl (cI, 180, .inl (oF hs))), (z5, .inl (cI, 60, .inl (nF fn))), (z6, .inl (cI, 60, .inl (nF fo))), (z7, .inl (cI, 60, .inl (nF ft))), (z33, .inl (cI, 40, .inl (oF bz))), (z31, .inl (cZ, 192, .inl (bF fnd))), (z34, .inl (cI, 5, .inl (nF (va_up nx 0 0))))] H := hP
        have hD : va_D A [(x0, .inr (8, mO ax z1 z2 z3 fc z5 z6 z7 qs z9 z10 z11 z12 z13 hd lg fcn z17 z18 z19 md z21 z22 z23 z24 hc z26 z27 z28 z29 z30 z31 sm z33 z34)), (z17, .inl (cI, 90, .inl (nF zs))), (z18, .inl (cI, 360, .inl (nF cs))), (z19, .inl (cI, 180, .inl (oF hs))), (z5, .inl (cI, 60, .inl (nF fn))), (z6, .inl (cI, 60, .inl (nF fo))), (z7, .inl (cI, 60, .inl (nF ft))), (z33, .inl (cI, 40, .inl (oF bz))), (z31, .inl (cZ, 192, .inl (bF fnd))), (z34, .inl (cI, 5, .inl (nF (va_up nx 0 0))))] := hD
        have L30 : ∀ (fu : Nat) (dd : Option Nat) (bx : Nat → Option Nat) (nn : Nat → Nat) (fx : Nat → Bool) (sx : Bool) (ls : Array Slot) (H : Heap) (locs : List Loc), g_mu fc (zs f) nn dd < fu → (∀ j7 k7, bx j7 = some k7 → k7 < 12) → (g_inv (m_K (fun d7 => cs (4 * f + d7)) fn fo ft fc) (m_E (hs (2 * f)) (hs (2 * f + 1))) fc (zs f) fnd sm bx nn fx sx dd) → lv_has ls 3 [(2, .int (oI (dd))), (0, .ref x0), (1, .int (nI (f)))] → va_P (dC, dI) qCl [(x0, .inr (8, mO ax z1 z2 z3 fc z5 z6 z7 qs z9 z10 z11 z12 z13 hd lg fcn z17 z18 z19 md z21 z22 z23 z24 hc z26 z27 z28 z29 z30 z31 sx z33 z34)), (z17, .inl (cI, 90, .inl (nF zs))), (z18, .inl (cI, 360, .inl (nF cs))), (z19, .inl (cI, 180, .inl (oF hs))), (z5, .inl (cI, 60, .inl (nF fn))), (z6, .inl (cI, 60, .inl (nF fo))), (z7, .inl (cI, 60, .inl (nF ft))), (z33, .inl (cI, 40, .inl (oF bx))), (z31, .inl (cZ, 192, .inl (bF fx))), (z34, .inl (cI, 5, .inl (nF nn)))] H → va_D A [(x0, .inr (8, mO ax z1 z2 z3 fc z5 z6 z7 qs z9 z10 z11 z12 z13 hd lg fcn z17 z18 z19 md z21 z22 z23 z24 hc z26 z27 z28 z29 z30 z31 sx z33 z34)), (z17, .inl (cI, 90, .inl (nF zs))), (z18, .inl (cI, 360, .inl (nF cs))), (z19, .inl (cI, 180, .inl (oF hs))), (z5, .inl (cI, 60, .inl (nF fn))), (z6, .inl (cI, 60, .inl (nF fo))), (z7, .inl (cI, 60, .inl (nF ft))), (z33, .inl (cI, 40, .inl (oF bx))), (z31, .inl (cZ, 192, .inl (bF fx))), (z34, .inl (cI, 5, .inl (nF nn)))] → va_S A s.heap H locs → W p l e (headSpec wkX8_findBy rm_c_Model_findBy).room s m args below meth c H locs 0 0 Q (F0 m 30 ls []) := by
          intro fu
          induction fu with
          | zero => intro dd bx nn fx sx ls H locs hmu; exact absurd hmu (Nat.not_lt_zero _)
          | succ fu ih30 =>
            intro dd bx nn fx sx ls H locs hmu hbx hin hl hP hD hS
            refine lv_iload_n hx hb dX8_findBy_30 rfl (lv_at hl 0 rfl) ?_
            refine q_ifO_lt (x := dd) (tgt := 114) hx hb dX8_findBy_31 (by decide) (by (intro k9 h9; subst h9; have := hin.2.1.1; omega)) (fun c31_2 => ?_) (fun c31_2 => ?_)
            · subst hQ
              subst hAe
              have hP9 := hP.sub (ws' := [(x0, .inr (8, mO ax z1 z2 z3 fc z5 z6 z7 qs z9 z10 z11 z12 z13 hd lg fcn z17 z18 z19 md z21 z22 z23 z24 hc z26 z27 z28 z29 z30 z31 sx z33 z34)), (z17, .inl (cI, 90, .inl (nF zs))), (z18, .inl (cI, 360, .inl (nF cs))), (z19, .inl (cI, 180, .inl (oF hs))), (z5, .inl (cI, 60, .inl (nF fn))), (z6, .inl (cI, 60, .inl (nF fo))), (z7, .inl (cI, 60, .inl (nF ft))), (z33, .inl (cI, 40, .inl (oF bx))), (z31, .inl (cZ, 192, .inl (bF fx))), (z34, .inl (cI, 5, .inl (nF nn)))]) [0, 1, 2, 3, 4, 5, 6, 7, 8, 9] rfl
              exact W.vret hx hb hr (fun t9 h9 _ => ⟨⟨(bx, fx, nn, sx), rfl, ⟨(show ∀ j7 k7, bx j7 = some k7 → k7 < 12 from by (exact hbx)), (show ∀ j7, fx j7 = true ↔ fnd j7 = true ∨ g_rea (m_K (fun d7 => cs (4 * f + d7)) fn fo ft fc) (m_E (hs (2 * f)) (hs (2 * f + 1))) fc (zs f) 0 (fun _ => none) j7 from by (intro j9; rw [show dd = none by assumption] at hin; exact hin.2.2.1 j9)), (show sx = true ↔ sm = true ∨ ∃ j7, g_rea (m_K (fun d7 => cs (4 * f + d7)) fn fo ft fc) (m_E (hs (2 * f)) (hs (2 * f + 1))) fc (zs f) 0 (fun _ => none) j7 from by (rw [show dd = none by assumption] at hin; exact hin.2.2.2))⟩, by show va_P _ _ _ t9.heap; rw [h9]; exact hP9⟩, hS.F h9⟩) hS.2.2 dX8_findBy_114
            · obtain ⟨d, ed⟩ : ∃ d, dd = some d := Option.ne_none_iff_exists'.mp (by assumption)
              have hl := lv_updv hl 0 rfl (show (.int (oI (dd)) : Value) = .int (nI (d)) from (by rw [ed]; rfl))
              have hl : lv_has ls 3 [(2, .int (nI (d))), (0, .ref x0), (1, .int (nI (f)))] := hl
              rw [ed] at hin hmu
              have hd1 := hin.2.1.1
              have hd2 := hin.2.1.2.1
              refine lv_iload_n hx hb dX8_findBy_34 rfl (lv_at hl 0 rfl) ?_
              refine lv_aload_n hx hb dX8_findBy_35 rfl (lv_at hl 1 rfl) ?_
              refine va_get (D := (dC, dI)) (ci := 8) (v := .ref z17) (C := RX8) (T := TX8) (N := 35) hx hb hts uX8 hown hK hP 0 rfl rfl 17 (by decide) (hts _ kfX8_47) (fun _ h9 => h9) rfl dX8_findBy_36 ?_
              refine lv_iload_n hx hb dX8_findBy_39 rfl (lv_at hl 2 rfl) ?_
              refine q_ialdN hx hb hK hP 1 0 rfl rfl (j := f) (by omega) (by omega) dX8_findBy_40 ?_
              refine q_icmp_ne (x := d) (y := zs f) (tgt := 55) hx hb dX8_findBy_41 (by decide) (by omega) (by omega) (fun c41_3 => ?_) (fun c41_3 => ?_)
              · refine lv_aload_n hx hb dX8_findBy_55 rfl (lv_at hl 1 rfl) ?_
                refine va_get (D := (dC, dI)) (ci := 8) (v := .ref z34) (C := RX8) (T := TX8) (N := 35) hx hb hts uX8 hown hK hP 0 rfl rfl 34 (by decide) (hts _ kfX8_90) (fun _ h9 => h9) rfl dX8_findBy_56 ?_
                refine lv_iload_n hx hb dX8_findBy_59 rfl (lv_at hl 0 rfl) ?_
                refine q_ialdN hx hb hK hP 9 0 rfl rfl (j := d) (by omega) (by omega) dX8_findBy_60 ?_
                refine lv_aload_n hx hb dX8_findBy_61 rfl (lv_at hl 1 rfl) ?_
                refine va_get (D := (dC, dI)) (ci := 8) (v := .int (nI (fc))) (C := RX8) (T := TX8) (N := 35) hx hb hts uX8 hown hK hP 0 rfl rfl 4 (by decide) (hts _ kfX8_104) (fun _ h9 => h9) rfl dX8_findBy_62 ?_
                refine q_icmp_ne (x := nn d) (y := fc) (tgt := 74) hx hb dX8_findBy_65 (by decide) (by (have := hd2 (by omega); omega)) (by omega) (fun c65_4 => ?_) (fun c65_4 => ?_)
                · refine lv_aload_n hx hb dX8_findBy_74 rfl (lv_at hl 1 rfl) ?_
                  refine va_get (D := (dC, dI)) (ci := 8) (v := .ref z34) (C := RX8) (T := TX8) (N := 35) hx hb hts uX8 hown hK hP 0 rfl rfl 34 (by decide) (hts _ kfX8_90) (fun _ h9 => h9) rfl dX8_findBy_75 ?_
                  refine lv_iload_n hx hb dX8_findBy_78 rfl (lv_at hl 0 rfl) ?_
                  refine lv_dup2_11 hx hb dX8_findBy_79 rfl rfl ?_
                  refine q_ialdN hx hb hK hP 9 0 rfl rfl (j := d) (by omega) (by omega) dX8_findBy_80 ?_
                  refine lv_iconst (v := (nI (1))) hx hb dX8_findBy_81 (by decide) ?_
                  refine q_iadd (x := nn d) (y := 1) hx hb dX8_findBy_82 ?_
                  refine q_iastN hx hb hK hP hD hS 9 0 rfl rfl (j := d) (x := (nn d) + 1) (by omega) (by omega) dX8_findBy_83 (fun H locs hP hD hS => ?_)
                  have hP : va_P (dC, dI) qCl [(x0, .inr (8, mO ax z1 z2 z3 fc z5 z6 z7 qs z9 z10 z11 z12 z13 hd lg fcn z17 z18 z19 md z21 z22 z23 z24 hc z26 z27 z28 z29 z30 z31 sx z33 z34)), (z17, .inl (cI, 90, .inl (nF zs))), (z18, .inl (cI, 360, .inl (nF cs))), (z19, .inl (cI, 180, .inl (oF hs))), (z5, .inl (cI, 60, .inl (nF fn))), (z6, .inl (cI, 60, .inl (nF fo))), (z7, .inl (cI, 60, .inl (nF ft))), (z33, .inl (cI, 40, .inl (oF bx))), (z31, .inl (cZ, 192, .inl (bF fx))), (z34, .inl (cI, 5, .inl (nF (va_up nn d ((nn d) + 1)))))] H := hP
                  have hD : va_D A [(x0, .inr (8, mO ax z1 z2 z3 fc z5 z6 z7 qs z9 z10 z11 z12 z13 hd lg fcn z17 z18 z19 md z21 z22 z23 z24 hc z26 z27 z28 z29 z30 z31 sx z33 z34)), (z17, .inl (cI, 90, .inl (nF zs))), (z18, .inl (cI, 360, .inl (nF cs))), (z19, .inl (cI, 180, .inl (oF hs))), (z5, .inl (cI, 60, .inl (nF fn))), (z6, .inl (cI, 60, .inl (nF fo))), (z7, .inl (cI, 60, .inl (nF ft))), (z33, .inl (cI, 40, .inl (oF bx))), (z31, .inl (cZ, 192, .inl (bF fx))), (z34, .inl (cI, 5, .inl (nF (va_up nn d ((nn d) + 1)))))] := hD
                  refine lv_aload_n hx hb dX8_findBy_84 rfl (lv_at hl 1 rfl) ?_
                  refine lv_iload_n hx hb dX8_findBy_85 rfl (lv_at hl 2 rfl) ?_
                  refine lv_iload_n hx hb dX8_findBy_86 rfl (lv_at hl 0 rfl) ?_
                  refine lv_aload_n hx hb dX8_findBy_87 rfl (lv_at hl 1 rfl) ?_
                  refine va_get (D := (dC, dI)) (ci := 8) (v := .ref z34) (C := RX8) (T := TX8) (N := 35) hx hb hts uX8 hown hK hP 0 rfl rfl 34 (by decide) (hts _ kfX8_90) (fun _ h9 => h9) rfl dX8_findBy_88 ?_
                  refine lv_iload_n hx hb dX8_findBy_91 rfl (lv_at hl 0 rfl) ?_
                  refine q_ialdN hx hb hK hP 9 0 rfl rfl (j := d) (by omega) (by omega) dX8_findBy_92 ?_
                  refine q_top (show (nI ((va_up nn d ((nn d) + 1)) d)) = (nI (nn d + 1)) from (congrArg nI (up_s _ _ _))) ?_
                  refine lv_iconst (v := (nI (1))) hx hb dX8_findBy_93 (by decide) ?_
                  refine q_isub (x := nn d + 1) (y := 1) hx hb (by omega) dX8_findBy_94 ?_
                  refine q_top (show (nI ((nn d + 1) - 1)) = (nI (nn d)) from (congrArg nI (Nat.add_sub_cancel _ _))) ?_
                  refine q_joini (wr := [(z17, .inl (cI, 90, .inl (nF zs))), (z19, .inl (cI, 180, .inl (oF hs))), (z31, .inl (cZ, 192, .inl (bF fx))), (z34, .inl (cI, 5, .inl (nF (va_up nn d ((nn d) + 1)))))]) (va_runV (As := [.int (nI (f)), .int (nI (d)), .int (nI (nn d))]) (rest := []) ⟨hx, hb, hml, hown, hts⟩ (c_Model_binds2 l dC dI cI cL cQ cZ x0 ax z1 z2 z3 fc z5 z6 z7 qs z9 z10 z11 z12 z13 hd lg fcn z17 z18 z19 md z21 z22 z23 z24 hc z26 z27 z28 z29 z30 z31 sx z33 z34 cs fn fo ft bx f d (nn d) (show f < 90 from by (exact hf)) (show d < 4 from by (omega)) (show (nn d) < 60 from by (have := hd2 (by omega); omega)) (show ∀ j, cs j < 8192 from by (intro j9; have := har.2.1 j9; omega)) (show ∀ j, fn j < 64 from by (exact hfn)) (show ∀ j, fo j < 12 from by (exact hfo)) (show ∀ j, ft j < 12 from by (exact hft)) (show ∀ j7 k7, bx j7 = some k7 → k7 < 12 from by (exact hbx))) (q_cwV 3 hts gkX8_binds kmX8_205 knX8_binds klX8_binds kiX8 rfl rfl rfl (by decide +kernel) ⟨Nat.le_of_ble_eq_true rfl, Nat.le_of_ble_eq_true rfl⟩) (q_preVW hK hP hD [0, 2, 4, 5, 6, 7] rfl (by decide) 0 (ci := 8) (r := (RX8, TX8, 35)) rfl rfl) rfl rfl hl.1 rfl (lv_room (Nat.le_of_ble_eq_true rfl)) dX8_findBy_95 ⟨Nat.zero_le _, Nat.zero_le _⟩) hP hD hS [0, 2, 4, 5, 6, 7] [1, 3, 8, 9] rfl rfl (by decide) (fun _ => rfl) (fun r5 u9 H locs hq6 hP hD hS => ?_)
                  obtain ⟨bb, b8⟩ := u9
                  have hq6 : (r5 = (bI (bb))) ∧ (∀ j7, j7 < 8 * (d + 1) → b8 j7 = bx j7) ∧ (∀ j7 k7, b8 j7 = some k7 → k7 < 12) ∧ (m_bn (fun v7 => bx (8 * d + v7)) (cs (4 * f + d)) (fn (nn d)) (fo (nn d)) (ft (nn d)) bb (fun v7 => b8 (8 * (d + 1) + v7))) := hq6
                  obtain ⟨er5, hlo8, hbd8, hbn8⟩ := hq6
                  have hlast := hbn8
                  subst er5
                  have hP : va_P (dC, dI) qCl [(z17, .inl (cI, 90, .inl (nF zs))), (z19, .inl (cI, 180, .inl (oF hs))), (z31, .inl (cZ, 192, .inl (bF fx))), (z34, .inl (cI, 5, .inl (nF (va_up nn d ((nn d) + 1))))), (x0, .inr (8, mO ax z1 z2 z3 fc z5 z6 z7 qs z9 z10 z11 z12 z13 hd lg fcn z17 z18 z19 md z21 z22 z23 z24 hc z26 z27 z28 z29 z30 z31 sx z33 z34)), (z18, .inl (cI, 360, .inl (nF cs))), (z5, .inl (cI, 60, .inl (nF fn))), (z6, .inl (cI, 60, .inl (nF fo))), (z7, .inl (cI, 60, .inl (nF ft))), (z33, .inl (cI, 40, .inl (oF b8)))] H := hP
                  have hD : va_D A [(z17, .inl (cI, 90, .inl (nF zs))), (z19, .inl (cI, 180, .inl (oF hs))), (z31, .inl (cZ, 192, .inl (bF fx))), (z34, .inl (cI, 5, .inl (nF (va_up nn d ((nn d) + 1))))), (x0, .inr (8, mO ax z1 z2 z3 fc z5 z6 z7 qs z9 z10 z11 z12 z13 hd lg fcn z17 z18 z19 md z21 z22 z23 z24 hc z26 z27 z28 z29 z30 z31 sx z33 z34)), (z18, .inl (cI, 360, .inl (nF cs))), (z5, .inl (cI, 60, .inl (nF fn))), (z6, .inl (cI, 60, .inl (nF fo))), (z7, .inl (cI, 60, .inl (nF ft))), (z33, .inl (cI, 40, .inl (oF b8)))] := hD
                  refine q_ifb_eq (b := bb) (tgt := 30) hx hb dX8_findBy_98 (by decide) (fun c98_7 => ?_) (fun c98_7 => ?_)
                  · exact ih30 (some d) b8 (va_up nn d ((nn d) + 1)) fx sx ls _ _ (by (first | (have h9 := g_mu_dec fc (zs f) nn d; omega) | (have h9 := g_mu_no (fc := fc) (n := zs f) (d := d) (nx := nn) (by omega) (by omega); omega) | (have h9 := g_mu_yes (fc := fc) (n := zs f) (d := d) (nx := nn) (by omega) (by omega); omega))) (show ∀ j7 k7, b8 j7 = some k7 → k7 < 12 from by (first | exact hbx | exact hbd8)) (show g_inv (m_K (fun d7 => cs (4 * f + d7)) fn fo ft fc) (m_E (hs (2 * f)) (hs (2 * f + 1))) fc (zs f) fnd sm b8 (va_up nn d ((nn d) + 1)) fx sx (some d) from by (first | (rw [show d = zs f by omega] at hin ⊢; exact g_inv_tell hgk hin (m_tel_E htl).1 (m_tel_E htl).2) | (exact g_inv_full hgk hin (by omega) (by omega)) | (exact g_inv_no hgk hin (by omega) (by omega) hlo8 (fun r9 h9 => m_bn_not (by rw [show bb = false by assumption] at hbn8; exact hbn8) h9.2)) | (exact g_inv_yes hgk hin (by omega) (by omega) hlo8 ⟨by omega, by rw [show bb = true by assumption] at hbn8; exact hbn8⟩))) (lv_sub hl [0, 1, 2] rfl) (hP.sub [4, 0, 5, 1, 6, 7, 8, 9, 2, 3] rfl) (hD.sub [4, 0, 5, 1, 6, 7, 8, 9, 2, 3] (by decide) rfl) hS
                  · refine lv_iinc (v := (nI (d + 1))) (lv' := [(2, .int (nI (d + 1))), (0, .ref x0), (1, .int (nI (f)))]) hx hb dX8_findBy_101 hl (k := 0) rfl (q_inc _) (by decide) rfl (fun ls hl => ?_)
                    refine lv_aload_n hx hb dX8_findBy_104 rfl (lv_at hl 1 rfl) ?_
                    refine va_get (D := (dC, dI)) (ci := 8) (v := .ref z34) (C := RX8) (T := TX8) (N := 35) hx hb hts uX8 hown hK hP 4 rfl rfl 34 (by decide) (hts _ kfX8_90) (fun _ h9 => h9) rfl dX8_findBy_105 ?_
                    refine lv_iload_n hx hb dX8_findBy_108 rfl (lv_at hl 0 rfl) ?_
                    refine lv_iconst (v := (nI (0))) hx hb dX8_findBy_109 (by decide) ?_
                    refine q_iastN hx hb hK hP hD hS 3 0 rfl rfl (j := d + 1) (x := 0) (by omega) (by omega) dX8_findBy_110 (fun H locs hP hD hS => ?_)
                    have hP : va_P (dC, dI) qCl [(z17, .inl (cI, 90, .inl (nF zs))), (z19, .inl (cI, 180, .inl (oF hs))), (z31, .inl (cZ, 192, .inl (bF fx))), (z34, .inl (cI, 5, .inl (nF (va_up (va_up nn d ((nn d) + 1)) (d + 1) 0)))), (x0, .inr (8, mO ax z1 z2 z3 fc z5 z6 z7 qs z9 z10 z11 z12 z13 hd lg fcn z17 z18 z19 md z21 z22 z23 z24 hc z26 z27 z28 z29 z30 z31 sx z33 z34)), (z18, .inl (cI, 360, .inl (nF cs))), (z5, .inl (cI, 60, .inl (nF fn))), (z6, .inl (cI, 60, .inl (nF fo))), (z7, .inl (cI, 60, .inl (nF ft))), (z33, .inl (cI, 40, .inl (oF b8)))] H := hP
                    have hD : va_D A [(z17, .inl (cI, 90, .inl (nF zs))), (z19, .inl (cI, 180, .inl (oF hs))), (z31, .inl (cZ, 192, .inl (bF fx))), (z34, .inl (cI, 5, .inl (nF (va_up (va_up nn d ((nn d) + 1)) (d + 1) 0)))), (x0, .inr (8, mO ax z1 z2 z3 fc z5 z6 z7 qs z9 z10 z11 z12 z13 hd lg fcn z17 z18 z19 md z21 z22 z23 z24 hc z26 z27 z28 z29 z30 z31 sx z33 z34)), (z18, .inl (cI, 360, .inl (nF cs))), (z5, .inl (cI, 60, .inl (nF fn))), (z6, .inl (cI, 60, .inl (nF fo))), (z7, .inl (cI, 60, .inl (nF ft))), (z33, .inl (cI, 40, .inl (oF b8)))] := hD
                    refine lv_goto (tgt := 30) hx hb dX8_findBy_111 (by decide) ?_
                    exact ih30 (some (d + 1)) b8 (va_up (va_up nn d ((nn d) + 1)) (d + 1) 0) fx sx ls _ _ (by (first | (have h9 := g_mu_dec fc (zs f) nn d; omega) | (have h9 := g_mu_no (fc := fc) (n := zs f) (d := d) (nx := nn) (by omega) (by omega); omega) | (have h9 := g_mu_yes (fc := fc) (n := zs f) (d := d) (nx := nn) (by omega) (by omega); omega))) (show ∀ j7 k7, b8 j7 = some k7 → k7 < 12 from by (first | exact hbx | exact hbd8)) (show g_inv (m_K (fun d7 => cs (4 * f + d7)) fn fo ft fc) (m_E (hs (2 * f)) (hs (2 * f + 1))) fc (zs f) fnd sm b8 (va_up (va_up nn d ((nn d) + 1)) (d + 1) 0) fx sx (some (d + 1)) from by (first | (rw [show d = zs f by omega] at hin ⊢; exact g_inv_tell hgk hin (m_tel_E htl).1 (m_tel_E htl).2) | (exact g_inv_full hgk hin (by omega) (by omega)) | (exact g_inv_no hgk hin (by omega) (by omega) hlo8 (fun r9 h9 => m_bn_not (by rw [show bb = false by assumption] at hbn8; exact hbn8) h9.2)) | (exact g_inv_yes hgk hin (by omega) (by omega) hlo8 ⟨by omega, by rw [show bb = true by assumption] at hbn8; exact hbn8⟩))) (lv_sub hl [0, 1, 2] rfl) (hP.sub [4, 0, 5, 1, 6, 7, 8, 9, 2, 3] rfl) (hD.sub [4, 0, 5, 1, 6, 7, 8, 9, 2, 3] (by decide) rfl) hS
                · refine lv_iinc (v := (oI (m_dec d))) (lv' := [(2, .int (oI (m_dec d))), (0, .ref x0), (1, .int (nI (f)))]) hx hb dX8_findBy_68 hl (k := 0) rfl (m_dec_i _) (by decide) rfl (fun ls hl => ?_)
                  refine lv_goto (tgt := 30) hx hb dX8_findBy_71 (by decide) ?_
                  exact ih30 (m_dec d) bx nn fx sx ls _ _ (by (first | (have h9 := g_mu_dec fc (zs f) nn d; omega) | (have h9 := g_mu_no (fc := fc) (n := zs f) (d := d) (nx := nn) (by omega) (by omega); omega) | (have h9 := g_mu_yes (fc := fc) (n := zs f) (d := d) (nx := nn) (by omega) (by omega); omega))) (show ∀ j7 k7, bx j7 = some k7 → k7 < 12 from by (first | exact hbx | exact hbd8)) (show g_inv (m_K (fun d7 => cs (4 * f + d7)) fn fo ft fc) (m_E (hs (2 * f)) (hs (2 * f + 1))) fc (zs f) fnd sm bx nn fx sx (m_dec d) from by (first | (rw [show d = zs f by omega] at hin ⊢; exact g_inv_tell hgk hin (m_tel_E htl).1 (m_tel_E htl).2) | (exact g_inv_full hgk hin (by omega) (by omega)) | (exact g_inv_no hgk hin (by omega) (by omega) hlo8 (fun r9 h9 => m_bn_not (by rw [show bb = false by assumption] at hbn8; exact hbn8) h9.2)) | (exact g_inv_yes hgk hin (by omega) (by omega) hlo8 ⟨by omega, by rw [show bb = true by assumption] at hbn8; exact hbn8⟩))) (lv_sub hl [0, 1, 2] rfl) (hP.sub [0, 1, 2, 3, 4, 5, 6, 7, 8, 9] rfl) (hD.sub [0, 1, 2, 3, 4, 5, 6, 7, 8, 9] (by decide) rfl) hS
              · refine lv_aload_n hx hb dX8_findBy_44 rfl (lv_at hl 1 rfl) ?_
                refine lv_iload_n hx hb dX8_findBy_45 rfl (lv_at hl 2 rfl) ?_
                refine q_joinv (wr := [(z18, .inl (cI, 360, .inl (nF cs))), (z5, .inl (cI, 60, .inl (nF fn))), (z6, .inl (cI, 60, .inl (nF fo))), (z7, .inl (cI, 60, .inl (nF ft))), (z34, .inl (cI, 5, .inl (nF nn)))]) (va_runV (As := [.int (nI (f))]) (rest := []) ⟨hx, hb, hml, hown, hts⟩ (c_Model_tell l dC dI cI cL cQ cZ x0 ax z1 z2 z3 fc z5 z6 z7 qs z9 z10 z11 z12 z13 hd lg fcn z17 z18 z19 md z21 z22 z23 z24 hc z26 z27 z28 z29 z30 z31 sx z33 z34 zs hs bx fx f (show f < 90 from by (exact hf)) (show ∀ j, zs j ≤ 4 from by (exact har.1)) (show ∀ j k, hs j = some k → k < 2 from by (exact har.2.2)) (show ∀ j k, bx j = some k → k < 12 from by (exact hbx))) (q_cwV 1 hts gkX8_tell kmX8_202 knX8_tell klX8_tell kiX8 rfl rfl rfl (by decide +kernel) ⟨Nat.le_of_ble_eq_true rfl, Nat.le_of_ble_eq_true rfl⟩) (q_preVW hK hP hD [0, 1, 3, 7, 8] rfl (by decide) 0 (ci := 8) (r := (RX8, TX8, 35)) rfl rfl) rfl rfl hl.1 rfl (lv_room (Nat.le_of_ble_eq_true rfl)) dX8_findBy_46 ⟨Nat.zero_le _, Nat.zero_le _⟩) hP hD hS [0, 1, 3, 7, 8] [2, 4, 5, 6, 9] rfl rfl (by decide) (fun _ => rfl) (fun u9 H locs hq9 hP hD hS => ?_)
                obtain ⟨f8, s8⟩ := u9
                have hq9 : (m_tel (m_ans bx (8 * zs f) (hs (2 * f))) (m_ans bx (8 * zs f) (hs (2 * f + 1))) fx sx f8 s8) := hq9
                have htl := hq9
                have hlast := htl
                have hP : va_P (dC, dI) qCl [(z18, .inl (cI, 360, .inl (nF cs))), (z5, .inl (cI, 60, .inl (nF fn))), (z6, .inl (cI, 60, .inl (nF fo))), (z7, .inl (cI, 60, .inl (nF ft))), (z34, .inl (cI, 5, .inl (nF nn))), (x0, .inr (8, mO ax z1 z2 z3 fc z5 z6 z7 qs z9 z10 z11 z12 z13 hd lg fcn z17 z18 z19 md z21 z22 z23 z24 hc z26 z27 z28 z29 z30 z31 s8 z33 z34)), (z17, .inl (cI, 90, .inl (nF zs))), (z19, .inl (cI, 180, .inl (oF hs))), (z33, .inl (cI, 40, .inl (oF bx))), (z31, .inl (cZ, 192, .inl (bF f8)))] H := hP
                have hD : va_D A [(z18, .inl (cI, 360, .inl (nF cs))), (z5, .inl (cI, 60, .inl (nF fn))), (z6, .inl (cI, 60, .inl (nF fo))), (z7, .inl (cI, 60, .inl (nF ft))), (z34, .inl (cI, 5, .inl (nF nn))), (x0, .inr (8, mO ax z1 z2 z3 fc z5 z6 z7 qs z9 z10 z11 z12 z13 hd lg fcn z17 z18 z19 md z21 z22 z23 z24 hc z26 z27 z28 z29 z30 z31 s8 z33 z34)), (z17, .inl (cI, 90, .inl (nF zs))), (z19, .inl (cI, 180, .inl (oF hs))), (z33, .inl (cI, 40, .inl (oF bx))), (z31, .inl (cZ, 192, .inl (bF f8)))] := hD
                refine lv_iinc (v := (oI (m_dec d))) (lv' := [(2, .int (oI (m_dec d))), (0, .ref x0), (1, .int (nI (f)))]) hx hb dX8_findBy_49 hl (k := 0) rfl (m_dec_i _) (by decide) rfl (fun ls hl => ?_)
                refine lv_goto (tgt := 30) hx hb dX8_findBy_52 (by decide) ?_
                exact ih30 (m_dec d) bx nn f8 s8 ls _ _ (by (first | (have h9 := g_mu_dec fc (zs f) nn d; omega) | (have h9 := g_mu_no (fc := fc) (n := zs f) (d := d) (nx := nn) (by omega) (by omega); omega) | (have h9 := g_mu_yes (fc := fc) (n := zs f) (d := d) (nx := nn) (by omega) (by omega); omega))) (show ∀ j7 k7, bx j7 = some k7 → k7 < 12 from by (first | exact hbx | exact hbd8)) (show g_inv (m_K (fun d7 => cs (4 * f + d7)) fn fo ft fc) (m_E (hs (2 * f)) (hs (2 * f + 1))) fc (zs f) fnd sm bx nn f8 s8 (m_dec d) from by (first | (rw [show d = zs f by omega] at hin ⊢; exact g_inv_tell hgk hin (m_tel_E htl).1 (m_tel_E htl).2) | (exact g_inv_full hgk hin (by omega) (by omega)) | (exact g_inv_no hgk hin (by omega) (by omega) hlo8 (fun r9 h9 => m_bn_not (by rw [show bb = false by assumption] at hbn8; exact hbn8) h9.2)) | (exact g_inv_yes hgk hin (by omega) (by omega) hlo8 ⟨by omega, by rw [show bb = true by assumption] at hbn8; exact hbn8⟩))) (lv_sub hl [0, 1, 2] rfl) (hP.sub [5, 6, 0, 7, 1, 2, 3, 8, 9, 4] rfl) (hD.sub [5, 6, 0, 7, 1, 2, 3, 8, 9, 4] (by decide) rfl) hS
        exact L30 _ (some 0) bz (va_up nx 0 0) fnd sm ls _ _ (by exact Nat.lt_succ_self _) (show ∀ j7 k7, bz j7 = some k7 → k7 < 12 from by (exact hbz)) (show g_inv (m_K (fun d7 => cs (4 * f + d7)) fn fo ft fc) (m_E (hs (2 * f)) (hs (2 * f + 1))) fc (zs f) fnd sm bz (va_up nx 0 0) fnd sm (some 0) from by (exact g_inv_0 (fun v9 h9 => hz v9 (by omega)) (up_s _ _ _))) (lv_sub hl [0, 1, 2] rfl) (hP.sub [0, 1, 2, 3, 4, 5, 6, 7, 8, 9] rfl) (hD.sub [0, 1, 2, 3, 4, 5, 6, 7, 8, 9] (by decide) rfl) hS
      · refine lv_aload_n hx hb dX8_findBy_8 rfl (lv_at hl 1 rfl) ?_
        refine va_get (D := (dC, dI)) (ci := 8) (v := .ref z33) (C := RX8) (T := TX8) (N := 35) hx hb hts uX8 hown hK hP 0 rfl rfl 33 (by decide) (hts _ kfX8_87) (fun _ h9 => h9) rfl dX8_findBy_9 ?_
        refine lv_iload_n hx hb dX8_findBy_12 rfl (lv_at hl 0 rfl) ?_
        refine lv_iconst (v := (oI (none))) hx hb dX8_findBy_13 (by decide) ?_
        refine q_iastO hx hb hK hP hD hS 7 0 rfl rfl (j := v) (x := none) (by omega) (by omega) dX8_findBy_14 (fun H locs hP hD hS => ?_)
        have hP : va_P (dC, dI) qCl [(x0, .inr (8, mO ax z1 z2 z3 fc z5 z6 z7 qs z9 z10 z11 z12 z13 hd lg fcn z17 z18 z19 md z21 z22 z23 z24 hc z26 z27 z28 z29 z30 z31 sm z33 z34)), (z17, .inl (cI, 90, .inl (nF zs))), (z18, .inl (cI, 360, .inl (nF cs))), (z19, .inl (cI, 180, .inl (oF hs))), (z5, .inl (cI, 60, .inl (nF fn))), (z6, .inl (cI, 60, .inl (nF fo))), (z7, .inl (cI, 60, .inl (nF ft))), (z33, .inl (cI, 40, .inl (oF (va_up bz v none)))), (z31, .inl (cZ, 192, .inl (bF fnd))), (z34, .inl (cI, 5, .inl (nF nx)))] H := hP
        have hD : va_D A [(x0, .inr (8, mO ax z1 z2 z3 fc z5 z6 z7 qs z9 z10 z11 z12 z13 hd lg fcn z17 z18 z19 md z21 z22 z23 z24 hc z26 z27 z28 z29 z30 z31 sm z33 z34)), (z17, .inl (cI, 90, .inl (nF zs))), (z18, .inl (cI, 360, .inl (nF cs))), (z19, .inl (cI, 180, .inl (oF hs))), (z5, .inl (cI, 60, .inl (nF fn))), (z6, .inl (cI, 60, .inl (nF fo))), (z7, .inl (cI, 60, .inl (nF ft))), (z33, .inl (cI, 40, .inl (oF (va_up bz v none)))), (z31, .inl (cZ, 192, .inl (bF fnd))), (z34, .inl (cI, 5, .inl (nF nx)))] := hD
        refine lv_iinc (v := (nI (v + 1))) (lv' := [(2, .int (nI (v + 1))), (0, .ref x0), (1, .int (nI (f)))]) hx hb dX8_findBy_15 hl (k := 0) rfl (q_inc _) (by decide) rfl (fun ls hl => ?_)
        refine lv_goto (tgt := 2) hx hb dX8_findBy_18 (by decide) ?_
        exact ih2 (v + 1) (va_up bz v none) ls _ _ (by omega) (show (v + 1) ≤ 8 from by omega) (show ∀ j7 k7, (va_up bz v none) j7 = some k7 → k7 < 12 from by (exact up_oltn hbz (fun m h => by cases h))) (show ∀ j7, j7 < (v + 1) → (va_up bz v none) j7 = none from by (exact up_all hz)) (lv_sub hl [0, 1, 2] rfl) (hP.sub [0, 1, 2, 3, 4, 5, 6, 7, 8, 9] rfl) (hD.sub [0, 1, 2, 3, 4, 5, 6, 7, 8, 9] (by decide) rfl) hS
  exact L2 _ 0 bd ls _ _ (by exact Nat.lt_succ_self _) (show 0 ≤ 8 from by omega) (show ∀ j7 k7, bd j7 = some k7 → k7 < 12 from by (exact hbd)) (show ∀ j7, j7 < 0 → bd j7 = none from by (intro j7 h; omega)) (lv_sub hl [0, 1, 2] rfl) (hP.sub [0, 1, 2, 3, 4, 5, 6, 7, 8, 9] rfl) (hD.sub [0, 1, 2, 3, 4, 5, 6, 7, 8, 9] (by decide) rfl) hS
