abbrev cX8_lessen : ByteArray := prog_10_method_16_code
def yX8_lessen : MethodName := ⟨RX8, "lessen", "()Z"⟩
def wkX8_lessen : List Cond := .code yX8_lessen cX8_lessen 3 (some .boolean) :: qW
set_option maxRecDepth 40000 in
theorem gkX8_lessen : GoodIn qW wkX8_lessen := q_good (qw 733 rfl rfl)
set_option maxRecDepth 40000 in
theorem knX8_lessen : Cond.instanceMethod yX8_lessen ∈ qW := qw 732 rfl rfl
set_option maxRecDepth 40000 in
theorem klX8_lessen : Cond.selects RX8 yX8_lessen yX8_lessen ∈ qW := qw 21 rfl rfl
theorem dX8_lessen_0 : decode cX8_lessen 0 = .ok (.iconst 0, 1) := by decide +kernel
theorem dX8_lessen_1 : decode cX8_lessen 1 = .ok (.istore_n 1, 1) := by decide +kernel
theorem dX8_lessen_2 : decode cX8_lessen 2 = .ok (.iload_n 1, 1) := by decide +kernel
theorem dX8_lessen_3 : decode cX8_lessen 3 = .ok (.aload_n 0, 1) := by decide +kernel
theorem dX8_lessen_4 : decode cX8_lessen 4 = .ok (.getfield 121, 3) := by decide +kernel
theorem dX8_lessen_7 : decode cX8_lessen 7 = .ok (.if_icmp .ge 74, 3) := by decide +kernel
theorem dX8_lessen_10 : decode cX8_lessen 10 = .ok (.iconst 0, 1) := by decide +kernel
theorem dX8_lessen_11 : decode cX8_lessen 11 = .ok (.istore_n 2, 1) := by decide +kernel
theorem dX8_lessen_12 : decode cX8_lessen 12 = .ok (.iload_n 2, 1) := by decide +kernel
theorem dX8_lessen_13 : decode cX8_lessen 13 = .ok (.iload_n 1, 1) := by decide +kernel
theorem dX8_lessen_14 : decode cX8_lessen 14 = .ok (.if_icmp .ge 61, 3) := by decide +kernel
theorem dX8_lessen_17 : decode cX8_lessen 17 = .ok (.aload_n 0, 1) := by decide +kernel
theorem dX8_lessen_18 : decode cX8_lessen 18 = .ok (.getfield 56, 3) := by decide +kernel
theorem dX8_lessen_21 : decode cX8_lessen 21 = .ok (.iload_n 2, 1) := by decide +kernel
theorem dX8_lessen_22 : decode cX8_lessen 22 = .ok (.iaload, 1) := by decide +kernel
theorem dX8_lessen_23 : decode cX8_lessen 23 = .ok (.aload_n 0, 1) := by decide +kernel
theorem dX8_lessen_24 : decode cX8_lessen 24 = .ok (.getfield 56, 3) := by decide +kernel
theorem dX8_lessen_27 : decode cX8_lessen 27 = .ok (.iload_n 1, 1) := by decide +kernel
theorem dX8_lessen_28 : decode cX8_lessen 28 = .ok (.iaload, 1) := by decide +kernel
theorem dX8_lessen_29 : decode cX8_lessen 29 = .ok (.if_icmp .ne 40, 3) := by decide +kernel
theorem dX8_lessen_32 : decode cX8_lessen 32 = .ok (.aload_n 0, 1) := by decide +kernel
theorem dX8_lessen_33 : decode cX8_lessen 33 = .ok (.getfield 59, 3) := by decide +kernel
theorem dX8_lessen_36 : decode cX8_lessen 36 = .ok (.iload_n 2, 1) := by decide +kernel
theorem dX8_lessen_37 : decode cX8_lessen 37 = .ok (.iaload, 1) := by decide +kernel
theorem dX8_lessen_38 : decode cX8_lessen 38 = .ok (.aload_n 0, 1) := by decide +kernel
theorem dX8_lessen_39 : decode cX8_lessen 39 = .ok (.getfield 59, 3) := by decide +kernel
theorem dX8_lessen_42 : decode cX8_lessen 42 = .ok (.iload_n 1, 1) := by decide +kernel
theorem dX8_lessen_43 : decode cX8_lessen 43 = .ok (.iaload, 1) := by decide +kernel
theorem dX8_lessen_44 : decode cX8_lessen 44 = .ok (.if_icmp .ne 25, 3) := by decide +kernel
theorem dX8_lessen_47 : decode cX8_lessen 47 = .ok (.aload_n 0, 1) := by decide +kernel
theorem dX8_lessen_48 : decode cX8_lessen 48 = .ok (.getfield 62, 3) := by decide +kernel
theorem dX8_lessen_51 : decode cX8_lessen 51 = .ok (.iload_n 2, 1) := by decide +kernel
theorem dX8_lessen_52 : decode cX8_lessen 52 = .ok (.iaload, 1) := by decide +kernel
theorem dX8_lessen_53 : decode cX8_lessen 53 = .ok (.aload_n 0, 1) := by decide +kernel
theorem dX8_lessen_54 : decode cX8_lessen 54 = .ok (.getfield 62, 3) := by decide +kernel
theorem dX8_lessen_57 : decode cX8_lessen 57 = .ok (.iload_n 1, 1) := by decide +kernel
theorem dX8_lessen_58 : decode cX8_lessen 58 = .ok (.iaload, 1) := by decide +kernel
theorem dX8_lessen_59 : decode cX8_lessen 59 = .ok (.if_icmp .ne 10, 3) := by decide +kernel
theorem dX8_lessen_62 : decode cX8_lessen 62 = .ok (.aload_n 0, 1) := by decide +kernel
theorem dX8_lessen_63 : decode cX8_lessen 63 = .ok (.iload_n 1, 1) := by decide +kernel
theorem dX8_lessen_64 : decode cX8_lessen 64 = .ok (.invokevirtual 131, 3) := by decide +kernel
theorem dX8_lessen_67 : decode cX8_lessen 67 = .ok (.iconst 1, 1) := by decide +kernel
theorem dX8_lessen_68 : decode cX8_lessen 68 = .ok (.ireturn, 1) := by decide +kernel
theorem dX8_lessen_69 : decode cX8_lessen 69 = .ok (.iinc 2 1, 3) := by decide +kernel
theorem dX8_lessen_72 : decode cX8_lessen 72 = .ok (.goto (-60), 3) := by decide +kernel
theorem dX8_lessen_75 : decode cX8_lessen 75 = .ok (.iinc 1 1, 3) := by decide +kernel
theorem dX8_lessen_78 : decode cX8_lessen 78 = .ok (.goto (-76), 3) := by decide +kernel
theorem dX8_lessen_81 : decode cX8_lessen 81 = .ok (.iconst 0, 1) := by decide +kernel
theorem dX8_lessen_82 : decode cX8_lessen 82 = .ok (.istore_n 1, 1) := by decide +kernel
theorem dX8_lessen_83 : decode cX8_lessen 83 = .ok (.iload_n 1, 1) := by decide +kernel
theorem dX8_lessen_84 : decode cX8_lessen 84 = .ok (.aload_n 0, 1) := by decide +kernel
theorem dX8_lessen_85 : decode cX8_lessen 85 = .ok (.getfield 121, 3) := by decide +kernel
theorem dX8_lessen_88 : decode cX8_lessen 88 = .ok (.if_icmp .ge 66, 3) := by decide +kernel
theorem dX8_lessen_91 : decode cX8_lessen 91 = .ok (.aload_n 0, 1) := by decide +kernel
theorem dX8_lessen_92 : decode cX8_lessen 92 = .ok (.aload_n 0, 1) := by decide +kernel
theorem dX8_lessen_93 : decode cX8_lessen 93 = .ok (.getfield 59, 3) := by decide +kernel
theorem dX8_lessen_96 : decode cX8_lessen 96 = .ok (.iload_n 1, 1) := by decide +kernel
theorem dX8_lessen_97 : decode cX8_lessen 97 = .ok (.iaload, 1) := by decide +kernel
theorem dX8_lessen_98 : decode cX8_lessen 98 = .ok (.invokevirtual 135, 3) := by decide +kernel
theorem dX8_lessen_101 : decode cX8_lessen 101 = .ok (.ifCond .eq 13, 3) := by decide +kernel
theorem dX8_lessen_104 : decode cX8_lessen 104 = .ok (.aload_n 0, 1) := by decide +kernel
theorem dX8_lessen_105 : decode cX8_lessen 105 = .ok (.getfield 59, 3) := by decide +kernel
theorem dX8_lessen_108 : decode cX8_lessen 108 = .ok (.iload_n 1, 1) := by decide +kernel
theorem dX8_lessen_109 : decode cX8_lessen 109 = .ok (.bipush 6, 2) := by decide +kernel
theorem dX8_lessen_111 : decode cX8_lessen 111 = .ok (.iastore, 1) := by decide +kernel
theorem dX8_lessen_112 : decode cX8_lessen 112 = .ok (.iconst 1, 1) := by decide +kernel
theorem dX8_lessen_113 : decode cX8_lessen 113 = .ok (.ireturn, 1) := by decide +kernel
theorem dX8_lessen_114 : decode cX8_lessen 114 = .ok (.aload_n 0, 1) := by decide +kernel
theorem dX8_lessen_115 : decode cX8_lessen 115 = .ok (.getfield 56, 3) := by decide +kernel
theorem dX8_lessen_118 : decode cX8_lessen 118 = .ok (.iload_n 1, 1) := by decide +kernel
theorem dX8_lessen_119 : decode cX8_lessen 119 = .ok (.iaload, 1) := by decide +kernel
theorem dX8_lessen_120 : decode cX8_lessen 120 = .ok (.bipush 32, 2) := by decide +kernel
theorem dX8_lessen_122 : decode cX8_lessen 122 = .ok (.if_icmp .lt 26, 3) := by decide +kernel
theorem dX8_lessen_125 : decode cX8_lessen 125 = .ok (.aload_n 0, 1) := by decide +kernel
theorem dX8_lessen_126 : decode cX8_lessen 126 = .ok (.aload_n 0, 1) := by decide +kernel
theorem dX8_lessen_127 : decode cX8_lessen 127 = .ok (.getfield 62, 3) := by decide +kernel
theorem dX8_lessen_130 : decode cX8_lessen 130 = .ok (.iload_n 1, 1) := by decide +kernel
theorem dX8_lessen_131 : decode cX8_lessen 131 = .ok (.iaload, 1) := by decide +kernel
theorem dX8_lessen_132 : decode cX8_lessen 132 = .ok (.invokevirtual 135, 3) := by decide +kernel
theorem dX8_lessen_135 : decode cX8_lessen 135 = .ok (.ifCond .eq 13, 3) := by decide +kernel
theorem dX8_lessen_138 : decode cX8_lessen 138 = .ok (.aload_n 0, 1) := by decide +kernel
theorem dX8_lessen_139 : decode cX8_lessen 139 = .ok (.getfield 62, 3) := by decide +kernel
theorem dX8_lessen_142 : decode cX8_lessen 142 = .ok (.iload_n 1, 1) := by decide +kernel
theorem dX8_lessen_143 : decode cX8_lessen 143 = .ok (.bipush 6, 2) := by decide +kernel
theorem dX8_lessen_145 : decode cX8_lessen 145 = .ok (.iastore, 1) := by decide +kernel
theorem dX8_lessen_146 : decode cX8_lessen 146 = .ok (.iconst 1, 1) := by decide +kernel
theorem dX8_lessen_147 : decode cX8_lessen 147 = .ok (.ireturn, 1) := by decide +kernel
theorem dX8_lessen_148 : decode cX8_lessen 148 = .ok (.iinc 1 1, 3) := by decide +kernel
theorem dX8_lessen_151 : decode cX8_lessen 151 = .ok (.goto (-68), 3) := by decide +kernel
theorem dX8_lessen_154 : decode cX8_lessen 154 = .ok (.iconst 0, 1) := by decide +kernel
theorem dX8_lessen_155 : decode cX8_lessen 155 = .ok (.ireturn, 1) := by decide +kernel
set_option maxRecDepth 40000 in
theorem kmX8_135 : Cond.methodLink RX8 135 yX8_isLone ∈ qW := qw 738 rfl rfl
set_option maxRecDepth 40000 in
theorem kmX8_131 : Cond.methodLink RX8 131 yX8_take ∈ qW := qw 734 rfl rfl
abbrev rm_c_Model_lessen : Room := { frames := 2, cells := 0, slots := 0, locals := 44 }
set_option maxHeartbeats 4000000 in
set_option maxRecDepth 100000 in
theorem c_Model_lessen (l : Launch) (dC : Nat → ClassId) (dI : Nat → Nat → Nat) (cI cL cQ cZ : ClassId) (x0 : Nat) (ax : Nat) (z1 : Nat) (z2 : Nat) (z3 : Nat) (fc : Nat) (z5 : Nat) (z6 : Nat) (z7 : Nat) (qs : Nat) (z9 : Nat) (z10 : Nat) (z11 : Nat) (z12 : Nat) (z13 : Nat) (hd : Option Nat) (lg : Bool) (fcn : Nat) (z17 : Nat) (z18 : Nat) (z19 : Nat) (md : Nat) (z21 : Nat) (z22 : Nat) (z23 : Nat) (z24 : Nat) (hc : Nat) (z26 : Nat) (z27 : Nat) (z28 : Nat) (z29 : Nat) (z30 : Nat) (z31 : Nat) (sm : Bool) (z33 : Nat) (z34 : Nat) (pp : Nat → Nat) (pa : Nat → Nat) (pb : Nat → Nat) (he : Nat → Option Nat) (hmd : md ≤ 4) (hpp : ∀ j, pp j < 64) (hpa : ∀ j, pa j < 18) (hpb : ∀ j, pb j < 18) (hhc : hc ≤ 2) (hhe : m_hok he hc) : Met l yX8_lessen wkX8_lessen rm_c_Model_lessen (q_W (dC, dI) qCl (qT cI cL cQ cZ) [(x0, .inr (8, mO ax z1 z2 z3 fc z5 z6 z7 qs z9 z10 z11 z12 z13 hd lg fcn z17 z18 z19 md z21 z22 z23 z24 hc z26 z27 z28 z29 z30 z31 sm z33 z34)), (z21, .inl (cI, 4, .inl (nF pp))), (z22, .inl (cI, 4, .inl (nF pa))), (z23, .inl (cI, 4, .inl (nF pb))), (z24, .inl (cI, 2, .inl (oF he)))] [.ref x0]) (va_Qi (fun (r : Int32) (u : Bool × Nat × (Nat → Nat) × (Nat → Nat) × (Nat → Nat)) => (r = (bI (u.1))) ∧ (m_less pp pa pb (m_h he) md hc u.1 u.2.1 u.2.2.1 u.2.2.2.1 u.2.2.2.2)) (fun (u : Bool × Nat × (Nat → Nat) × (Nat → Nat) × (Nat → Nat)) t => va_P (dC, dI) qCl [(x0, .inr (8, mO ax z1 z2 z3 fc z5 z6 z7 qs z9 z10 z11 z12 z13 hd lg fcn z17 z18 z19 u.2.1 z21 z22 z23 z24 hc z26 z27 z28 z29 z30 z31 sm z33 z34)), (z21, .inl (cI, 4, .inl (nF u.2.2.1))), (z22, .inl (cI, 4, .inl (nF u.2.2.2.1))), (z23, .inl (cI, 4, .inl (nF u.2.2.2.2))), (z24, .inl (cI, 2, .inl (oF he)))] t.heap) (q_A [(x0, .inr (8, mO ax z1 z2 z3 fc z5 z6 z7 qs z9 z10 z11 z12 z13 hd lg fcn z17 z18 z19 md z21 z22 z23 z24 hc z26 z27 z28 z29 z30 z31 sm z33 z34)), (z21, .inl (cI, 4, .inl (nF pp))), (z22, .inl (cI, 4, .inl (nF pa))), (z23, .inl (cI, 4, .inl (nF pb))), (z24, .inl (cI, 2, .inl (oF he)))])) 0 0 (q_A [(x0, .inr (8, mO ax z1 z2 z3 fc z5 z6 z7 qs z9 z10 z11 z12 z13 hd lg fcn z17 z18 z19 md z21 z22 z23 z24 hc z26 z27 z28 z29 z30 z31 sm z33 z34)), (z21, .inl (cI, 4, .inl (nF pp))), (z22, .inl (cI, 4, .inl (nF pa))), (z23, .inl (cI, 4, .inl (nF pb))), (z24, .inl (cI, 2, .inl (oF he)))]) := by
  refine Met.ofW (cc := cX8_lessen) (maxL := 3) (ret := (some .boolean)) (by decide) rfl ?_
  intro p e s m args below meth c s₁ B hml hv
  obtain ⟨hargs, hP, hK, hD0⟩ := hv
  have hx := B.exec
  have hb := B.bytes
  have hr := B.returns
  have hts : ∀ w ∈ qW, w.before args s = true := fun w h => atoms_spec (ws := wkX8_lessen) B.pre w (List.mem_cons_of_mem _ h)
  have hown : s.vm.findClass RX8 = some m.cls := findClass_of_methodNamed B.named
  have hlocks := B.notSynchronized
  refine q_named (fun Q hQ => ?_)
  have hD : va_D (q_A [(x0, .inr (8, mO ax z1 z2 z3 fc z5 z6 z7 qs z9 z10 z11 z12 z13 hd lg fcn z17 z18 z19 md z21 z22 z23 z24 hc z26 z27 z28 z29 z30 z31 sm z33 z34)), (z21, .inl (cI, 4, .inl (nF pp))), (z22, .inl (cI, 4, .inl (nF pa))), (z23, .inl (cI, 4, .inl (nF pb))), (z24, .inl (cI, 2, .inl (oF he)))]) [(x0, .inr (8, mO ax z1 z2 z3 fc z5 z6 z7 qs z9 z10 z11 z12 z13 hd lg fcn z17 z18 z19 md z21 z22 z23 z24 hc z26 z27 z28 z29 z30 z31 sm z33 z34)), (z21, .inl (cI, 4, .inl (nF pp))), (z22, .inl (cI, 4, .inl (nF pa))), (z23, .inl (cI, 4, .inl (nF pb))), (z24, .inl (cI, 2, .inl (oF he)))] := ⟨hD0.1, fun k q h => ⟨k, q.2, h⟩⟩
  generalize hAe : q_A [(x0, .inr (8, mO ax z1 z2 z3 fc z5 z6 z7 qs z9 z10 z11 z12 z13 hd lg fcn z17 z18 z19 md z21 z22 z23 z24 hc z26 z27 z28 z29 z30 z31 sm z33 z34)), (z21, .inl (cI, 4, .inl (nF pp))), (z22, .inl (cI, 4, .inl (nF pa))), (z23, .inl (cI, 4, .inl (nF pb))), (z24, .inl (cI, 2, .inl (oF he)))] = A at hD
  have hS : va_S A s.heap s.heap [] := va_S.rf
  refine q_entry hargs (Nat.le_of_ble_eq_true rfl) (fun ls hl => ?_)
  have hl : lv_has ls 3 [(0, .ref x0)] := hl
  obtain ⟨H, locs, eH, eL⟩ : ∃ (H : Heap) (locs : List Loc), s.heap = H ∧ ([] : List Loc) = locs := ⟨_, _, rfl, rfl⟩
  have hS : va_S A s.heap H locs := by rw [← eH, ← eL]; exact hS
  have hP : va_P (dC, dI) qCl [(x0, .inr (8, mO ax z1 z2 z3 fc z5 z6 z7 qs z9 z10 z11 z12 z13 hd lg fcn z17 z18 z19 md z21 z22 z23 z24 hc z26 z27 z28 z29 z30 z31 sm z33 z34)), (z21, .inl (cI, 4, .inl (nF pp))), (z22, .inl (cI, 4, .inl (nF pa))), (z23, .inl (cI, 4, .inl (nF pb))), (z24, .inl (cI, 2, .inl (oF he)))] H := by rw [← eH]; exact hP
  refine W_at eH eL ?_
  refine lv_iconst (v := (nI (0))) hx hb dX8_lessen_0 (by decide) ?_
  refine lv_istore_n (lv' := [(1, .int (nI (0))), (0, .ref x0)]) hx hb dX8_lessen_1 rfl hl (by decide) rfl (fun ls hl => ?_)
  have L2 : ∀ (fu : Nat) (k : Nat) (ls : Array Slot) (H : Heap) (locs : List Loc), md - k < fu → (k ≤ md) → (m_ndp pp pa pb k) → lv_has ls 3 [(1, .int (nI (k))), (0, .ref x0)] → va_P (dC, dI) qCl [(x0, .inr (8, mO ax z1 z2 z3 fc z5 z6 z7 qs z9 z10 z11 z12 z13 hd lg fcn z17 z18 z19 md z21 z22 z23 z24 hc z26 z27 z28 z29 z30 z31 sm z33 z34)), (z21, .inl (cI, 4, .inl (nF pp))), (z22, .inl (cI, 4, .inl (nF pa))), (z23, .inl (cI, 4, .inl (nF pb))), (z24, .inl (cI, 2, .inl (oF he)))] H → va_D A [(x0, .inr (8, mO ax z1 z2 z3 fc z5 z6 z7 qs z9 z10 z11 z12 z13 hd lg fcn z17 z18 z19 md z21 z22 z23 z24 hc z26 z27 z28 z29 z30 z31 sm z33 z34)), (z21, .inl (cI, 4, .inl (nF pp))), (z22, .inl (cI, 4, .inl (nF pa))), (z23, .inl (cI, 4, .inl (nF pb))), (z24, .inl (cI, 2, .inl (oF he)))] → va_S A s.heap H locs → W p l e (headSpec wkX8_lessen rm_c_Model_lessen).room s m args below meth c H locs 0 0 Q (F0 m 2 ls []) := by
    intro fu
    induction fu with
    | zero => intro k ls H locs hmu; exact absurd hmu (Nat.not_lt_zero _)
    | succ fu ih2 =>
      intro k ls H locs hmu hk hn9 hl hP hD hS
      refine lv_iload_n hx hb dX8_lessen_2 rfl (lv_at hl 0 rfl) ?_
      refine lv_aload_n hx hb dX8_lessen_3 rfl (lv_at hl 1 rfl) ?_
      refine va_get (D := (dC, dI)) (ci := 8) (v := .int (nI (md))) (C := RX8) (T := TX8) (N := 35) hx hb hts uX8 hown hK hP 0 rfl rfl 20 (by decide) (hts _ kfX8_121) (fun _ h9 => h9) rfl dX8_lessen_4 ?_
      refine q_icmp_ge (x := k) (y := md) (tgt := 81) hx hb dX8_lessen_7 (by decide) (by omega) (by omega) (fun c7_1 => ?_) (fun c7_1 => ?_)
      · have hnd : m_ndp pp pa pb md := (by rw [show md = k by omega]; exact hn9)
        refine lv_iconst (v := (nI (0))) hx hb dX8_lessen_81 (by decide) ?_
        refine lv_istore_n (lv' := [(1, .int (nI (0))), (0, .ref x0)]) hx hb dX8_lessen_82 rfl hl (by decide) rfl (fun ls hl => ?_)
        have L83 : ∀ (fu : Nat) (k : Nat) (ls : Array Slot) (H : Heap) (locs : List Loc), md - k < fu → (k ≤ md) → (∀ j, j < k → m_nol pp pa pb (m_h he) md hc j) → lv_has ls 3 [(1, .int (nI (k))), (0, .ref x0)] → va_P (dC, dI) qCl [(x0, .inr (8, mO ax z1 z2 z3 fc z5 z6 z7 qs z9 z10 z11 z12 z13 hd lg fcn z17 z18 z19 md z21 z22 z23 z24 hc z26 z27 z28 z29 z30 z31 sm z33 z34)), (z21, .inl (cI, 4, .inl (nF pp))), (z22, .inl (cI, 4, .inl (nF pa))), (z23, .inl (cI, 4, .inl (nF pb))), (z24, .inl (cI, 2, .inl (oF he)))] H → va_D A [(x0, .inr (8, mO ax z1 z2 z3 fc z5 z6 z7 qs z9 z10 z11 z12 z13 hd lg fcn z17 z18 z19 md z21 z22 z23 z24 hc z26 z27 z28 z29 z30 z31 sm z33 z34)), (z21, .inl (cI, 4, .inl (nF pp))), (z22, .inl (cI, 4, .inl (nF pa))), (z23, .inl (cI, 4, .inl (nF pb))), (z24, .inl (cI, 2, .inl (oF he)))] → va_S A s.heap H locs → W p l e (headSpec wkX8_lessen rm_c_Model_lessen).room s m args below meth c H locs 0 0 Q (F0 m 83 ls []) := by
          intro fu
          induction fu with
          | zero => intro k ls H locs hmu; exact absurd hmu (Nat.not_lt_zero _)
          | succ fu ih83 =>
            intro k ls H locs hmu hk hl9 hl hP hD hS
            refine lv_iload_n hx hb dX8_lessen_83 rfl (lv_at hl 0 rfl) ?_
            refine lv_aload_n hx hb dX8_lessen_84 rfl (lv_at hl 1 rfl) ?_
            refine va_get (D := (dC, dI)) (ci := 8) (v := .int (nI (md))) (C := RX8) (T := TX8) (N := 35) hx hb hts uX8 hown hK hP 0 rfl rfl 20 (by decide) (hts _ kfX8_121) (fun _ h9 => h9) rfl dX8_lessen_85 ?_
            refine q_icmp_ge (x := k) (y := md) (tgt := 154) hx hb dX8_lessen_88 (by decide) (by omega) (by omega) (fun c88_2 => ?_) (fun c88_2 => ?_)
            · refine lv_iconst (v := (nI (0))) hx hb dX8_lessen_154 (by decide) ?_
              subst hQ
              subst hAe
              have hP9 := hP.sub (ws' := [(x0, .inr (8, mO ax z1 z2 z3 fc z5 z6 z7 qs z9 z10 z11 z12 z13 hd lg fcn z17 z18 z19 md z21 z22 z23 z24 hc z26 z27 z28 z29 z30 z31 sm z33 z34)), (z21, .inl (cI, 4, .inl (nF pp))), (z22, .inl (cI, 4, .inl (nF pa))), (z23, .inl (cI, 4, .inl (nF pb))), (z24, .inl (cI, 2, .inl (oF he)))]) [0, 1, 2, 3, 4] rfl
              exact W.zret (v := (nI (0))) hx hb hr (by decide) (fun t9 h9 _ => ⟨⟨(nI (0)), (false, md, pp, pa, pb), rfl, ⟨bI_0 rfl, (show m_less pp pa pb (m_h he) md hc false md pp pa pb from by (exact Or.inr ⟨rfl, rfl, rfl, rfl, rfl, hnd, fun j hj => hl9 j (by omega)⟩))⟩, by show va_P _ _ _ t9.heap; rw [h9]; exact hP9⟩, hS.F h9⟩) hS.2.2 dX8_lessen_155
            · refine lv_aload_n hx hb dX8_lessen_91 rfl (lv_at hl 1 rfl) ?_
              refine lv_aload_n hx hb dX8_lessen_92 rfl (lv_at hl 1 rfl) ?_
              refine va_get (D := (dC, dI)) (ci := 8) (v := .ref z22) (C := RX8) (T := TX8) (N := 35) hx hb hts uX8 hown hK hP 0 rfl rfl 22 (by decide) (hts _ kfX8_59) (fun _ h9 => h9) rfl dX8_lessen_93 ?_
              refine lv_iload_n hx hb dX8_lessen_96 rfl (lv_at hl 0 rfl) ?_
              refine q_ialdN hx hb hK hP 2 0 rfl rfl (j := k) (by omega) (by omega) dX8_lessen_97 ?_
              have bd3 := hpa k
              refine vp_callSi (va_Run.run (va_runV (As := [.int (nI (pa k))]) (rest := []) ⟨hx, hb, hml, hown, hts⟩ (c_Model_isLone l dC dI cI cL cQ cZ x0 ax z1 z2 z3 fc z5 z6 z7 qs z9 z10 z11 z12 z13 hd lg fcn z17 z18 z19 md z21 z22 z23 z24 hc z26 z27 z28 z29 z30 z31 sm z33 z34 pp pa pb he (pa k) (show md ≤ 4 from by first | assumption | omega) (show ∀ j, pp j < 64 from by first | assumption | omega) (show ∀ j, pa j < 18 from by first | assumption | omega) (show ∀ j, pb j < 18 from by first | assumption | omega) (show hc ≤ 2 from by first | assumption | omega) (show (pa k) < 18 from by first | assumption | omega) (show m_hok he hc from by first | assumption | omega)) (q_cwV 1 hts gkX8_isLone kmX8_135 knX8_isLone klX8_isLone kiX8 rfl rfl rfl (by decide +kernel) ⟨Nat.le_of_ble_eq_true rfl, Nat.le_of_ble_eq_true rfl⟩) (q_preV hK hP [0, 1, 2, 3, 4] rfl 0 (ci := 8) (r := (RX8, TX8, 35)) rfl rfl) rfl rfl hl.1 rfl (lv_room (Nat.le_of_ble_eq_true rfl)) dX8_lessen_98 ⟨Nat.zero_le _, Nat.zero_le _⟩)) (fun r4 hr4 => ?_)
              subst hr4
              refine q_ifb_eq (b := m_lone pp pa pb (m_h he) md hc (pa k)) (tgt := 114) hx hb dX8_lessen_101 (by decide) (fun c101_5 => ?_) (fun c101_5 => ?_)
              · refine lv_aload_n hx hb dX8_lessen_114 rfl (lv_at hl 1 rfl) ?_
                refine va_get (D := (dC, dI)) (ci := 8) (v := .ref z21) (C := RX8) (T := TX8) (N := 35) hx hb hts uX8 hown hK hP 0 rfl rfl 21 (by decide) (hts _ kfX8_56) (fun _ h9 => h9) rfl dX8_lessen_115 ?_
                refine lv_iload_n hx hb dX8_lessen_118 rfl (lv_at hl 0 rfl) ?_
                refine q_ialdN hx hb hK hP 1 0 rfl rfl (j := k) (by omega) (by omega) dX8_lessen_119 ?_
                have bd6 := hpp k
                refine lv_bipush (v := (nI (32))) hx hb dX8_lessen_120 (by decide) ?_
                refine q_icmp_lt (x := pp k) (y := 32) (tgt := 148) hx hb dX8_lessen_122 (by decide) (by omega) (by omega) (fun c122_7 => ?_) (fun c122_7 => ?_)
                · refine lv_iinc (v := (nI (k + 1))) (lv' := [(1, .int (nI (k + 1))), (0, .ref x0)]) hx hb dX8_lessen_148 hl (k := 0) rfl (q_inc _) (by decide) rfl (fun ls hl => ?_)
                  refine lv_goto (tgt := 83) hx hb dX8_lessen_151 (by decide) ?_
                  exact ih83 (k + 1) ls _ _ (by omega) (show (k + 1) ≤ md from by omega) (show ∀ j, j < (k + 1) → m_nol pp pa pb (m_h he) md hc j from by (exact lt_s hl9 ⟨by assumption, fun h9 => by first | assumption | (exfalso; omega)⟩)) (lv_sub hl [0, 1] rfl) (hP.sub [0, 1, 2, 3, 4] rfl) (hD.sub [0, 1, 2, 3, 4] (by decide) rfl) hS
                · refine lv_aload_n hx hb dX8_lessen_125 rfl (lv_at hl 1 rfl) ?_
                  refine lv_aload_n hx hb dX8_lessen_126 rfl (lv_at hl 1 rfl) ?_
                  refine va_get (D := (dC, dI)) (ci := 8) (v := .ref z23) (C := RX8) (T := TX8) (N := 35) hx hb hts uX8 hown hK hP 0 rfl rfl 23 (by decide) (hts _ kfX8_62) (fun _ h9 => h9) rfl dX8_lessen_127 ?_
                  refine lv_iload_n hx hb dX8_lessen_130 rfl (lv_at hl 0 rfl) ?_
                  refine q_ialdN hx hb hK hP 3 0 rfl rfl (j := k) (by omega) (by omega) dX8_lessen_131 ?_
                  have bd8 := hpb k
                  refine vp_callSi (va_Run.run (va_runV (As := [.int (nI (pb k))]) (rest := []) ⟨hx, hb, hml, hown, hts⟩ (c_Model_isLone l dC dI cI cL cQ cZ x0 ax z1 z2 z3 fc z5 z6 z7 qs z9 z10 z11 z12 z13 hd lg fcn z17 z18 z19 md z21 z22 z23 z24 hc z26 z27 z28 z29 z30 z31 sm z33 z34 pp pa pb he (pb k) (show md ≤ 4 from by first | assumption | omega) (show ∀ j, pp j < 64 from by first | assumption | omega) (show ∀ j, pa j < 18 from by first | assumption | omega) (show ∀ j, pb j < 18 from by first | assumption | omega) (show hc ≤ 2 from by first | assumption | omega) (show (pb k) < 18 from by first | assumption | omega) (show m_hok he hc from by first | assumption | omega)) (q_cwV 1 hts gkX8_isLone kmX8_135 knX8_isLone klX8_isLone kiX8 rfl rfl rfl (by decide +kernel) ⟨Nat.le_of_ble_eq_true rfl, Nat.le_of_ble_eq_true rfl⟩) (q_preV hK hP [0, 1, 2, 3, 4] rfl 0 (ci := 8) (r := (RX8, TX8, 35)) rfl rfl) rfl rfl hl.1 rfl (lv_room (Nat.le_of_ble_eq_true rfl)) dX8_lessen_132 ⟨Nat.zero_le _, Nat.zero_le _⟩)) (fun r9 hr9 => ?_)
                  subst hr9
                  refine q_ifb_eq (b := m_lone pp pa pb (m_h he) md hc (pb k)) (tgt := 148) hx hb dX8_lessen_135 (by decide) (fun c135_10 => ?_) (fun c135_10 => ?_)
                  · refine lv_iinc (v := (nI (k + 1))) (lv' := [(1, .int (nI (k + 1))), (0, .ref x0)]) hx hb dX8_lessen_148 hl (k := 0) rfl (q_inc _) (by decide) rfl (fun ls hl => ?_)
                    refine lv_goto (tgt := 83) hx hb dX8_lessen_151 (by decide) ?_
                    exact ih83 (k + 1) ls _ _ (by omega) (show (k + 1) ≤ md from by omega) (show ∀ j, j < (k + 1) → m_nol pp pa pb (m_h he) md hc j from by (exact lt_s hl9 ⟨by assumption, fun h9 => by first | assumption | (exfalso; omega)⟩)) (lv_sub hl [0, 1] rfl) (hP.sub [0, 1, 2, 3, 4] rfl) (hD.sub [0, 1, 2, 3, 4] (by decide) rfl) hS
                  · refine lv_aload_n hx hb dX8_lessen_138 rfl (lv_at hl 1 rfl) ?_
                    refine va_get (D := (dC, dI)) (ci := 8) (v := .ref z23) (C := RX8) (T := TX8) (N := 35) hx hb hts uX8 hown hK hP 0 rfl rfl 23 (by decide) (hts _ kfX8_62) (fun _ h9 => h9) rfl dX8_lessen_139 ?_
                    refine lv_iload_n hx hb dX8_lessen_142 rfl (lv_at hl 0 rfl) ?_
                    refine lv_bipush (v := (nI (6))) hx hb dX8_lessen_143 (by decide) ?_
                    refine q_iastN hx hb hK hP hD hS 3 0 rfl rfl (j := k) (x := 6) (by omega) (by omega) dX8_lessen_145 (fun H locs hP hD hS => ?_)
                    have hP : va_P (dC, dI) qCl [(x0, .inr (8, mO ax z1 z2 z3 fc z5 z6 z7 qs z9 z10 z11 z12 z13 hd lg fcn z17 z18 z19 md z21 z22 z23 z24 hc z26 z27 z28 z29 z30 z31 sm z33 z34)), (z21, .inl (cI, 4, .inl (nF pp))), (z22, .inl (cI, 4, .inl (nF pa))), (z23, .inl (cI, 4, .inl (nF (va_up pb k 6)))), (z24, .inl (cI, 2, .inl (oF he)))] H := hP
                    have hD : va_D A [(x0, .inr (8, mO ax z1 z2 z3 fc z5 z6 z7 qs z9 z10 z11 z12 z13 hd lg fcn z17 z18 z19 md z21 z22 z23 z24 hc z26 z27 z28 z29 z30 z31 sm z33 z34)), (z21, .inl (cI, 4, .inl (nF pp))), (z22, .inl (cI, 4, .inl (nF pa))), (z23, .inl (cI, 4, .inl (nF (va_up pb k 6)))), (z24, .inl (cI, 2, .inl (oF he)))] := hD
                    refine lv_iconst (v := (nI (1))) hx hb dX8_lessen_146 (by decide) ?_
                    subst hQ
                    subst hAe
                    have hP9 := hP.sub (ws' := [(x0, .inr (8, mO ax z1 z2 z3 fc z5 z6 z7 qs z9 z10 z11 z12 z13 hd lg fcn z17 z18 z19 md z21 z22 z23 z24 hc z26 z27 z28 z29 z30 z31 sm z33 z34)), (z21, .inl (cI, 4, .inl (nF pp))), (z22, .inl (cI, 4, .inl (nF pa))), (z23, .inl (cI, 4, .inl (nF (va_up pb k 6)))), (z24, .inl (cI, 2, .inl (oF he)))]) [0, 1, 2, 3, 4] rfl
                    exact W.zret (v := (nI (1))) hx hb hr (by decide) (fun t9 h9 _ => ⟨⟨(nI (1)), (true, md, pp, pa, va_up pb k 6), rfl, ⟨bI_1 rfl, (show m_less pp pa pb (m_h he) md hc true md pp pa (va_up pb k 6) from by (exact Or.inl ⟨rfl, Or.inr (Or.inr ⟨hnd, k, by omega, by omega, by assumption, rfl, rfl, rfl, rfl⟩)⟩))⟩, by show va_P _ _ _ t9.heap; rw [h9]; exact hP9⟩, hS.F h9⟩) hS.2.2 dX8_lessen_147
              · refine lv_aload_n hx hb dX8_lessen_104 rfl (lv_at hl 1 rfl) ?_
                refine va_get (D := (dC, dI)) (ci := 8) (v := .ref z22) (C := RX8) (T := TX8) (N := 35) hx hb hts uX8 hown hK hP 0 rfl rfl 22 (by decide) (hts _ kfX8_59) (fun _ h9 => h9) rfl dX8_lessen_105 ?_
                refine lv_iload_n hx hb dX8_lessen_108 rfl (lv_at hl 0 rfl) ?_
                refine lv_bipush (v := (nI (6))) hx hb dX8_lessen_109 (by decide) ?_
                refine q_iastN hx hb hK hP hD hS 2 0 rfl rfl (j := k) (x := 6) (by omega) (by omega) dX8_lessen_111 (fun H locs hP hD hS => ?_)
                have hP : va_P (dC, dI) qCl [(x0, .inr (8, mO ax z1 z2 z3 fc z5 z6 z7 qs z9 z10 z11 z12 z13 hd lg fcn z17 z18 z19 md z21 z22 z23 z24 hc z26 z27 z28 z29 z30 z31 sm z33 z34)), (z21, .inl (cI, 4, .inl (nF pp))), (z22, .inl (cI, 4, .inl (nF (va_up pa k 6)))), (z23, .inl (cI, 4, .inl (nF pb))), (z24, .inl (cI, 2, .inl (oF he)))] H := hP
                have hD : va_D A [(x0, .inr (8, mO ax z1 z2 z3 fc z5 z6 z7 qs z9 z10 z11 z12 z13 hd lg fcn z17 z18 z19 md z21 z22 z23 z24 hc z26 z27 z28 z29 z30 z31 sm z33 z34)), (z21, .inl (cI, 4, .inl (nF pp))), (z22, .inl (cI, 4, .inl (nF (va_up pa k 6)))), (z23, .inl (cI, 4, .inl (nF pb))), (z24, .inl (cI, 2, .inl (oF he)))] := hD
                refine lv_iconst (v := (nI (1))) hx hb dX8_lessen_112 (by decide) ?_
                subst hQ
                subst hAe
                have hP9 := hP.sub (ws' := [(x0, .inr (8, mO ax z1 z2 z3 fc z5 z6 z7 qs z9 z10 z11 z12 z13 hd lg fcn z17 z18 z19 md z21 z22 z23 z24 hc z26 z27 z28 z29 z30 z31 sm z33 z34)), (z21, .inl (cI, 4, .inl (nF pp))), (z22, .inl (cI, 4, .inl (nF (va_up pa k 6)))), (z23, .inl (cI, 4, .inl (nF pb))), (z24, .inl (cI, 2, .inl (oF he)))]) [0, 1, 2, 3, 4] rfl
                exact W.zret (v := (nI (1))) hx hb hr (by decide) (fun t9 h9 _ => ⟨⟨(nI (1)), (true, md, pp, va_up pa k 6, pb), rfl, ⟨bI_1 rfl, (show m_less pp pa pb (m_h he) md hc true md pp (va_up pa k 6) pb from by (exact Or.inl ⟨rfl, Or.inr (Or.inl ⟨hnd, k, by omega, by assumption, rfl, rfl, rfl, rfl⟩)⟩))⟩, by show va_P _ _ _ t9.heap; rw [h9]; exact hP9⟩, hS.F h9⟩) hS.2.2 dX8_lessen_113
        exact L83 _ 0 ls _ _ (by exact Nat.lt_succ_self _) (show 0 ≤ md from by omega) (show ∀ j, j < 0 → m_nol pp pa pb (m_h he) md hc j from by (intro j hj; omega)) (lv_sub hl [0, 1] rfl) (hP.sub [0, 1, 2, 3, 4] rfl) (hD.sub [0, 1, 2, 3, 4] (by decide) rfl) hS
      · refine lv_iconst (v := (nI (0))) hx hb dX8_lessen_10 (by decide) ?_
        refine lv_istore_n (lv' := [(2, .int (nI (0))), (1, .int (nI (k))), (0, .ref x0)]) hx hb dX8_lessen_11 rfl hl (by decide) rfl (fun ls hl => ?_)
        have L12 : ∀ (fu : Nat) (i : Nat) (ls : Array Slot) (H : Heap) (locs : List Loc), k - i < fu → (i ≤ k) → (∀ j, j < i → ¬ m_eq pp pa pb j k) → lv_has ls 3 [(2, .int (nI (i))), (1, .int (nI (k))), (0, .ref x0)] → va_P (dC, dI) qCl [(x0, .inr (8, mO ax z1 z2 z3 fc z5 z6 z7 qs z9 z10 z11 z12 z13 hd lg fcn z17 z18 z19 md z21 z22 z23 z24 hc z26 z27 z28 z29 z30 z31 sm z33 z34)), (z21, .inl (cI, 4, .inl (nF pp))), (z22, .inl (cI, 4, .inl (nF pa))), (z23, .inl (cI, 4, .inl (nF pb))), (z24, .inl (cI, 2, .inl (oF he)))] H → va_D A [(x0, .inr (8, mO ax z1 z2 z3 fc z5 z6 z7 qs z9 z10 z11 z12 z13 hd lg fcn z17 z18 z19 md z21 z22 z23 z24 hc z26 z27 z28 z29 z30 z31 sm z33 z34)), (z21, .inl (cI, 4, .inl (nF pp))), (z22, .inl (cI, 4, .inl (nF pa))), (z23, .inl (cI, 4, .inl (nF pb))), (z24, .inl (cI, 2, .inl (oF he)))] → va_S A s.heap H locs → W p l e (headSpec wkX8_lessen rm_c_Model_lessen).room s m args below meth c H locs 0 0 Q (F0 m 12 ls []) := by
          intro fu
          induction fu with
          | zero => intro i ls H locs hmu; exact absurd hmu (Nat.not_lt_zero _)
          | succ fu ih12 =>
            intro i ls H locs hmu hi hj9 hl hP hD hS
            refine lv_iload_n hx hb dX8_lessen_12 rfl (lv_at hl 0 rfl) ?_
            refine lv_iload_n hx hb dX8_lessen_13 rfl (lv_at hl 1 rfl) ?_
            refine q_icmp_ge (x := i) (y := k) (tgt := 75) hx hb dX8_lessen_14 (by decide) (by omega) (by omega) (fun c14_11 => ?_) (fun c14_11 => ?_)
            · refine lv_iinc (v := (nI (k + 1))) (lv' := [(1, .int (nI (k + 1))), (2, .int (nI (i))), (0, .ref x0)]) hx hb dX8_lessen_75 hl (k := 1) rfl (q_inc _) (by decide) rfl (fun ls hl => ?_)
              refine lv_goto (tgt := 2) hx hb dX8_lessen_78 (by decide) ?_
              exact ih2 (k + 1) ls _ _ (by omega) (show (k + 1) ≤ md from by omega) (show m_ndp pp pa pb (k + 1) from by (exact m_ndp_s hn9 (fun j hj => hj9 j (by omega)))) (lv_sub hl [0, 2] rfl) (hP.sub [0, 1, 2, 3, 4] rfl) (hD.sub [0, 1, 2, 3, 4] (by decide) rfl) hS
            · refine lv_aload_n hx hb dX8_lessen_17 rfl (lv_at hl 2 rfl) ?_
              refine va_get (D := (dC, dI)) (ci := 8) (v := .ref z21) (C := RX8) (T := TX8) (N := 35) hx hb hts uX8 hown hK hP 0 rfl rfl 21 (by decide) (hts _ kfX8_56) (fun _ h9 => h9) rfl dX8_lessen_18 ?_
              refine lv_iload_n hx hb dX8_lessen_21 rfl (lv_at hl 0 rfl) ?_
              refine q_ialdN hx hb hK hP 1 0 rfl rfl (j := i) (by omega) (by omega) dX8_lessen_22 ?_
              have bd12 := hpp i
              refine lv_aload_n hx hb dX8_lessen_23 rfl (lv_at hl 2 rfl) ?_
              refine va_get (D := (dC, dI)) (ci := 8) (v := .ref z21) (C := RX8) (T := TX8) (N := 35) hx hb hts uX8 hown hK hP 0 rfl rfl 21 (by decide) (hts _ kfX8_56) (fun _ h9 => h9) rfl dX8_lessen_24 ?_
              refine lv_iload_n hx hb dX8_lessen_27 rfl (lv_at hl 1 rfl) ?_
              refine q_ialdN hx hb hK hP 1 0 rfl rfl (j := k) (by omega) (by omega) dX8_lessen_28 ?_
              have bd13 := hpp k
              refine q_icmp_ne (x := pp i) (y := pp k) (tgt := 69) hx hb dX8_lessen_29 (by decide) (by omega) (by omega) (fun c29_14 => ?_) (fun c29_14 => ?_)
              · refine lv_iinc (v := (nI (i + 1))) (lv' := [(2, .int (nI (i + 1))), (1, .int (nI (k))), (0, .ref x0)]) hx hb dX8_lessen_69 hl (k := 0) rfl (q_inc _) (by decide) rfl (fun ls hl => ?_)
                refine lv_goto (tgt := 12) hx hb dX8_lessen_72 (by decide) ?_
                exact ih12 (i + 1) ls _ _ (by omega) (show (i + 1) ≤ k from by omega) (show ∀ j, j < (i + 1) → ¬ m_eq pp pa pb j k from by (exact lt_s hj9 (fun h9 => by unfold m_eq at h9; omega))) (lv_sub hl [0, 1, 2] rfl) (hP.sub [0, 1, 2, 3, 4] rfl) (hD.sub [0, 1, 2, 3, 4] (by decide) rfl) hS
              · refine lv_aload_n hx hb dX8_lessen_32 rfl (lv_at hl 2 rfl) ?_
                refine va_get (D := (dC, dI)) (ci := 8) (v := .ref z22) (C := RX8) (T := TX8) (N := 35) hx hb hts uX8 hown hK hP 0 rfl rfl 22 (by decide) (hts _ kfX8_59) (fun _ h9 => h9) rfl dX8_lessen_33 ?_
                refine lv_iload_n hx hb dX8_lessen_36 rfl (lv_at hl 0 rfl) ?_
                refine q_ialdN hx hb hK hP 2 0 rfl rfl (j := i) (by omega) (by omega) dX8_lessen_37 ?_
                have bd15 := hpa i
                refine lv_aload_n hx hb dX8_lessen_38 rfl (lv_at hl 2 rfl) ?_
                refine va_get (D := (dC, dI)) (ci := 8) (v := .ref z22) (C := RX8) (T := TX8) (N := 35) hx hb hts uX8 hown hK hP 0 rfl rfl 22 (by decide) (hts _ kfX8_59) (fun _ h9 => h9) rfl dX8_lessen_39 ?_
                refine lv_iload_n hx hb dX8_lessen_42 rfl (lv_at hl 1 rfl) ?_
                refine q_ialdN hx hb hK hP 2 0 rfl rfl (j := k) (by omega) (by omega) dX8_lessen_43 ?_
                have bd16 := hpa k
                refine q_icmp_ne (x := pa i) (y := pa k) (tgt := 69) hx hb dX8_lessen_44 (by decide) (by omega) (by omega) (fun c44_17 => ?_) (fun c44_17 => ?_)
                · refine lv_iinc (v := (nI (i + 1))) (lv' := [(2, .int (nI (i + 1))), (1, .int (nI (k))), (0, .ref x0)]) hx hb dX8_lessen_69 hl (k := 0) rfl (q_inc _) (by decide) rfl (fun ls hl => ?_)
                  refine lv_goto (tgt := 12) hx hb dX8_lessen_72 (by decide) ?_
                  exact ih12 (i + 1) ls _ _ (by omega) (show (i + 1) ≤ k from by omega) (show ∀ j, j < (i + 1) → ¬ m_eq pp pa pb j k from by (exact lt_s hj9 (fun h9 => by unfold m_eq at h9; omega))) (lv_sub hl [0, 1, 2] rfl) (hP.sub [0, 1, 2, 3, 4] rfl) (hD.sub [0, 1, 2, 3, 4] (by decide) rfl) hS
                · refine lv_aload_n hx hb dX8_lessen_47 rfl (lv_at hl 2 rfl) ?_
                  refine va_get (D := (dC, dI)) (ci := 8) (v := .ref z23) (C := RX8) (T := TX8) (N := 35) hx hb hts uX8 hown hK hP 0 rfl rfl 23 (by decide) (hts _ kfX8_62) (fun _ h9 => h9) rfl dX8_lessen_48 ?_
                  refine lv_iload_n hx hb dX8_lessen_51 rfl (lv_at hl 0 rfl) ?_
                  refine q_ialdN hx hb hK hP 3 0 rfl rfl (j := i) (by omega) (by omega) dX8_lessen_52 ?_
                  have bd18 := hpb i
                  refine lv_aload_n hx hb dX8_lessen_53 rfl (lv_at hl 2 rfl) ?_
                  refine va_get (D := (dC, dI)) (ci := 8) (v := .ref z23) (C := RX8) (T := TX8) (N := 35) hx hb hts uX8 hown hK hP 0 rfl rfl 23 (by decide) (hts _ kfX8_62) (fun _ h9 => h9) rfl dX8_lessen_54 ?_
                  refine lv_iload_n hx hb dX8_lessen_57 rfl (lv_at hl 1 rfl) ?_
                  refine q_ialdN hx hb hK hP 3 0 rfl rfl (j := k) (by omega) (by omega) dX8_lessen_58 ?_
                  have bd19 := hpb k
                  refine q_icmp_ne (x := pb i) (y := pb k) (tgt := 69) hx hb dX8_lessen_59 (by decide) (by omega) (by omega) (fun c59_20 => ?_) (fun c59_20 => ?_)
                  · refine lv_iinc (v := (nI (i + 1))) (lv' := [(2, .int (nI (i + 1))), (1, .int (nI (k))), (0, .ref x0)]) hx hb dX8_lessen_69 hl (k := 0) rfl (q_inc _) (by decide) rfl (fun ls hl => ?_)
                    refine lv_goto (tgt := 12) hx hb dX8_lessen_72 (by decide) ?_
                    exact ih12 (i + 1) ls _ _ (by omega) (show (i + 1) ≤ k from by omega) (show ∀ j, j < (i + 1) → ¬ m_eq pp pa pb j k from by (exact lt_s hj9 (fun h9 => by unfold m_eq at h9; omega))) (lv_sub hl [0, 1, 2] rfl) (hP.sub [0, 1, 2, 3, 4] rfl) (hD.sub [0, 1, 2, 3, 4] (by decide) rfl) hS
                  · refine lv_aload_n hx hb dX8_lessen_62 rfl (lv_at hl 2 rfl) ?_
                    refine lv_iload_n hx hb dX8_lessen_63 rfl (lv_at hl 1 rfl) ?_
                    refine q_joinv (wr := [(z24, .inl (cI, 2, .inl (oF he)))]) (va_runV (As := [.int (nI (k))]) (rest := []) ⟨hx, hb, hml, hown, hts⟩ (c_Model_take l dC dI cI cL cQ cZ x0 ax z1 z2 z3 fc z5 z6 z7 qs z9 z10 z11 z12 z13 hd lg fcn z17 z18 z19 md z21 z22 z23 z24 hc z26 z27 z28 z29 z30 z31 sm z33 z34 pp pa pb k (show md ≤ 4 from by first | assumption | omega) (show k < md from by first | assumption | omega)) (q_cwV 1 hts gkX8_take kmX8_131 knX8_take klX8_take kiX8 rfl rfl rfl (by decide +kernel) ⟨Nat.le_of_ble_eq_true rfl, Nat.le_of_ble_eq_true rfl⟩) (q_preVW hK hP hD [0, 1, 2, 3] rfl (by decide) 0 (ci := 8) (r := (RX8, TX8, 35)) rfl rfl) rfl rfl hl.1 rfl (lv_room (Nat.le_of_ble_eq_true rfl)) dX8_lessen_64 ⟨Nat.zero_le _, Nat.zero_le _⟩) hP hD hS [0, 1, 2, 3] [4] rfl rfl (by decide) (fun _ => rfl) (fun _ H locs hq22 hP hD hS => ?_)
                    have hP : va_P (dC, dI) qCl [(z24, .inl (cI, 2, .inl (oF he))), (x0, .inr (8, mO ax z1 z2 z3 fc z5 z6 z7 qs z9 z10 z11 z12 z13 hd lg fcn z17 z18 z19 (md - 1) z21 z22 z23 z24 hc z26 z27 z28 z29 z30 z31 sm z33 z34)), (z21, .inl (cI, 4, .inl (nF (m_dl pp k (md - 1))))), (z22, .inl (cI, 4, .inl (nF (m_dl pa k (md - 1))))), (z23, .inl (cI, 4, .inl (nF (m_dl pb k (md - 1)))))] H := hP
                    have hD : va_D A [(z24, .inl (cI, 2, .inl (oF he))), (x0, .inr (8, mO ax z1 z2 z3 fc z5 z6 z7 qs z9 z10 z11 z12 z13 hd lg fcn z17 z18 z19 (md - 1) z21 z22 z23 z24 hc z26 z27 z28 z29 z30 z31 sm z33 z34)), (z21, .inl (cI, 4, .inl (nF (m_dl pp k (md - 1))))), (z22, .inl (cI, 4, .inl (nF (m_dl pa k (md - 1))))), (z23, .inl (cI, 4, .inl (nF (m_dl pb k (md - 1)))))] := hD
                    refine lv_iconst (v := (nI (1))) hx hb dX8_lessen_67 (by decide) ?_
                    subst hQ
                    subst hAe
                    have hP9 := hP.sub (ws' := [(x0, .inr (8, mO ax z1 z2 z3 fc z5 z6 z7 qs z9 z10 z11 z12 z13 hd lg fcn z17 z18 z19 (md - 1) z21 z22 z23 z24 hc z26 z27 z28 z29 z30 z31 sm z33 z34)), (z21, .inl (cI, 4, .inl (nF (m_dl pp k (md - 1))))), (z22, .inl (cI, 4, .inl (nF (m_dl pa k (md - 1))))), (z23, .inl (cI, 4, .inl (nF (m_dl pb k (md - 1))))), (z24, .inl (cI, 2, .inl (oF he)))]) [1, 2, 3, 4, 0] rfl
                    exact W.zret (v := (nI (1))) hx hb hr (by decide) (fun t9 h9 _ => ⟨⟨(nI (1)), (true, md - 1, m_dl pp k (md - 1), m_dl pa k (md - 1), m_dl pb k (md - 1)), rfl, ⟨bI_1 rfl, (show m_less pp pa pb (m_h he) md hc true (md - 1) (m_dl pp k (md - 1)) (m_dl pa k (md - 1)) (m_dl pb k (md - 1)) from by (exact Or.inl ⟨rfl, Or.inl ⟨i, k, by omega, by omega, by unfold m_eq; omega, rfl, rfl, rfl, rfl⟩⟩))⟩, by show va_P _ _ _ t9.heap; rw [h9]; exact hP9⟩, hS.F h9⟩) hS.2.2 dX8_lessen_68
        exact L12 _ 0 ls _ _ (by exact Nat.lt_succ_self _) (show 0 ≤ k from by omega) (show ∀ j, j < 0 → ¬ m_eq pp pa pb j k from by (intro j hj; omega)) (lv_sub hl [0, 1, 2] rfl) (hP.sub [0, 1, 2, 3, 4] rfl) (hD.sub [0, 1, 2, 3, 4] (by decide) rfl) hS
  exact L2 _ 0 ls _ _ (by exact Nat.lt_succ_self _) (show 0 ≤ md from by omega) (show m_ndp pp pa pb 0 from by (intro a c h1 h2; omega)) (lv_sub hl [0, 1] rfl) (hP.sub [0, 1, 2, 3, 4] rfl) (hD.sub [0, 1, 2, 3, 4] (by decide) rfl) hS
