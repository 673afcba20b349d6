def m_nst (n way : Nat) : Nat → Nat × (Nat → Nat)
  | 0 => (way, fun j => j)
  | i + 1 => ((m_nst n way i).1 / (n - i), m_dl (m_nst n way i).2 ((m_nst n way i).1 % (n - i)) (n - i - 1))
def m_prm (n way i : Nat) : Nat := (m_nst n way i).2 ((m_nst n way i).1 % (n - i))
def m_nds (nd fe : Nat → Nat) (n way : Nat) : Nat → Nat → Nat
  | 0 => nd
  | i + 1 => va_up (m_nds nd fe n way i) (fe i) (2 + m_prm n way i)
def m_nd1 (nd he : Nat → Nat) (hc : Nat) : Nat → Nat := if 1 < hc then va_up (va_up nd 6 6) (he 1) 1 else va_up nd 6 6
def m_nda (nd he : Nat → Nat) (hc : Nat) : Nat → Nat := if 0 < hc then va_up (m_nd1 nd he hc) (he 0) 0 else m_nd1 nd he hc
def m_agr (g f : Nat → Nat) (k : Nat) : Prop := ∀ j, j < k → g j = f j
theorem m_agr_id {g : Nat → Nat} {i : Nat} (h : m_agr g (fun j => j) i) : m_agr (va_up g i i) (fun j => j) (i + 1) := by
  intro j hj
  by_cases hji : j = i
  · rw [hji, up_s]
  · rw [up_n _ _ hji]; exact h j (by omega)
theorem m_nst_le (n way : Nat) : ∀ i, (m_nst n way i).1 ≤ way := by
  intro i
  induction i with
  | zero => exact Nat.le_refl _
  | succ i ih => exact Nat.le_trans (Nat.div_le_self _ _) ih
theorem m_dl_cg {g f : Nat → Nat} {a k : Nat} (h : m_agr g f (k + 1)) : m_agr (m_dl g a k) (m_dl f a k) k := by
  intro j hj
  unfold m_dl
  by_cases h1 : a ≤ j ∧ j < k
  · rw [if_pos h1, if_pos h1]; exact h (j + 1) (by omega)
  · rw [if_neg h1, if_neg h1]; exact h j (by omega)
theorem m_dl_lt {g : Nat → Nat} {a k b : Nat} (h : ∀ j, g j < b) : ∀ j, m_dl g a k j < b := by
  intro j
  unfold m_dl
  split
  · exact h _
  · exact h _
theorem m_nd1_lt {nd he : Nat → Nat} {hc : Nat} (h : ∀ j, nd j < 8) : ∀ j, m_nd1 nd he hc j < 8 := by
  unfold m_nd1
  split
  · exact up_lt (up_lt h (by decide)) (by decide)
  · exact up_lt h (by decide)
abbrev cX8_name : ByteArray := prog_10_method_18_code
def yX8_name : MethodName := ⟨RX8, "name", "(II)V"⟩
def wkX8_name : List Cond := .code yX8_name cX8_name 7 none :: qW
set_option maxRecDepth 40000 in
theorem gkX8_name : GoodIn qW wkX8_name := q_good (qw 761 rfl rfl)
set_option maxRecDepth 40000 in
theorem knX8_name : Cond.instanceMethod yX8_name ∈ qW := qw 760 rfl rfl
set_option maxRecDepth 40000 in
theorem klX8_name : Cond.selects RX8 yX8_name yX8_name ∈ qW := qw 28 rfl rfl
theorem dX8_name_0 : decode cX8_name 0 = .ok (.aload_n 0, 1) := by decide +kernel
theorem dX8_name_1 : decode cX8_name 1 = .ok (.getfield 68, 3) := by decide +kernel
theorem dX8_name_4 : decode cX8_name 4 = .ok (.bipush 6, 2) := by decide +kernel
theorem dX8_name_6 : decode cX8_name 6 = .ok (.bipush 6, 2) := by decide +kernel
theorem dX8_name_8 : decode cX8_name 8 = .ok (.iastore, 1) := by decide +kernel
theorem dX8_name_9 : decode cX8_name 9 = .ok (.aload_n 0, 1) := by decide +kernel
theorem dX8_name_10 : decode cX8_name 10 = .ok (.getfield 118, 3) := by decide +kernel
theorem dX8_name_13 : decode cX8_name 13 = .ok (.iconst 1, 1) := by decide +kernel
theorem dX8_name_14 : decode cX8_name 14 = .ok (.if_icmp .le 15, 3) := by decide +kernel
theorem dX8_name_17 : decode cX8_name 17 = .ok (.aload_n 0, 1) := by decide +kernel
theorem dX8_name_18 : decode cX8_name 18 = .ok (.getfield 68, 3) := by decide +kernel
theorem dX8_name_21 : decode cX8_name 21 = .ok (.aload_n 0, 1) := by decide +kernel
theorem dX8_name_22 : decode cX8_name 22 = .ok (.getfield 65, 3) := by decide +kernel
theorem dX8_name_25 : decode cX8_name 25 = .ok (.iconst 1, 1) := by decide +kernel
theorem dX8_name_26 : decode cX8_name 26 = .ok (.iaload, 1) := by decide +kernel
theorem dX8_name_27 : decode cX8_name 27 = .ok (.iconst 1, 1) := by decide +kernel
theorem dX8_name_28 : decode cX8_name 28 = .ok (.iastore, 1) := by decide +kernel
theorem dX8_name_29 : decode cX8_name 29 = .ok (.aload_n 0, 1) := by decide +kernel
theorem dX8_name_30 : decode cX8_name 30 = .ok (.getfield 118, 3) := by decide +kernel
theorem dX8_name_33 : decode cX8_name 33 = .ok (.ifCond .le 15, 3) := by decide +kernel
theorem dX8_name_36 : decode cX8_name 36 = .ok (.aload_n 0, 1) := by decide +kernel
theorem dX8_name_37 : decode cX8_name 37 = .ok (.getfield 68, 3) := by decide +kernel
theorem dX8_name_40 : decode cX8_name 40 = .ok (.aload_n 0, 1) := by decide +kernel
theorem dX8_name_41 : decode cX8_name 41 = .ok (.getfield 65, 3) := by decide +kernel
theorem dX8_name_44 : decode cX8_name 44 = .ok (.iconst 0, 1) := by decide +kernel
theorem dX8_name_45 : decode cX8_name 45 = .ok (.iaload, 1) := by decide +kernel
theorem dX8_name_46 : decode cX8_name 46 = .ok (.iconst 0, 1) := by decide +kernel
theorem dX8_name_47 : decode cX8_name 47 = .ok (.iastore, 1) := by decide +kernel
theorem dX8_name_48 : decode cX8_name 48 = .ok (.iload_n 2, 1) := by decide +kernel
theorem dX8_name_49 : decode cX8_name 49 = .ok (.istore_n 3, 1) := by decide +kernel
theorem dX8_name_50 : decode cX8_name 50 = .ok (.iconst 0, 1) := by decide +kernel
theorem dX8_name_51 : decode cX8_name 51 = .ok (.istore 4, 2) := by decide +kernel
theorem dX8_name_53 : decode cX8_name 53 = .ok (.iload 4, 2) := by decide +kernel
theorem dX8_name_55 : decode cX8_name 55 = .ok (.iload_n 1, 1) := by decide +kernel
theorem dX8_name_56 : decode cX8_name 56 = .ok (.if_icmp .ge 18, 3) := by decide +kernel
theorem dX8_name_59 : decode cX8_name 59 = .ok (.aload_n 0, 1) := by decide +kernel
theorem dX8_name_60 : decode cX8_name 60 = .ok (.getfield 80, 3) := by decide +kernel
theorem dX8_name_63 : decode cX8_name 63 = .ok (.iload 4, 2) := by decide +kernel
theorem dX8_name_65 : decode cX8_name 65 = .ok (.iload 4, 2) := by decide +kernel
theorem dX8_name_67 : decode cX8_name 67 = .ok (.iastore, 1) := by decide +kernel
theorem dX8_name_68 : decode cX8_name 68 = .ok (.iinc 4 1, 3) := by decide +kernel
theorem dX8_name_71 : decode cX8_name 71 = .ok (.goto (-18), 3) := by decide +kernel
theorem dX8_name_74 : decode cX8_name 74 = .ok (.iconst 0, 1) := by decide +kernel
theorem dX8_name_75 : decode cX8_name 75 = .ok (.istore 4, 2) := by decide +kernel
theorem dX8_name_77 : decode cX8_name 77 = .ok (.iload 4, 2) := by decide +kernel
theorem dX8_name_79 : decode cX8_name 79 = .ok (.iload_n 1, 1) := by decide +kernel
theorem dX8_name_80 : decode cX8_name 80 = .ok (.if_icmp .ge 82, 3) := by decide +kernel
theorem dX8_name_83 : decode cX8_name 83 = .ok (.iload_n 3, 1) := by decide +kernel
theorem dX8_name_84 : decode cX8_name 84 = .ok (.iload_n 1, 1) := by decide +kernel
theorem dX8_name_85 : decode cX8_name 85 = .ok (.iload 4, 2) := by decide +kernel
theorem dX8_name_87 : decode cX8_name 87 = .ok (.isub, 1) := by decide +kernel
theorem dX8_name_88 : decode cX8_name 88 = .ok (.irem, 1) := by decide +kernel
theorem dX8_name_89 : decode cX8_name 89 = .ok (.istore 5, 2) := by decide +kernel
theorem dX8_name_91 : decode cX8_name 91 = .ok (.iload_n 3, 1) := by decide +kernel
theorem dX8_name_92 : decode cX8_name 92 = .ok (.iload_n 1, 1) := by decide +kernel
theorem dX8_name_93 : decode cX8_name 93 = .ok (.iload 4, 2) := by decide +kernel
theorem dX8_name_95 : decode cX8_name 95 = .ok (.isub, 1) := by decide +kernel
theorem dX8_name_96 : decode cX8_name 96 = .ok (.idiv, 1) := by decide +kernel
theorem dX8_name_97 : decode cX8_name 97 = .ok (.istore_n 3, 1) := by decide +kernel
theorem dX8_name_98 : decode cX8_name 98 = .ok (.aload_n 0, 1) := by decide +kernel
theorem dX8_name_99 : decode cX8_name 99 = .ok (.getfield 68, 3) := by decide +kernel
theorem dX8_name_102 : decode cX8_name 102 = .ok (.aload_n 0, 1) := by decide +kernel
theorem dX8_name_103 : decode cX8_name 103 = .ok (.getfield 77, 3) := by decide +kernel
theorem dX8_name_106 : decode cX8_name 106 = .ok (.iload 4, 2) := by decide +kernel
theorem dX8_name_108 : decode cX8_name 108 = .ok (.iaload, 1) := by decide +kernel
theorem dX8_name_109 : decode cX8_name 109 = .ok (.iconst 2, 1) := by decide +kernel
theorem dX8_name_110 : decode cX8_name 110 = .ok (.aload_n 0, 1) := by decide +kernel
theorem dX8_name_111 : decode cX8_name 111 = .ok (.getfield 80, 3) := by decide +kernel
theorem dX8_name_114 : decode cX8_name 114 = .ok (.iload 5, 2) := by decide +kernel
theorem dX8_name_116 : decode cX8_name 116 = .ok (.iaload, 1) := by decide +kernel
theorem dX8_name_117 : decode cX8_name 117 = .ok (.iadd, 1) := by decide +kernel
theorem dX8_name_118 : decode cX8_name 118 = .ok (.iastore, 1) := by decide +kernel
theorem dX8_name_119 : decode cX8_name 119 = .ok (.iload 5, 2) := by decide +kernel
theorem dX8_name_121 : decode cX8_name 121 = .ok (.istore 6, 2) := by decide +kernel
theorem dX8_name_123 : decode cX8_name 123 = .ok (.iload 6, 2) := by decide +kernel
theorem dX8_name_125 : decode cX8_name 125 = .ok (.iconst 1, 1) := by decide +kernel
theorem dX8_name_126 : decode cX8_name 126 = .ok (.iadd, 1) := by decide +kernel
theorem dX8_name_127 : decode cX8_name 127 = .ok (.iload_n 1, 1) := by decide +kernel
theorem dX8_name_128 : decode cX8_name 128 = .ok (.iload 4, 2) := by decide +kernel
theorem dX8_name_130 : decode cX8_name 130 = .ok (.isub, 1) := by decide +kernel
theorem dX8_name_131 : decode cX8_name 131 = .ok (.if_icmp .ge 25, 3) := by decide +kernel
theorem dX8_name_134 : decode cX8_name 134 = .ok (.aload_n 0, 1) := by decide +kernel
theorem dX8_name_135 : decode cX8_name 135 = .ok (.getfield 80, 3) := by decide +kernel
theorem dX8_name_138 : decode cX8_name 138 = .ok (.iload 6, 2) := by decide +kernel
theorem dX8_name_140 : decode cX8_name 140 = .ok (.aload_n 0, 1) := by decide +kernel
theorem dX8_name_141 : decode cX8_name 141 = .ok (.getfield 80, 3) := by decide +kernel
theorem dX8_name_144 : decode cX8_name 144 = .ok (.iload 6, 2) := by decide +kernel
theorem dX8_name_146 : decode cX8_name 146 = .ok (.iconst 1, 1) := by decide +kernel
theorem dX8_name_147 : decode cX8_name 147 = .ok (.iadd, 1) := by decide +kernel
theorem dX8_name_148 : decode cX8_name 148 = .ok (.iaload, 1) := by decide +kernel
theorem dX8_name_149 : decode cX8_name 149 = .ok (.iastore, 1) := by decide +kernel
theorem dX8_name_150 : decode cX8_name 150 = .ok (.iinc 6 1, 3) := by decide +kernel
theorem dX8_name_153 : decode cX8_name 153 = .ok (.goto (-30), 3) := by decide +kernel
theorem dX8_name_156 : decode cX8_name 156 = .ok (.iinc 4 1, 3) := by decide +kernel
theorem dX8_name_159 : decode cX8_name 159 = .ok (.goto (-82), 3) := by decide +kernel
theorem dX8_name_162 : decode cX8_name 162 = .ok (.return_, 1) := by decide +kernel
set_option maxRecDepth 40000 in
theorem kfX8_80 : Cond.fieldLink RX8 80 "QlRewriteModel" "places" "[I" ∈ qW := qw 600 rfl rfl
abbrev rm_c_Model_name : Room := { frames := 0, cells := 0, slots := 0, locals := 0 }
set_option maxHeartbeats 4000000 in
set_option maxRecDepth 100000 in
theorem c_Model_name (l : Launch) (dC : Nat → ClassId) (dI : Nat → Nat → Nat) (cI cL cQ cZ : ClassId) (x0 : Nat) (ax : Nat) (z1 : Nat) (z2 : Nat) (z3 : Nat) (fc : Nat) (z5 : Nat) (z6 : Nat) (z7 : Nat) (qs : Nat) (z9 : Nat) (z10 : Nat) (z11 : Nat) (z12 : Nat) (z13 : Nat) (hd : Option Nat) (lg : Bool) (fcn : Nat) (z17 : Nat) (z18 : Nat) (z19 : Nat) (md : Nat) (z21 : Nat) (z22 : Nat) (z23 : Nat) (z24 : Nat) (hc : Nat) (z26 : Nat) (z27 : Nat) (z28 : Nat) (z29 : Nat) (z30 : Nat) (z31 : Nat) (sm : Bool) (z33 : Nat) (z34 : Nat) (nd : Nat → Nat) (he : Nat → Option Nat) (fe : Nat → Nat) (pk : Nat → Nat) (n : Nat) (wy : Nat) (hn : n ≤ 4) (hwy : wy < 24) (hhc : hc ≤ 2) (hhe : m_hok he hc) (hfe : ∀ j7, fe j7 < 18) (hpk : ∀ j7, pk j7 < 4) (hnd : ∀ j7, nd j7 < 8) : Met l yX8_name wkX8_name rm_c_Model_name (q_W (dC, dI) qCl (qT cI cL cQ cZ) [(x0, .inr (8, mO ax z1 z2 z3 fc z5 z6 z7 qs z9 z10 z11 z12 z13 hd lg fcn z17 z18 z19 md z21 z22 z23 z24 hc z26 z27 z28 z29 z30 z31 sm z33 z34)), (z26, .inl (cI, 18, .inl (nF nd))), (z24, .inl (cI, 2, .inl (oF he))), (z29, .inl (cI, 4, .inl (nF fe))), (z30, .inl (cI, 4, .inl (nF pk)))] [.ref x0, .int (nI (n)), .int (nI (wy))]) (va_Qv (fun (u : (Nat → Nat) × (Nat → Nat)) => (∀ j7, u.1 j7 < 8) ∧ (∀ j7, u.2 j7 < 4) ∧ (u.1 = m_nds (m_nda nd (m_h he) hc) fe n wy n)) (fun (u : (Nat → Nat) × (Nat → Nat)) t => va_P (dC, dI) qCl [(x0, .inr (8, mO ax z1 z2 z3 fc z5 z6 z7 qs z9 z10 z11 z12 z13 hd lg fcn z17 z18 z19 md z21 z22 z23 z24 hc z26 z27 z28 z29 z30 z31 sm z33 z34)), (z26, .inl (cI, 18, .inl (nF u.1))), (z24, .inl (cI, 2, .inl (oF he))), (z29, .inl (cI, 4, .inl (nF fe))), (z30, .inl (cI, 4, .inl (nF u.2)))] t.heap) (q_A [(x0, .inr (8, mO ax z1 z2 z3 fc z5 z6 z7 qs z9 z10 z11 z12 z13 hd lg fcn z17 z18 z19 md z21 z22 z23 z24 hc z26 z27 z28 z29 z30 z31 sm z33 z34)), (z26, .inl (cI, 18, .inl (nF nd))), (z24, .inl (cI, 2, .inl (oF he))), (z29, .inl (cI, 4, .inl (nF fe))), (z30, .inl (cI, 4, .inl (nF pk)))])) 0 0 (q_A [(x0, .inr (8, mO ax z1 z2 z3 fc z5 z6 z7 qs z9 z10 z11 z12 z13 hd lg fcn z17 z18 z19 md z21 z22 z23 z24 hc z26 z27 z28 z29 z30 z31 sm z33 z34)), (z26, .inl (cI, 18, .inl (nF nd))), (z24, .inl (cI, 2, .inl (oF he))), (z29, .inl (cI, 4, .inl (nF fe))), (z30, .inl (cI, 4, .inl (nF pk)))]) := by
  refine Met.ofW (cc := cX8_name) (maxL := 7) (ret := none) (by decide) rfl ?_
  intro p e s m args below meth c s₁ B hml hv
  obtain ⟨hargs, hP, hK, hD0⟩ := hv
  have hx := B.exec
  have hb := B.bytes
  have hr := B.returns
  have hts : ∀ w ∈ qW, w.before args s = true := fun w h => atoms_spec (ws := wkX8_name) B.pre w (List.mem_cons_of_mem _ h)
  have hown : s.vm.findClass RX8 = some m.cls := findClass_of_methodNamed B.named
  have hlocks := B.notSynchronized
  refine q_named (fun Q hQ => ?_)
  have hD : va_D (q_A [(x0, .inr (8, mO ax z1 z2 z3 fc z5 z6 z7 qs z9 z10 z11 z12 z13 hd lg fcn z17 z18 z19 md z21 z22 z23 z24 hc z26 z27 z28 z29 z30 z31 sm z33 z34)), (z26, .inl (cI, 18, .inl (nF nd))), (z24, .inl (cI, 2, .inl (oF he))), (z29, .inl (cI, 4, .inl (nF fe))), (z30, .inl (cI, 4, .inl (nF pk)))]) [(x0, .inr (8, mO ax z1 z2 z3 fc z5 z6 z7 qs z9 z10 z11 z12 z13 hd lg fcn z17 z18 z19 md z21 z22 z23 z24 hc z26 z27 z28 z29 z30 z31 sm z33 z34)), (z26, .inl (cI, 18, .inl (nF nd))), (z24, .inl (cI, 2, .inl (oF he))), (z29, .inl (cI, 4, .inl (nF fe))), (z30, .inl (cI, 4, .inl (nF pk)))] := ⟨hD0.1, fun k q h => ⟨k, q.2, h⟩⟩
  generalize hAe : q_A [(x0, .inr (8, mO ax z1 z2 z3 fc z5 z6 z7 qs z9 z10 z11 z12 z13 hd lg fcn z17 z18 z19 md z21 z22 z23 z24 hc z26 z27 z28 z29 z30 z31 sm z33 z34)), (z26, .inl (cI, 18, .inl (nF nd))), (z24, .inl (cI, 2, .inl (oF he))), (z29, .inl (cI, 4, .inl (nF fe))), (z30, .inl (cI, 4, .inl (nF pk)))] = A at hD
  have hS : va_S A s.heap s.heap [] := va_S.rf
  refine q_entry hargs (Nat.le_of_ble_eq_true rfl) (fun ls hl => ?_)
  have hl : lv_has ls 7 [(0, .ref x0), (1, .int (nI (n))), (2, .int (nI (wy)))] := hl
  obtain ⟨H, locs, eH, eL⟩ : ∃ (H : Heap) (locs : List Loc), s.heap = H ∧ ([] : List Loc) = locs := ⟨_, _, rfl, rfl⟩
  have hS : va_S A s.heap H locs := by rw [← eH, ← eL]; exact hS
  have hP : va_P (dC, dI) qCl [(x0, .inr (8, mO ax z1 z2 z3 fc z5 z6 z7 qs z9 z10 z11 z12 z13 hd lg fcn z17 z18 z19 md z21 z22 z23 z24 hc z26 z27 z28 z29 z30 z31 sm z33 z34)), (z26, .inl (cI, 18, .inl (nF nd))), (z24, .inl (cI, 2, .inl (oF he))), (z29, .inl (cI, 4, .inl (nF fe))), (z30, .inl (cI, 4, .inl (nF pk)))] H := by rw [← eH]; exact hP
  refine W_at eH eL ?_
  refine lv_aload_n hx hb dX8_name_0 rfl (lv_at hl 0 rfl) ?_
  refine va_get (D := (dC, dI)) (ci := 8) (v := .ref z26) (C := RX8) (T := TX8) (N := 35) hx hb hts uX8 hown hK hP 0 rfl rfl 26 (by decide) (hts _ kfX8_68) (fun _ h9 => h9) rfl dX8_name_1 ?_
  refine lv_bipush (v := (nI (6))) hx hb dX8_name_4 (by decide) ?_
  refine lv_bipush (v := (nI (6))) hx hb dX8_name_6 (by decide) ?_
  refine q_iastN hx hb hK hP hD hS 1 0 rfl rfl (j := 6) (x := 6) (by omega) (by omega) dX8_name_8 (fun H locs hP hD hS => ?_)
  have hP : va_P (dC, dI) qCl [(x0, .inr (8, mO ax z1 z2 z3 fc z5 z6 z7 qs z9 z10 z11 z12 z13 hd lg fcn z17 z18 z19 md z21 z22 z23 z24 hc z26 z27 z28 z29 z30 z31 sm z33 z34)), (z26, .inl (cI, 18, .inl (nF (va_up nd 6 6)))), (z24, .inl (cI, 2, .inl (oF he))), (z29, .inl (cI, 4, .inl (nF fe))), (z30, .inl (cI, 4, .inl (nF pk)))] H := hP
  have hD : va_D A [(x0, .inr (8, mO ax z1 z2 z3 fc z5 z6 z7 qs z9 z10 z11 z12 z13 hd lg fcn z17 z18 z19 md z21 z22 z23 z24 hc z26 z27 z28 z29 z30 z31 sm z33 z34)), (z26, .inl (cI, 18, .inl (nF (va_up nd 6 6)))), (z24, .inl (cI, 2, .inl (oF he))), (z29, .inl (cI, 4, .inl (nF fe))), (z30, .inl (cI, 4, .inl (nF pk)))] := hD
  have L29 : ∀ (na : Nat → Nat) (ls : Array Slot) (H : Heap) (locs : List Loc), (na = m_nd1 nd (m_h he) hc) → lv_has ls 7 [(0, .ref x0), (1, .int (nI (n))), (2, .int (nI (wy)))] → va_P (dC, dI) qCl [(x0, .inr (8, mO ax z1 z2 z3 fc z5 z6 z7 qs z9 z10 z11 z12 z13 hd lg fcn z17 z18 z19 md z21 z22 z23 z24 hc z26 z27 z28 z29 z30 z31 sm z33 z34)), (z26, .inl (cI, 18, .inl (nF na))), (z24, .inl (cI, 2, .inl (oF he))), (z29, .inl (cI, 4, .inl (nF fe))), (z30, .inl (cI, 4, .inl (nF pk)))] H → va_D A [(x0, .inr (8, mO ax z1 z2 z3 fc z5 z6 z7 qs z9 z10 z11 z12 z13 hd lg fcn z17 z18 z19 md z21 z22 z23 z24 hc z26 z27 z28 z29 z30 z31 sm z33 z34)), (z26, .inl (cI, 18, .inl (nF na))), (z24, .inl (cI, 2, .inl (oF he))), (z29, .inl (cI, 4, .inl (nF fe))), (z30, .inl (cI, 4, .inl (nF pk)))] → va_S A s.heap H locs → W p l e (headSpec wkX8_name rm_c_Model_name).room s m args below meth c H locs 0 0 Q (F0 m 29 ls []) := by
    intro na ls H locs hna hl hP hD hS
    have L48 : ∀ (nb : Nat → Nat) (ls : Array Slot) (H : Heap) (locs : List Loc), (nb = m_nda nd (m_h he) hc) → (∀ j7, nb j7 < 8) → lv_has ls 7 [(0, .ref x0), (1, .int (nI (n))), (2, .int (nI (wy)))] → va_P (dC, dI) qCl [(x0, .inr (8, mO ax z1 z2 z3 fc z5 z6 z7 qs z9 z10 z11 z12 z13 hd lg fcn z17 z18 z19 md z21 z22 z23 z24 hc z26 z27 z28 z29 z30 z31 sm z33 z34)), (z26, .inl (cI, 18, .inl (nF nb))), (z24, .inl (cI, 2, .inl (oF he))), (z29, .inl (cI, 4, .inl (nF fe))), (z30, .inl (cI, 4, .inl (nF pk)))] H → va_D A [(x0, .inr (8, mO ax z1 z2 z3 fc z5 z6 z7 qs z9 z10 z11 z12 z13 hd lg fcn z17 z18 z19 md z21 z22 z23 z24 hc z26 z27 z28 z29 z30 z31 sm z33 z34)), (z26, .inl (cI, 18, .inl (nF nb))), (z24, .inl (cI, 2, .inl (oF he))), (z29, .inl (cI, 4, .inl (nF fe))), (z30, .inl (cI, 4, .inl (nF pk)))] → va_S A s.heap H locs → W p l e (headSpec wkX8_name rm_c_Model_name).room s m args below meth c H locs 0 0 Q (F0 m 48 ls []) := by
      intro nb ls H locs hnb hnbb hl hP hD hS
      refine lv_iload_n hx hb dX8_name_48 rfl (lv_at hl 2 rfl) ?_
      refine lv_istore_n (lv' := [(3, .int (nI (wy))), (0, .ref x0), (1, .int (nI (n))), (2, .int (nI (wy)))]) hx hb dX8_name_49 rfl hl (by decide) rfl (fun ls hl => ?_)
      refine lv_iconst (v := (nI (0))) hx hb dX8_name_50 (by decide) ?_
      refine lv_istore (lv' := [(4, .int (nI (0))), (3, .int (nI (wy))), (0, .ref x0), (1, .int (nI (n))), (2, .int (nI (wy)))]) hx hb dX8_name_51 hl (by decide) rfl (fun ls hl => ?_)
      have L53 : ∀ (fu : Nat) (g : Nat → Nat) (i : Nat) (ls : Array Slot) (H : Heap) (locs : List Loc), n - i < fu → (i ≤ n) → (∀ j7, g j7 < 4) → (m_agr g (fun j => j) i) → lv_has ls 7 [(4, .int (nI (i))), (3, .int (nI (wy))), (0, .ref x0), (1, .int (nI (n))), (2, .int (nI (wy)))] → va_P (dC, dI) qCl [(x0, .inr (8, mO ax z1 z2 z3 fc z5 z6 z7 qs z9 z10 z11 z12 z13 hd lg fcn z17 z18 z19 md z21 z22 z23 z24 hc z26 z27 z28 z29 z30 z31 sm z33 z34)), (z26, .inl (cI, 18, .inl (nF nb))), (z24, .inl (cI, 2, .inl (oF he))), (z29, .inl (cI, 4, .inl (nF fe))), (z30, .inl (cI, 4, .inl (nF g)))] H → va_D A [(x0, .inr (8, mO ax z1 z2 z3 fc z5 z6 z7 qs z9 z10 z11 z12 z13 hd lg fcn z17 z18 z19 md z21 z22 z23 z24 hc z26 z27 z28 z29 z30 z31 sm z33 z34)), (z26, .inl (cI, 18, .inl (nF nb))), (z24, .inl (cI, 2, .inl (oF he))), (z29, .inl (cI, 4, .inl (nF fe))), (z30, .inl (cI, 4, .inl (nF g)))] → va_S A s.heap H locs → W p l e (headSpec wkX8_name rm_c_Model_name).room s m args below meth c H locs 0 0 Q (F0 m 53 ls []) := by
        intro fu
        induction fu with
        | zero => intro g i ls H locs hmu; exact absurd hmu (Nat.not_lt_zero _)
        | succ fu ih53 =>
          intro g i ls H locs hmu hi hgb hg hl hP hD hS
          refine lv_iload hx hb dX8_name_53 (lv_at hl 0 rfl) ?_
          refine lv_iload_n hx hb dX8_name_55 rfl (lv_at hl 3 rfl) ?_
          refine q_icmp_ge (x := i) (y := n) (tgt := 74) hx hb dX8_name_56 (by decide) (by omega) (by omega) (fun c56_1 => ?_) (fun c56_1 => ?_)
          · refine lv_iconst (v := (nI (0))) hx hb dX8_name_74 (by decide) ?_
            refine lv_istore (lv' := [(4, .int (nI (0))), (3, .int (nI (wy))), (0, .ref x0), (1, .int (nI (n))), (2, .int (nI (wy)))]) hx hb dX8_name_75 hl (by decide) rfl (fun ls hl => ?_)
            have L77 : ∀ (fu : Nat) (lf9 : Nat) (nc : Nat → Nat) (q : Nat → Nat) (i : Nat) (ls : Array Slot) (H : Heap) (locs : List Loc), n - i < fu → (i ≤ n) → (lf9 = (m_nst n wy i).1) → (∀ j7, nc j7 < 8) → (nc = m_nds (m_nda nd (m_h he) hc) fe n wy i) → (∀ j7, q j7 < 4) → (m_agr q (m_nst n wy i).2 (n - i)) → lv_has ls 7 [(4, .int (nI (i))), (3, .int (nI (lf9))), (0, .ref x0), (1, .int (nI (n))), (2, .int (nI (wy)))] → va_P (dC, dI) qCl [(x0, .inr (8, mO ax z1 z2 z3 fc z5 z6 z7 qs z9 z10 z11 z12 z13 hd lg fcn z17 z18 z19 md z21 z22 z23 z24 hc z26 z27 z28 z29 z30 z31 sm z33 z34)), (z26, .inl (cI, 18, .inl (nF nc))), (z24, .inl (cI, 2, .inl (oF he))), (z29, .inl (cI, 4, .inl (nF fe))), (z30, .inl (cI, 4, .inl (nF q)))] H → va_D A [(x0, .inr (8, mO ax z1 z2 z3 fc z5 z6 z7 qs z9 z10 z11 z12 z13 hd lg fcn z17 z18 z19 md z21 z22 z23 z24 hc z26 z27 z28 z29 z30 z31 sm z33 z34)), (z26, .inl (cI, 18, .inl (nF nc))), (z24, .inl (cI, 2, .inl (oF he))), (z29, .inl (cI, 4, .inl (nF fe))), (z30, .inl (cI, 4, .inl (nF q)))] → va_S A s.heap H locs → W p l e (headSpec wkX8_name rm_c_Model_name).room s m args below meth c H locs 0 0 Q (F0 m 77 ls []) := by
              intro fu
              induction fu with
              | zero => intro lf9 nc q i ls H locs hmu; exact absurd hmu (Nat.not_lt_zero _)
              | succ fu ih77 =>
                intro lf9 nc q i ls H locs hmu hi hlf hncb hnc hqb hq hl hP hD hS
                refine lv_iload hx hb dX8_name_77 (lv_at hl 0 rfl) ?_
                refine lv_iload_n hx hb dX8_name_79 rfl (lv_at hl 3 rfl) ?_
                refine q_icmp_ge (x := i) (y := n) (tgt := 162) hx hb dX8_name_80 (by decide) (by omega) (by omega) (fun c80_2 => ?_) (fun c80_2 => ?_)
                · subst hQ
                  subst hAe
                  have hP9 := hP.sub (ws' := [(x0, .inr (8, mO ax z1 z2 z3 fc z5 z6 z7 qs z9 z10 z11 z12 z13 hd lg fcn z17 z18 z19 md z21 z22 z23 z24 hc z26 z27 z28 z29 z30 z31 sm z33 z34)), (z26, .inl (cI, 18, .inl (nF nc))), (z24, .inl (cI, 2, .inl (oF he))), (z29, .inl (cI, 4, .inl (nF fe))), (z30, .inl (cI, 4, .inl (nF q)))]) [0, 1, 2, 3, 4] rfl
                  exact W.vret hx hb hr (fun t9 h9 _ => ⟨⟨(nc, q), rfl, ⟨(show ∀ j7, nc j7 < 8 from by (exact hncb)), (show ∀ j7, q j7 < 4 from by (exact hqb)), (show nc = m_nds (m_nda nd (m_h he) hc) fe n wy n from by (rw [hnc, show i = n by omega]))⟩, by show va_P _ _ _ t9.heap; rw [h9]; exact hP9⟩, hS.F h9⟩) hS.2.2 dX8_name_162
                · have hle9 : lf9 ≤ wy := (by rw [hlf]; exact m_nst_le n wy i)
                  have hmd9 := Nat.mod_lt lf9 (show 0 < n - i by omega)
                  have hdv9 := Nat.div_le_self lf9 (n - i)
                  refine lv_iload_n hx hb dX8_name_83 rfl (lv_at hl 1 rfl) ?_
                  refine lv_iload_n hx hb dX8_name_84 rfl (lv_at hl 3 rfl) ?_
                  refine lv_iload hx hb dX8_name_85 (lv_at hl 0 rfl) ?_
                  refine q_isub (x := n) (y := i) hx hb (by omega) dX8_name_87 ?_
                  refine q_irem (x := lf9) (y := n - i) hx hb (by omega) (by omega) (by omega) dX8_name_88 ?_
                  refine lv_istore (lv' := [(5, .int (nI (lf9 % (n - i)))), (4, .int (nI (i))), (3, .int (nI (lf9))), (0, .ref x0), (1, .int (nI (n))), (2, .int (nI (wy)))]) hx hb dX8_name_89 hl (by decide) rfl (fun ls hl => ?_)
                  refine lv_iload_n hx hb dX8_name_91 rfl (lv_at hl 2 rfl) ?_
                  refine lv_iload_n hx hb dX8_name_92 rfl (lv_at hl 4 rfl) ?_
                  refine lv_iload hx hb dX8_name_93 (lv_at hl 1 rfl) ?_
                  refine q_isub (x := n) (y := i) hx hb (by omega) dX8_name_95 ?_
                  refine q_idiv (x := lf9) (y := n - i) hx hb (by omega) (by omega) (by omega) dX8_name_96 ?_
                  refine lv_istore_n (lv' := [(3, .int (nI (lf9 / (n - i)))), (5, .int (nI (lf9 % (n - i)))), (4, .int (nI (i))), (0, .ref x0), (1, .int (nI (n))), (2, .int (nI (wy)))]) hx hb dX8_name_97 rfl hl (by decide) rfl (fun ls hl => ?_)
                  refine lv_aload_n hx hb dX8_name_98 rfl (lv_at hl 3 rfl) ?_
                  refine va_get (D := (dC, dI)) (ci := 8) (v := .ref z26) (C := RX8) (T := TX8) (N := 35) hx hb hts uX8 hown hK hP 0 rfl rfl 26 (by decide) (hts _ kfX8_68) (fun _ h9 => h9) rfl dX8_name_99 ?_
                  refine lv_aload_n hx hb dX8_name_102 rfl (lv_at hl 3 rfl) ?_
                  refine va_get (D := (dC, dI)) (ci := 8) (v := .ref z29) (C := RX8) (T := TX8) (N := 35) hx hb hts uX8 hown hK hP 0 rfl rfl 29 (by decide) (hts _ kfX8_77) (fun _ h9 => h9) rfl dX8_name_103 ?_
                  refine lv_iload hx hb dX8_name_106 (lv_at hl 2 rfl) ?_
                  refine q_ialdN hx hb hK hP 3 0 rfl rfl (j := i) (by omega) (by omega) dX8_name_108 ?_
                  have bd3 := hfe i
                  refine lv_iconst (v := (nI (2))) hx hb dX8_name_109 (by decide) ?_
                  refine lv_aload_n hx hb dX8_name_110 rfl (lv_at hl 3 rfl) ?_
                  refine va_get (D := (dC, dI)) (ci := 8) (v := .ref z30) (C := RX8) (T := TX8) (N := 35) hx hb hts uX8 hown hK hP 0 rfl rfl 30 (by decide) (hts _ kfX8_80) (fun _ h9 => h9) rfl dX8_name_111 ?_
                  refine lv_iload hx hb dX8_name_114 (lv_at hl 1 rfl) ?_
                  refine q_ialdN hx hb hK hP 4 0 rfl rfl (j := lf9 % (n - i)) (by omega) (by omega) dX8_name_116 ?_
                  have bd4 := hqb (lf9 % (n - i))
                  refine q_iadd (x := 2) (y := q (lf9 % (n - i))) hx hb dX8_name_117 ?_
                  refine q_iastN hx hb hK hP hD hS 1 0 rfl rfl (j := fe i) (x := 2 + (q (lf9 % (n - i)))) (by omega) (by omega) dX8_name_118 (fun H locs hP hD hS => ?_)
                  have hP : va_P (dC, dI) qCl [(x0, .inr (8, mO ax z1 z2 z3 fc z5 z6 z7 qs z9 z10 z11 z12 z13 hd lg fcn z17 z18 z19 md z21 z22 z23 z24 hc z26 z27 z28 z29 z30 z31 sm z33 z34)), (z26, .inl (cI, 18, .inl (nF (va_up nc (fe i) (2 + (q (lf9 % (n - i)))))))), (z24, .inl (cI, 2, .inl (oF he))), (z29, .inl (cI, 4, .inl (nF fe))), (z30, .inl (cI, 4, .inl (nF q)))] H := hP
                  have hD : va_D A [(x0, .inr (8, mO ax z1 z2 z3 fc z5 z6 z7 qs z9 z10 z11 z12 z13 hd lg fcn z17 z18 z19 md z21 z22 z23 z24 hc z26 z27 z28 z29 z30 z31 sm z33 z34)), (z26, .inl (cI, 18, .inl (nF (va_up nc (fe i) (2 + (q (lf9 % (n - i)))))))), (z24, .inl (cI, 2, .inl (oF he))), (z29, .inl (cI, 4, .inl (nF fe))), (z30, .inl (cI, 4, .inl (nF q)))] := hD
                  refine lv_iload hx hb dX8_name_119 (lv_at hl 1 rfl) ?_
                  refine lv_istore (lv' := [(6, .int (nI (lf9 % (n - i)))), (3, .int (nI (lf9 / (n - i)))), (5, .int (nI (lf9 % (n - i)))), (4, .int (nI (i))), (0, .ref x0), (1, .int (nI (n))), (2, .int (nI (wy)))]) hx hb dX8_name_121 hl (by decide) rfl (fun ls hl => ?_)
                  have L123 : ∀ (fu : Nat) (z : Nat → Nat) (k : Nat) (ls : Array Slot) (H : Heap) (locs : List Loc), n - i - k < fu → (lf9 % (n - i) ≤ k ∧ k ≤ n - i - 1) → (∀ j7, z j7 < 4) → (z = m_dl q (lf9 % (n - i)) k) → lv_has ls 7 [(6, .int (nI (k))), (3, .int (nI (lf9 / (n - i)))), (5, .int (nI (lf9 % (n - i)))), (4, .int (nI (i))), (0, .ref x0), (1, .int (nI (n))), (2, .int (nI (wy)))] → va_P (dC, dI) qCl [(x0, .inr (8, mO ax z1 z2 z3 fc z5 z6 z7 qs z9 z10 z11 z12 z13 hd lg fcn z17 z18 z19 md z21 z22 z23 z24 hc z26 z27 z28 z29 z30 z31 sm z33 z34)), (z26, .inl (cI, 18, .inl (nF (va_up nc (fe i) (2 + (q (lf9 % (n - i)))))))), (z24, .inl (cI, 2, .inl (oF he))), (z29, .inl (cI, 4, .inl (nF fe))), (z30, .inl (cI, 4, .inl (nF z)))] H → va_D A [(x0, .inr (8, mO ax z1 z2 z3 fc z5 z6 z7 qs z9 z10 z11 z12 z13 hd lg fcn z17 z18 z19 md z21 z22 z23 z24 hc z26 z27 z28 z29 z30 z31 sm z33 z34)), (z26, .inl (cI, 18, .inl (nF (va_up nc (fe i) (2 + (q (lf9 % (n - i)))))))), (z24, .inl (cI, 2, .inl (oF he))), (z29, .inl (cI, 4, .inl (nF fe))), (z30, .inl (cI, 4, .inl (nF z)))] → va_S A s.heap H locs → W p l e (headSpec wkX8_name rm_c_Model_name).room s m args below meth c H locs 0 0 Q (F0 m 123 ls []) := by
                    intro fu
                    induction fu with
                    | zero => intro z k ls H locs hmu; exact absurd hmu (Nat.not_lt_zero _)
                    | succ fu ih123 =>
                      intro z k ls H locs hmu hk hzb hz hl hP hD hS
                      refine lv_iload hx hb dX8_name_123 (lv_at hl 0 rfl) ?_
                      refine lv_iconst (v := (nI (1))) hx hb dX8_name_125 (by decide) ?_
                      refine q_iadd (x := k) (y := 1) hx hb dX8_name_126 ?_
                      refine lv_iload_n hx hb dX8_name_127 rfl (lv_at hl 5 rfl) ?_
                      refine lv_iload hx hb dX8_name_128 (lv_at hl 3 rfl) ?_
                      refine q_isub (x := n) (y := i) hx hb (by omega) dX8_name_130 ?_
                      refine q_icmp_ge (x := k + 1) (y := n - i) (tgt := 156) hx hb dX8_name_131 (by decide) (by omega) (by omega) (fun c131_5 => ?_) (fun c131_5 => ?_)
                      · refine lv_iinc (v := (nI (i + 1))) (lv' := [(4, .int (nI (i + 1))), (6, .int (nI (k))), (3, .int (nI (lf9 / (n - i)))), (5, .int (nI (lf9 % (n - i)))), (0, .ref x0), (1, .int (nI (n))), (2, .int (nI (wy)))]) hx hb dX8_name_156 hl (k := 3) rfl (q_inc _) (by decide) rfl (fun ls hl => ?_)
                        refine lv_goto (tgt := 77) hx hb dX8_name_159 (by decide) ?_
                        exact ih77 (lf9 / (n - i)) (va_up nc (fe i) (2 + (q (lf9 % (n - i))))) z (i + 1) ls _ _ (by omega) (show (i + 1) ≤ n from by omega) (show (lf9 / (n - i)) = (m_nst n wy (i + 1)).1 from by (rw [hlf]; rfl)) (show ∀ j7, (va_up nc (fe i) (2 + (q (lf9 % (n - i))))) j7 < 8 from by (exact up_lt hncb (by omega))) (show (va_up nc (fe i) (2 + (q (lf9 % (n - i))))) = m_nds (m_nda nd (m_h he) hc) fe n wy (i + 1) from by (rw [m_nds, ← hnc, m_prm, ← hlf, ← hq _ (by omega)])) (show ∀ j7, z j7 < 4 from by (exact hzb)) (show m_agr z (m_nst n wy (i + 1)).2 (n - (i + 1)) from by (rw [hz, show k = n - i - 1 by omega, show n - (i + 1) = n - i - 1 by omega, m_nst, ← hlf]; exact m_dl_cg (by rw [show n - i - 1 + 1 = n - i by omega]; exact hq))) (lv_sub hl [0, 2, 4, 5, 6] rfl) (hP.sub [0, 1, 2, 3, 4] rfl) (hD.sub [0, 1, 2, 3, 4] (by decide) rfl) hS
                      · refine lv_aload_n hx hb dX8_name_134 rfl (lv_at hl 4 rfl) ?_
                        refine va_get (D := (dC, dI)) (ci := 8) (v := .ref z30) (C := RX8) (T := TX8) (N := 35) hx hb hts uX8 hown hK hP 0 rfl rfl 30 (by decide) (hts _ kfX8_80) (fun _ h9 => h9) rfl dX8_name_135 ?_
                        refine lv_iload hx hb dX8_name_138 (lv_at hl 0 rfl) ?_
                        refine lv_aload_n hx hb dX8_name_140 rfl (lv_at hl 4 rfl) ?_
                        refine va_get (D := (dC, dI)) (ci := 8) (v := .ref z30) (C := RX8) (T := TX8) (N := 35) hx hb hts uX8 hown hK hP 0 rfl rfl 30 (by decide) (hts _ kfX8_80) (fun _ h9 => h9) rfl dX8_name_141 ?_
                        refine lv_iload hx hb dX8_name_144 (lv_at hl 0 rfl) ?_
                        refine lv_iconst (v := (nI (1))) hx hb dX8_name_146 (by decide) ?_
                        refine q_iadd (x := k) (y := 1) hx hb dX8_name_147 ?_
                        refine q_ialdN hx hb hK hP 4 0 rfl rfl (j := k + 1) (by omega) (by omega) dX8_name_148 ?_
                        refine q_iastN hx hb hK hP hD hS 4 0 rfl rfl (j := k) (x := z (k + 1)) (by omega) (by omega) dX8_name_149 (fun H locs hP hD hS => ?_)
                        have hP : va_P (dC, dI) qCl [(x0, .inr (8, mO ax z1 z2 z3 fc z5 z6 z7 qs z9 z10 z11 z12 z13 hd lg fcn z17 z18 z19 md z21 z22 z23 z24 hc z26 z27 z28 z29 z30 z31 sm z33 z34)), (z26, .inl (cI, 18, .inl (nF (va_up nc (fe i) (2 + (q (lf9 % (n - i)))))))), (z24, .inl (cI, 2, .inl (oF he))), (z29, .inl (cI, 4, .inl (nF fe))), (z30, .inl (cI, 4, .inl (nF (va_up z k (z (k + 1))))))] H := hP
                        have hD : va_D A [(x0, .inr (8, mO ax z1 z2 z3 fc z5 z6 z7 qs z9 z10 z11 z12 z13 hd lg fcn z17 z18 z19 md z21 z22 z23 z24 hc z26 z27 z28 z29 z30 z31 sm z33 z34)), (z26, .inl (cI, 18, .inl (nF (va_up nc (fe i) (2 + (q (lf9 % (n - i)))))))), (z24, .inl (cI, 2, .inl (oF he))), (z29, .inl (cI, 4, .inl (nF fe))), (z30, .inl (cI, 4, .inl (nF (va_up z k (z (k + 1))))))] := hD
                        refine lv_iinc (v := (nI (k + 1))) (lv' := [(6, .int (nI (k + 1))), (3, .int (nI (lf9 / (n - i)))), (5, .int (nI (lf9 % (n - i)))), (4, .int (nI (i))), (0, .ref x0), (1, .int (nI (n))), (2, .int (nI (wy)))]) hx hb dX8_name_150 hl (k := 0) rfl (q_inc _) (by decide) rfl (fun ls hl => ?_)
                        refine lv_goto (tgt := 123) hx hb dX8_name_153 (by decide) ?_
                        exact ih123 (va_up z k (z (k + 1))) (k + 1) ls _ _ (by omega) (show lf9 % (n - i) ≤ (k + 1) ∧ (k + 1) ≤ n - i - 1 from by (omega)) (show ∀ j7, (va_up z k (z (k + 1))) j7 < 4 from by (exact up_lt hzb (hzb _))) (show (va_up z k (z (k + 1))) = m_dl q (lf9 % (n - i)) (k + 1) from by (rw [hz]; exact m_dl_s (by omega))) (lv_sub hl [0, 1, 2, 3, 4, 5, 6] rfl) (hP.sub [0, 1, 2, 3, 4] rfl) (hD.sub [0, 1, 2, 3, 4] (by decide) rfl) hS
                  exact L123 _ q (lf9 % (n - i)) ls _ _ (by exact Nat.lt_succ_self _) (show lf9 % (n - i) ≤ (lf9 % (n - i)) ∧ (lf9 % (n - i)) ≤ n - i - 1 from by (omega)) (show ∀ j7, q j7 < 4 from by (exact hqb)) (show q = m_dl q (lf9 % (n - i)) (lf9 % (n - i)) from by (exact (m_dl_0 _ _).symm)) (lv_sub hl [0, 1, 2, 3, 4, 5, 6] rfl) (hP.sub [0, 1, 2, 3, 4] rfl) (hD.sub [0, 1, 2, 3, 4] (by decide) rfl) hS
            exact L77 _ wy nb g 0 ls _ _ (by exact Nat.lt_succ_self _) (show 0 ≤ n from by omega) (show wy = (m_nst n wy 0).1 from by rfl) (show ∀ j7, nb j7 < 8 from by (exact hnbb)) (show nb = m_nds (m_nda nd (m_h he) hc) fe n wy 0 from by (rw [hnb]; rfl)) (show ∀ j7, g j7 < 4 from by (exact hgb)) (show m_agr g (m_nst n wy 0).2 (n - 0) from by (rw [show n - 0 = i by omega]; exact hg)) (lv_sub hl [0, 1, 2, 3, 4] rfl) (hP.sub [0, 1, 2, 3, 4] rfl) (hD.sub [0, 1, 2, 3, 4] (by decide) rfl) hS
          · refine lv_aload_n hx hb dX8_name_59 rfl (lv_at hl 2 rfl) ?_
            refine va_get (D := (dC, dI)) (ci := 8) (v := .ref z30) (C := RX8) (T := TX8) (N := 35) hx hb hts uX8 hown hK hP 0 rfl rfl 30 (by decide) (hts _ kfX8_80) (fun _ h9 => h9) rfl dX8_name_60 ?_
            refine lv_iload hx hb dX8_name_63 (lv_at hl 0 rfl) ?_
            refine lv_iload hx hb dX8_name_65 (lv_at hl 0 rfl) ?_
            refine q_iastN hx hb hK hP hD hS 4 0 rfl rfl (j := i) (x := i) (by omega) (by omega) dX8_name_67 (fun H locs hP hD hS => ?_)
            have hP : va_P (dC, dI) qCl [(x0, .inr (8, mO ax z1 z2 z3 fc z5 z6 z7 qs z9 z10 z11 z12 z13 hd lg fcn z17 z18 z19 md z21 z22 z23 z24 hc z26 z27 z28 z29 z30 z31 sm z33 z34)), (z26, .inl (cI, 18, .inl (nF nb))), (z24, .inl (cI, 2, .inl (oF he))), (z29, .inl (cI, 4, .inl (nF fe))), (z30, .inl (cI, 4, .inl (nF (va_up g i i))))] H := hP
            have hD : va_D A [(x0, .inr (8, mO ax z1 z2 z3 fc z5 z6 z7 qs z9 z10 z11 z12 z13 hd lg fcn z17 z18 z19 md z21 z22 z23 z24 hc z26 z27 z28 z29 z30 z31 sm z33 z34)), (z26, .inl (cI, 18, .inl (nF nb))), (z24, .inl (cI, 2, .inl (oF he))), (z29, .inl (cI, 4, .inl (nF fe))), (z30, .inl (cI, 4, .inl (nF (va_up g i i))))] := hD
            refine lv_iinc (v := (nI (i + 1))) (lv' := [(4, .int (nI (i + 1))), (3, .int (nI (wy))), (0, .ref x0), (1, .int (nI (n))), (2, .int (nI (wy)))]) hx hb dX8_name_68 hl (k := 0) rfl (q_inc _) (by decide) rfl (fun ls hl => ?_)
            refine lv_goto (tgt := 53) hx hb dX8_name_71 (by decide) ?_
            exact ih53 (va_up g i i) (i + 1) ls _ _ (by omega) (show (i + 1) ≤ n from by omega) (show ∀ j7, (va_up g i i) j7 < 4 from by (exact up_lt hgb (by omega))) (show m_agr (va_up g i i) (fun j => j) (i + 1) from by (exact m_agr_id hg)) (lv_sub hl [0, 1, 2, 3, 4] rfl) (hP.sub [0, 1, 2, 3, 4] rfl) (hD.sub [0, 1, 2, 3, 4] (by decide) rfl) hS
      exact L53 _ pk 0 ls _ _ (by exact Nat.lt_succ_self _) (show 0 ≤ n from by omega) (show ∀ j7, pk j7 < 4 from by (exact hpk)) (show m_agr pk (fun j => j) 0 from by (intro j hj; omega)) (lv_sub hl [0, 1, 2, 3, 4] rfl) (hP.sub [0, 1, 2, 3, 4] rfl) (hD.sub [0, 1, 2, 3, 4] (by decide) rfl) hS
    refine lv_aload_n hx hb dX8_name_29 rfl (lv_at hl 0 rfl) ?_
    refine va_get (D := (dC, dI)) (ci := 8) (v := .int (nI (hc))) (C := RX8) (T := TX8) (N := 35) hx hb hts uX8 hown hK hP 0 rfl rfl 25 (by decide) (hts _ kfX8_118) (fun _ h9 => h9) rfl dX8_name_30 ?_
    refine q_if_le (x := hc) (tgt := 48) hx hb dX8_name_33 (by decide) (by omega) (fun c33_6 => ?_) (fun c33_6 => ?_)
    · exact L48 na ls _ _ (show na = m_nda nd (m_h he) hc from by (first | (rw [m_nda, if_pos (by omega), hna]) | (rw [m_nda, if_neg (by omega), hna]))) (show ∀ j7, na j7 < 8 from by (first | (exact up_lt (by rw [hna]; exact m_nd1_lt hnd) (by omega)) | (rw [hna]; exact m_nd1_lt hnd))) (lv_sub hl [0, 1, 2] rfl) (hP.sub [0, 1, 2, 3, 4] rfl) (hD.sub [0, 1, 2, 3, 4] (by decide) rfl) hS
    · refine lv_aload_n hx hb dX8_name_36 rfl (lv_at hl 0 rfl) ?_
      refine va_get (D := (dC, dI)) (ci := 8) (v := .ref z26) (C := RX8) (T := TX8) (N := 35) hx hb hts uX8 hown hK hP 0 rfl rfl 26 (by decide) (hts _ kfX8_68) (fun _ h9 => h9) rfl dX8_name_37 ?_
      refine lv_aload_n hx hb dX8_name_40 rfl (lv_at hl 0 rfl) ?_
      refine va_get (D := (dC, dI)) (ci := 8) (v := .ref z24) (C := RX8) (T := TX8) (N := 35) hx hb hts uX8 hown hK hP 0 rfl rfl 24 (by decide) (hts _ kfX8_65) (fun _ h9 => h9) rfl dX8_name_41 ?_
      refine lv_iconst (v := (nI (0))) hx hb dX8_name_44 (by decide) ?_
      refine q_ialdO hx hb hK hP 2 0 rfl rfl (j := 0) (by omega) (by omega) dX8_name_45 ?_
      refine q_top (show (oI (he 0)) = (nI (m_h he 0)) from (congrArg oI (hhe 0 (by omega)).1)) ?_
      have hu0 := (hhe 0 (by omega)).2
      refine lv_iconst (v := (nI (0))) hx hb dX8_name_46 (by decide) ?_
      refine q_iastN hx hb hK hP hD hS 1 0 rfl rfl (j := m_h he 0) (x := 0) (by omega) (by omega) dX8_name_47 (fun H locs hP hD hS => ?_)
      have hP : va_P (dC, dI) qCl [(x0, .inr (8, mO ax z1 z2 z3 fc z5 z6 z7 qs z9 z10 z11 z12 z13 hd lg fcn z17 z18 z19 md z21 z22 z23 z24 hc z26 z27 z28 z29 z30 z31 sm z33 z34)), (z26, .inl (cI, 18, .inl (nF (va_up na (m_h he 0) 0)))), (z24, .inl (cI, 2, .inl (oF he))), (z29, .inl (cI, 4, .inl (nF fe))), (z30, .inl (cI, 4, .inl (nF pk)))] H := hP
      have hD : va_D A [(x0, .inr (8, mO ax z1 z2 z3 fc z5 z6 z7 qs z9 z10 z11 z12 z13 hd lg fcn z17 z18 z19 md z21 z22 z23 z24 hc z26 z27 z28 z29 z30 z31 sm z33 z34)), (z26, .inl (cI, 18, .inl (nF (va_up na (m_h he 0) 0)))), (z24, .inl (cI, 2, .inl (oF he))), (z29, .inl (cI, 4, .inl (nF fe))), (z30, .inl (cI, 4, .inl (nF pk)))] := hD
      exact L48 (va_up na (m_h he 0) 0) ls _ _ (show (va_up na (m_h he 0) 0) = m_nda nd (m_h he) hc from by (first | (rw [m_nda, if_pos (by omega), hna]) | (rw [m_nda, if_neg (by omega), hna]))) (show ∀ j7, (va_up na (m_h he 0) 0) j7 < 8 from by (first | (exact up_lt (by rw [hna]; exact m_nd1_lt hnd) (by omega)) | (rw [hna]; exact m_nd1_lt hnd))) (lv_sub hl [0, 1, 2] rfl) (hP.sub [0, 1, 2, 3, 4] rfl) (hD.sub [0, 1, 2, 3, 4] (by decide) rfl) hS
  refine lv_aload_n hx hb dX8_name_9 rfl (lv_at hl 0 rfl) ?_
  refine va_get (D := (dC, dI)) (ci := 8) (v := .int (nI (hc))) (C := RX8) (T := TX8) (N := 35) hx hb hts uX8 hown hK hP 0 rfl rfl 25 (by decide) (hts _ kfX8_118) (fun _ h9 => h9) rfl dX8_name_10 ?_
  refine lv_iconst (v := (nI (1))) hx hb dX8_name_13 (by decide) ?_
  refine q_icmp_le (x := hc) (y := 1) (tgt := 29) hx hb dX8_name_14 (by decide) (by omega) (by omega) (fun c14_7 => ?_) (fun c14_7 => ?_)
  · have L48 : ∀ (nb : Nat → Nat) (ls : Array Slot) (H : Heap) (locs : List Loc), (nb = m_nda nd (m_h he) hc) → (∀ j7, nb j7 < 8) → lv_has ls 7 [(0, .ref x0), (1, .int (nI (n))), (2, .int (nI (wy)))] → va_P (dC, dI) qCl [(x0, .inr (8, mO ax z1 z2 z3 fc z5 z6 z7 qs z9 z10 z11 z12 z13 hd lg fcn z17 z18 z19 md z21 z22 z23 z24 hc z26 z27 z28 z29 z30 z31 sm z33 z34)), (z26, .inl (cI, 18, .inl (nF nb))), (z24, .inl (cI, 2, .inl (oF he))), (z29, .inl (cI, 4, .inl (nF fe))), (z30, .inl (cI, 4, .inl (nF pk)))] H → va_D A [(x0, .inr (8, mO ax z1 z2 z3 fc z5 z6 z7 qs z9 z10 z11 z12 z13 hd lg fcn z17 z18 z19 md z21 z22 z23 z24 hc z26 z27 z28 z29 z30 z31 sm z33 z34)), (z26, .inl (cI, 18, .inl (nF nb))), (z24, .inl (cI, 2, .inl (oF he))), (z29, .inl (cI, 4, .inl (nF fe))), (z30, .inl (cI, 4, .inl (nF pk)))] → va_S A s.heap H locs → W p l e (headSpec wkX8_name rm_c_Model_name).room s m args below meth c H locs 0 0 Q (F0 m 48 ls []) := by
      intro nb ls H locs hnb hnbb hl hP hD hS
      refine lv_iload_n hx hb dX8_name_48 rfl (lv_at hl 2 rfl) ?_
      refine lv_istore_n (lv' := [(3, .int (nI (wy))), (0, .ref x0), (1, .int (nI (n))), (2, .int (nI (wy)))]) hx hb dX8_name_49 rfl hl (by decide) rfl (fun ls hl => ?_)
      refine lv_iconst (v := (nI (0))) hx hb dX8_name_50 (by decide) ?_
      refine lv_istore (lv' := [(4, .int (nI (0))), (3, .int (nI (wy))), (0, .ref x0), (1, .int (nI (n))), (2, .int (nI (wy)))]) hx hb dX8_name_51 hl (by decide) rfl (fun ls hl => ?_)
      have L53 : ∀ (fu : Nat) (g : Nat → Nat) (i : Nat) (ls : Array Slot) (H : Heap) (locs : List Loc), n - i < fu → (i ≤ n) → (∀ j7, g j7 < 4) → (m_agr g (fun j => j) i) → lv_has ls 7 [(4, .int (nI (i))), (3, .int (nI (wy))), (0, .ref x0), (1, .int (nI (n))), (2, .int (nI (wy)))] → va_P (dC, dI) qCl [(x0, .inr (8, mO ax z1 z2 z3 fc z5 z6 z7 qs z9 z10 z11 z12 z13 hd lg fcn z17 z18 z19 md z21 z22 z23 z24 hc z26 z27 z28 z29 z30 z31 sm z33 z34)), (z26, .inl (cI, 18, .inl (nF nb))), (z24, .inl (cI, 2, .inl (oF he))), (z29, .inl (cI, 4, .inl (nF fe))), (z30, .inl (cI, 4, .inl (nF g)))] H → va_D A [(x0, .inr (8, mO ax z1 z2 z3 fc z5 z6 z7 qs z9 z10 z11 z12 z13 hd lg fcn z17 z18 z19 md z21 z22 z23 z24 hc z26 z27 z28 z29 z30 z31 sm z33 z34)), (z26, .inl (cI, 18, .inl (nF nb))), (z24, .inl (cI, 2, .inl (oF he))), (z29, .inl (cI, 4, .inl (nF fe))), (z30, .inl (cI, 4, .inl (nF g)))] → va_S A s.heap H locs → W p l e (headSpec wkX8_name rm_c_Model_name).room s m args below meth c H locs 0 0 Q (F0 m 53 ls []) := by
        intro fu
        induction fu with
        | zero => intro g i ls H locs hmu; exact absurd hmu (Nat.not_lt_zero _)
        | succ fu ih53 =>
          intro g i ls H locs hmu hi hgb hg hl hP hD hS
          refine lv_iload hx hb dX8_name_53 (lv_at hl 0 rfl) ?_
          refine lv_iload_n hx hb dX8_name_55 rfl (lv_at hl 3 rfl) ?_
          refine q_icmp_ge (x := i) (y := n) (tgt := 74) hx hb dX8_name_56 (by decide) (by omega) (by omega) (fun c56_8 => ?_) (fun c56_8 => ?_)
          · refine lv_iconst (v := (nI (0))) hx hb dX8_name_74 (by decide) ?_
            refine lv_istore (lv' := [(4, .int (nI (0))), (3, .int (nI (wy))), (0, .ref x0), (1, .int (nI (n))), (2, .int (nI (wy)))]) hx hb dX8_name_75 hl (by decide) rfl (fun ls hl => ?_)
            have L77 : ∀ (fu : Nat) (lf9 : Nat) (nc : Nat → Nat) (q : Nat → Nat) (i : Nat) (ls : Array Slot) (H : Heap) (locs : List Loc), n - i < fu → (i ≤ n) → (lf9 = (m_nst n wy i).1) → (∀ j7, nc j7 < 8) → (nc = m_nds (m_nda nd (m_h he) hc) fe n wy i) → (∀ j7, q j7 < 4) → (m_agr q (m_nst n wy i).2 (n - i)) → lv_has ls 7 [(4, .int (nI (i))), (3, .int (nI (lf9))), (0, .ref x0), (1, .int (nI (n))), (2, .int (nI (wy)))] → va_P (dC, dI) qCl [(x0, .inr (8, mO ax z1 z2 z3 fc z5 z6 z7 qs z9 z10 z11 z12 z13 hd lg fcn z17 z18 z19 md z21 z22 z23 z24 hc z26 z27 z28 z29 z30 z31 sm z33 z34)), (z26, .inl (cI, 18, .inl (nF nc))), (z24, .inl (cI, 2, .inl (oF he))), (z29, .inl (cI, 4, .inl (nF fe))), (z30, .inl (cI, 4, .inl (nF q)))] H → va_D A [(x0, .inr (8, mO ax z1 z2 z3 fc z5 z6 z7 qs z9 z10 z11 z12 z13 hd lg fcn z17 z18 z19 md z21 z22 z23 z24 hc z26 z27 z28 z29 z30 z31 sm z33 z34)), (z26, .inl (cI, 18, .inl (nF nc))), (z24, .inl (cI, 2, .inl (oF he))), (z29, .inl (cI, 4, .inl (nF fe))), (z30, .inl (cI, 4, .inl (nF q)))] → va_S A s.heap H locs → W p l e (headSpec wkX8_name rm_c_Model_name).room s m args below meth c H locs 0 0 Q (F0 m 77 ls []) := by
              intro fu
              induction fu with
              | zero => intro lf9 nc q i ls H locs hmu; exact absurd hmu (Nat.not_lt_zero _)
              | succ fu ih77 =>
                intro lf9 nc q i ls H locs hmu hi hlf hncb hnc hqb hq hl hP hD hS
                refine lv_iload hx hb dX8_name_77 (lv_at hl 0 rfl) ?_
                refine lv_iload_n hx hb dX8_name_79 rfl (lv_at hl 3 rfl) ?_
                refine q_icmp_ge (x := i) (y := n) (tgt := 162) hx hb dX8_name_80 (by decide) (by omega) (by omega) (fun c80_9 => ?_) (fun c80_9 => ?_)
                · subst hQ
                  subst hAe
                  have hP9 := hP.sub (ws' := [(x0, .inr (8, mO ax z1 z2 z3 fc z5 z6 z7 qs z9 z10 z11 z12 z13 hd lg fcn z17 z18 z19 md z21 z22 z23 z24 hc z26 z27 z28 z29 z30 z31 sm z33 z34)), (z26, .inl (cI, 18, .inl (nF nc))), (z24, .inl (cI, 2, .inl (oF he))), (z29, .inl (cI, 4, .inl (nF fe))), (z30, .inl (cI, 4, .inl (nF q)))]) [0, 1, 2, 3, 4] rfl
                  exact W.vret hx hb hr (fun t9 h9 _ => ⟨⟨(nc, q), rfl, ⟨(show ∀ j7, nc j7 < 8 from by (exact hncb)), (show ∀ j7, q j7 < 4 from by (exact hqb)), (show nc = m_nds (m_nda nd (m_h he) hc) fe n wy n from by (rw [hnc, show i = n by omega]))⟩, by show va_P _ _ _ t9.heap; rw [h9]; exact hP9⟩, hS.F h9⟩) hS.2.2 dX8_name_162
                · have hle9 : lf9 ≤ wy := (by rw [hlf]; exact m_nst_le n wy i)
                  have hmd9 := Nat.mod_lt lf9 (show 0 < n - i by omega)
                  have hdv9 := Nat.div_le_self lf9 (n - i)
                  refine lv_iload_n hx hb dX8_name_83 rfl (lv_at hl 1 rfl) ?_
                  refine lv_iload_n hx hb dX8_name_84 rfl (lv_at hl 3 rfl) ?_
                  refine lv_iload hx hb dX8_name_85 (lv_at hl 0 rfl) ?_
                  refine q_isub (x := n) (y := i) hx hb (by omega) dX8_name_87 ?_
                  refine q_irem (x := lf9) (y := n - i) hx hb (by omega) (by omega) (by omega) dX8_name_88 ?_
                  refine lv_istore (lv' := [(5, .int (nI (lf9 % (n - i)))), (4, .int (nI (i))), (3, .int (nI (lf9))), (0, .ref x0), (1, .int (nI (n))), (2, .int (nI (wy)))]) hx hb dX8_name_89 hl (by decide) rfl (fun ls hl => ?_)
                  refine lv_iload_n hx hb dX8_name_91 rfl (lv_at hl 2 rfl) ?_
                  refine lv_iload_n hx hb dX8_name_92 rfl (lv_at hl 4 rfl) ?_
                  refine lv_iload hx hb dX8_name_93 (lv_at hl 1 rfl) ?_
                  refine q_isub (x := n) (y := i) hx hb (by omega) dX8_name_95 ?_
                  refine q_idiv (x := lf9) (y := n - i) hx hb (by omega) (by omega) (by omega) dX8_name_96 ?_
                  refine lv_istore_n (lv' := [(3, .int (nI (lf9 / (n - i)))), (5, .int (nI (lf9 % (n - i)))), (4, .int (nI (i))), (0, .ref x0), (1, .int (nI (n))), (2, .int (nI (wy)))]) hx hb dX8_name_97 rfl hl (by decide) rfl (fun ls hl => ?_)
                  refine lv_aload_n hx hb dX8_name_98 rfl (lv_at hl 3 rfl) ?_
                  refine va_get (D := (dC, dI)) (ci := 8) (v := .ref z26) (C := RX8) (T := TX8) (N := 35) hx hb hts uX8 hown hK hP 0 rfl rfl 26 (by decide) (hts _ kfX8_68) (fun _ h9 => h9) rfl dX8_name_99 ?_
                  refine lv_aload_n hx hb dX8_name_102 rfl (lv_at hl 3 rfl) ?_
                  refine va_get (D := (dC, dI)) (ci := 8) (v := .ref z29) (C := RX8) (T := TX8) (N := 35) hx hb hts uX8 hown hK hP 0 rfl rfl 29 (by decide) (hts _ kfX8_77) (fun _ h9 => h9) rfl dX8_name_103 ?_
                  refine lv_iload hx hb dX8_name_106 (lv_at hl 2 rfl) ?_
                  refine q_ialdN hx hb hK hP 3 0 rfl rfl (j := i) (by omega) (by omega) dX8_name_108 ?_
                  have bd10 := hfe i
                  refine lv_iconst (v := (nI (2))) hx hb dX8_name_109 (by decide) ?_
                  refine lv_aload_n hx hb dX8_name_110 rfl (lv_at hl 3 rfl) ?_
                  refine va_get (D := (dC, dI)) (ci := 8) (v := .ref z30) (C := RX8) (T := TX8) (N := 35) hx hb hts uX8 hown hK hP 0 rfl rfl 30 (by decide) (hts _ kfX8_80) (fun _ h9 => h9) rfl dX8_name_111 ?_
                  refine lv_iload hx hb dX8_name_114 (lv_at hl 1 rfl) ?_
                  refine q_ialdN hx hb hK hP 4 0 rfl rfl (j := lf9 % (n - i)) (by omega) (by omega) dX8_name_116 ?_
                  have bd11 := hqb (lf9 % (n - i))
                  refine q_iadd (x := 2) (y := q (lf9 % (n - i))) hx hb dX8_name_117 ?_
                  refine q_iastN hx hb hK hP hD hS 1 0 rfl rfl (j := fe i) (x := 2 + (q (lf9 % (n - i)))) (by omega) (by omega) dX8_name_118 (fun H locs hP hD hS => ?_)
                  have hP : va_P (dC, dI) qCl [(x0, .inr (8, mO ax z1 z2 z3 fc z5 z6 z7 qs z9 z10 z11 z12 z13 hd lg fcn z17 z18 z19 md z21 z22 z23 z24 hc z26 z27 z28 z29 z30 z31 sm z33 z34)), (z26, .inl (cI, 18, .inl (nF (va_up nc (fe i) (2 + (q (lf9 % (n - i)))))))), (z24, .inl (cI, 2, .inl (oF he))), (z29, .inl (cI, 4, .inl (nF fe))), (z30, .inl (cI, 4, .inl (nF q)))] H := hP
                  have hD : va_D A [(x0, .inr (8, mO ax z1 z2 z3 fc z5 z6 z7 qs z9 z10 z11 z12 z13 hd lg fcn z17 z18 z19 md z21 z22 z23 z24 hc z26 z27 z28 z29 z30 z31 sm z33 z34)), (z26, .inl (cI, 18, .inl (nF (va_up nc (fe i) (2 + (q (lf9 % (n - i)))))))), (z24, .inl (cI, 2, .inl (oF he))), (z29, .inl (cI, 4, .inl (nF fe))), (z30, .inl (cI, 4, .inl (nF q)))] := hD
                  refine lv_iload hx hb dX8_name_119 (lv_at hl 1 rfl) ?_
                  refine lv_istore (lv' := [(6, .int (nI (lf9 % (n - i)))), (3, .int (nI (lf9 / (n - i)))), (5, .int (nI (lf9 % (n - i)))), (4, .int (nI (i))), (0, .ref x0), (1, .int (nI (n))), (2, .int (nI (wy)))]) hx hb dX8_name_121 hl (by decide) rfl (fun ls hl => ?_)
                  have L123 : ∀ (fu : Nat) (z : Nat → Nat) (k : Nat) (ls : Array Slot) (H : Heap) (locs : List Loc), n - i - k < fu → (lf9 % (n - i) ≤ k ∧ k ≤ n - i - 1) → (∀ j7, z j7 < 4) → (z = m_dl q (lf9 % (n - i)) k) → lv_has ls 7 [(6, .int (nI (k))), (3, .int (nI (lf9 / (n - i)))), (5, .int (nI (lf9 % (n - i)))), (4, .int (nI (i))), (0, .ref x0), (1, .int (nI (n))), (2, .int (nI (wy)))] → va_P (dC, dI) qCl [(x0, .inr (8, mO ax z1 z2 z3 fc z5 z6 z7 qs z9 z10 z11 z12 z13 hd lg fcn z17 z18 z19 md z21 z22 z23 z24 hc z26 z27 z28 z29 z30 z31 sm z33 z34)), (z26, .inl (cI, 18, .inl (nF (va_up nc (fe i) (2 + (q (lf9 % (n - i)))))))), (z24, .inl (cI, 2, .inl (oF he))), (z29, .inl (cI, 4, .inl (nF fe))), (z30, .inl (cI, 4, .inl (nF z)))] H → va_D A [(x0, .inr (8, mO ax z1 z2 z3 fc z5 z6 z7 qs z9 z10 z11 z12 z13 hd lg fcn z17 z18 z19 md z21 z22 z23 z24 hc z26 z27 z28 z29 z30 z31 sm z33 z34)), (z26, .inl (cI, 18, .inl (nF (va_up nc (fe i) (2 + (q (lf9 % (n - i)))))))), (z24, .inl (cI, 2, .inl (oF he))), (z29, .inl (cI, 4, .inl (nF fe))), (z30, .inl (cI, 4, .inl (nF z)))] → va_S A s.heap H locs → W p l e (headSpec wkX8_name rm_c_Model_name).room s m args below meth c H locs 0 0 Q (F0 m 123 ls []) := by
                    intro fu
                    induction fu with
                    | zero => intro z k ls H locs hmu; exact absurd hmu (Nat.not_lt_zero _)
                    | succ fu ih123 =>
                      intro z k ls H locs hmu hk hzb hz hl hP hD hS
                      refine lv_iload hx hb dX8_name_123 (lv_at hl 0 rfl) ?_
                      refine lv_iconst (v := (nI (1))) hx hb dX8_name_125 (by decide) ?_
                      refine q_iadd (x := k) (y := 1) hx hb dX8_name_126 ?_
                      refine lv_iload_n hx hb dX8_name_127 rfl (lv_at hl 5 rfl) ?_
                      refine lv_iload hx hb dX8_name_128 (lv_at hl 3 rfl) ?_
                      refine q_isub (x := n) (y := i) hx hb (by omega) dX8_name_130 ?_
                      refine q_icmp_ge (x := k + 1) (y := n - i) (tgt := 156) hx hb dX8_name_131 (by decide) (by omega) (by omega) (fun c131_12 => ?_) (fun c131_12 => ?_)
                      · refine lv_iinc (v := (nI (i + 1))) (lv' := [(4, .int (nI (i + 1))), (6, .int (nI (k))), (3, .int (nI (lf9 / (n - i)))), (5, .int (nI (lf9 % (n - i)))), (0, .ref x0), (1, .int (nI (n))), (2, .int (nI (wy)))]) hx hb dX8_name_156 hl (k := 3) rfl (q_inc _) (by decide) rfl (fun ls hl => ?_)
                        refine lv_goto (tgt := 77) hx hb dX8_name_159 (by decide) ?_
                        exact ih77 (lf9 / (n - i)) (va_up nc (fe i) (2 + (q (lf9 % (n - i))))) z (i + 1) ls _ _ (by omega) (show (i + 1) ≤ n from by omega) (show (lf9 / (n - i)) = (m_nst n wy (i + 1)).1 from by (rw [hlf]; rfl)) (show ∀ j7, (va_up nc (fe i) (2 + (q (lf9 % (n - i))))) j7 < 8 from by (exact up_lt hncb (by omega))) (show (va_up nc (fe i) (2 + (q (lf9 % (n - i))))) = m_nds (m_nda nd (m_h he) hc) fe n wy (i + 1) from by (rw [m_nds, ← hnc, m_prm, ← hlf, ← hq _ (by omega)])) (show ∀ j7, z j7 < 4 from by (exact hzb)) (show m_agr z (m_nst n wy (i + 1)).2 (n - (i + 1)) from by (rw [hz, show k = n - i - 1 by omega, show n - (i + 1) = n - i - 1 by omega, m_nst, ← hlf]; exact m_dl_cg (by rw [show n - i - 1 + 1 = n - i by omega]; exact hq))) (lv_sub hl [0, 2, 4, 5, 6] rfl) (hP.sub [0, 1, 2, 3, 4] rfl) (hD.sub [0, 1, 2, 3, 4] (by decide) rfl) hS
                      · refine lv_aload_n hx hb dX8_name_134 rfl (lv_at hl 4 rfl) ?_
                        refine va_get (D := (dC, dI)) (ci := 8) (v := .ref z30) (C := RX8) (T := TX8) (N := 35) hx hb hts uX8 hown hK hP 0 rfl rfl 30 (by decide) (hts _ kfX8_80) (fun _ h9 => h9) rfl dX8_name_135 ?_
                        refine lv_iload hx hb dX8_name_138 (lv_at hl 0 rfl) ?_
                        refine lv_aload_n hx hb dX8_name_140 rfl (lv_at hl 4 rfl) ?_
                        refine va_get (D := (dC, dI)) (ci := 8) (v := .ref z30) (C := RX8) (T := TX8) (N := 35) hx hb hts uX8 hown hK hP 0 rfl rfl 30 (by decide) (hts _ kfX8_80) (fun _ h9 => h9) rfl dX8_name_141 ?_
                        refine lv_iload hx hb dX8_name_144 (lv_at hl 0 rfl) ?_
                        refine lv_iconst (v := (nI (1))) hx hb dX8_name_146 (by decide) ?_
                        refine q_iadd (x := k) (y := 1) hx hb dX8_name_147 ?_
                        refine q_ialdN hx hb hK hP 4 0 rfl rfl (j := k + 1) (by omega) (by omega) dX8_name_148 ?_
                        refine q_iastN hx hb hK hP hD hS 4 0 rfl rfl (j := k) (x := z (k + 1)) (by omega) (by omega) dX8_name_149 (fun H locs hP hD hS => ?_)
                        have hP : va_P (dC, dI) qCl [(x0, .inr (8, mO ax z1 z2 z3 fc z5 z6 z7 qs z9 z10 z11 z12 z13 hd lg fcn z17 z18 z19 md z21 z22 z23 z24 hc z26 z27 z28 z29 z30 z31 sm z33 z34)), (z26, .inl (cI, 18, .inl (nF (va_up nc (fe i) (2 + (q (lf9 % (n - i)))))))), (z24, .inl (cI, 2, .inl (oF he))), (z29, .inl (cI, 4, .inl (nF fe))), (z30, .inl (cI, 4, .inl (nF (va_up z k (z (k + 1))))))] H := hP
                        have hD : va_D A [(x0, .inr (8, mO ax z1 z2 z3 fc z5 z6 z7 qs z9 z10 z11 z12 z13 hd lg fcn z17 z18 z19 md z21 z22 z23 z24 hc z26 z27 z28 z29 z30 z31 sm z33 z34)), (z26, .inl (cI, 18, .inl (nF (va_up nc (fe i) (2 + (q (lf9 % (n - i)))))))), (z24, .inl (cI, 2, .inl (oF he))), (z29, .inl (cI, 4, .inl (nF fe))), (z30, .inl (cI, 4, .inl (nF (va_up z k (z (k + 1))))))] := hD
                        refine lv_iinc (v := (nI (k + 1))) (lv' := [(6, .int (nI (k + 1))), (3, .int (nI (lf9 / (n - i)))), (5, .int (nI (lf9 % (n - i)))), (4, .int (nI (i))), (0, .ref x0), (1, .int (nI (n))), (2, .int (nI (wy)))]) hx hb dX8_name_150 hl (k := 0) rfl (q_inc _) (by decide) rfl (fun ls hl => ?_)
                        refine lv_goto (tgt := 123) hx hb dX8_name_153 (by decide) ?_
                        exact ih123 (va_up z k (z (k + 1))) (k + 1) ls _ _ (by omega) (show lf9 % (n - i) ≤ (k + 1) ∧ (k + 1) ≤ n - i - 1 from by (omega)) (show ∀ j7, (va_up z k (z (k + 1))) j7 < 4 from by (exact up_lt hzb (hzb _))) (show (va_up z k (z (k + 1))) = m_dl q (lf9 % (n - i)) (k + 1) from by (rw [hz]; exact m_dl_s (by omega))) (lv_sub hl [0, 1, 2, 3, 4, 5, 6] rfl) (hP.sub [0, 1, 2, 3, 4] rfl) (hD.sub [0, 1, 2, 3, 4] (by decide) rfl) hS
                  exact L123 _ q (lf9 % (n - i)) ls _ _ (by exact Nat.lt_succ_self _) (show lf9 % (n - i) ≤ (lf9 % (n - i)) ∧ (lf9 % (n - i)) ≤ n - i - 1 from by (omega)) (show ∀ j7, q j7 < 4 from by (exact hqb)) (show q = m_dl q (lf9 % (n - i)) (lf9 % (n - i)) from by (exact (m_dl_0 _ _).symm)) (lv_sub hl [0, 1, 2, 3, 4, 5, 6] rfl) (hP.sub [0, 1, 2, 3, 4] rfl) (hD.sub [0, 1, 2, 3, 4] (by decide) rfl) hS
            exact L77 _ wy nb g 0 ls _ _ (by exact Nat.lt_succ_self _) (show 0 ≤ n from by omega) (show wy = (m_nst n wy 0).1 from by rfl) (show ∀ j7, nb j7 < 8 from by (exact hnbb)) (show nb = m_nds (m_nda nd (m_h he) hc) fe n wy 0 from by (rw [hnb]; rfl)) (show ∀ j7, g j7 < 4 from by (exact hgb)) (show m_agr g (m_nst n wy 0).2 (n - 0) from by (rw [show n - 0 = i by omega]; exact hg)) (lv_sub hl [0, 1, 2, 3, 4] rfl) (hP.sub [0, 1, 2, 3, 4] rfl) (hD.sub [0, 1, 2, 3, 4] (by decide) rfl) hS
          · refine lv_aload_n hx hb dX8_name_59 rfl (lv_at hl 2 rfl) ?_
            refine va_get (D := (dC, dI)) (ci := 8) (v := .ref z30) (C := RX8) (T := TX8) (N := 35) hx hb hts uX8 hown hK hP 0 rfl rfl 30 (by decide) (hts _ kfX8_80) (fun _ h9 => h9) rfl dX8_name_60 ?_
            refine lv_iload hx hb dX8_name_63 (lv_at hl 0 rfl) ?_
            refine lv_iload hx hb dX8_name_65 (lv_at hl 0 rfl) ?_
            refine q_iastN hx hb hK hP hD hS 4 0 rfl rfl (j := i) (x := i) (by omega) (by omega) dX8_name_67 (fun H locs hP hD hS => ?_)
            have hP : va_P (dC, dI) qCl [(x0, .inr (8, mO ax z1 z2 z3 fc z5 z6 z7 qs z9 z10 z11 z12 z13 hd lg fcn z17 z18 z19 md z21 z22 z23 z24 hc z26 z27 z28 z29 z30 z31 sm z33 z34)), (z26, .inl (cI, 18, .inl (nF nb))), (z24, .inl (cI, 2, .inl (oF he))), (z29, .inl (cI, 4, .inl (nF fe))), (z30, .inl (cI, 4, .inl (nF (va_up g i i))))] H := hP
            have hD : va_D A [(x0, .inr (8, mO ax z1 z2 z3 fc z5 z6 z7 qs z9 z10 z11 z12 z13 hd lg fcn z17 z18 z19 md z21 z22 z23 z24 hc z26 z27 z28 z29 z30 z31 sm z33 z34)), (z26, .inl (cI, 18, .inl (nF nb))), (z24, .inl (cI, 2, .inl (oF he))), (z29, .inl (cI, 4, .inl (nF fe))), (z30, .inl (cI, 4, .inl (nF (va_up g i i))))] := hD
            refine lv_iinc (v := (nI (i + 1))) (lv' := [(4, .int (nI (i + 1))), (3, .int (nI (wy))), (0, .ref x0), (1, .int (nI (n))), (2, .int (nI (wy)))]) hx hb dX8_name_68 hl (k := 0) rfl (q_inc _) (by decide) rfl (fun ls hl => ?_)
            refine lv_goto (tgt := 53) hx hb dX8_name_71 (by decide) ?_
            exact ih53 (va_up g i i) (i + 1) ls _ _ (by omega) (show (i + 1) ≤ n from by omega) (show ∀ j7, (va_up g i i) j7 < 4 from by (exact up_lt hgb (by omega))) (show m_agr (va_up g i i) (fun j => j) (i + 1) from by (exact m_agr_id hg)) (lv_sub hl [0, 1, 2, 3, 4] rfl) (hP.sub [0, 1, 2, 3, 4] rfl) (hD.sub [0, 1, 2, 3, 4] (by decide) rfl) hS
      exact L53 _ pk 0 ls _ _ (by exact Nat.lt_succ_self _) (show 0 ≤ n from by omega) (show ∀ j7, pk j7 < 4 from by (exact hpk)) (show m_agr pk (fun j => j) 0 from by (intro j hj; omega)) (lv_sub hl [0, 1, 2, 3, 4] rfl) (hP.sub [0, 1, 2, 3, 4] rfl) (hD.sub [0, 1, 2, 3, 4] (by decide) rfl) hS
    exact L29 (va_up nd 6 6) ls _ _ (show (va_up nd 6 6) = m_nd1 nd (m_h he) hc from by (first | (rw [m_nd1, if_pos (by omega)]) | (rw [m_nd1, if_neg (by omega)]))) (lv_sub hl [0, 1, 2] rfl) (hP.sub [0, 1, 2, 3, 4] rfl) (hD.sub [0, 1, 2, 3, 4] (by decide) rfl) hS
  · refine lv_aload_n hx hb dX8_name_17 rfl (lv_at hl 0 rfl) ?_
    refine va_get (D := (dC, dI)) (ci := 8) (v := .ref z26) (C := RX8) (T := TX8) (N := 35) hx hb hts uX8 hown hK hP 0 rfl rfl 26 (by decide) (hts _ kfX8_68) (fun _ h9 => h9) rfl dX8_name_18 ?_
    refine lv_aload_n hx hb dX8_name_21 rfl (lv_at hl 0 rfl) ?_
    refine va_get (D := (dC, dI)) (ci := 8) (v := .ref z24) (C := RX8) (T := TX8) (N := 35) hx hb hts uX8 hown hK hP 0 rfl rfl 24 (by decide) (hts _ kfX8_65) (fun _ h9 => h9) rfl dX8_name_22 ?_
    refine lv_iconst (v := (nI (1))) hx hb dX8_name_25 (by decide) ?_
    refine q_ialdO hx hb hK hP 2 0 rfl rfl (j := 1) (by omega) (by omega) dX8_name_26 ?_
    refine q_top (show (oI (he 1)) = (nI (m_h he 1)) from (congrArg oI (hhe 1 (by omega)).1)) ?_
    have hu1 := (hhe 1 (by omega)).2
    refine lv_iconst (v := (nI (1))) hx hb dX8_name_27 (by decide) ?_
    refine q_iastN hx hb hK hP hD hS 1 0 rfl rfl (j := m_h he 1) (x := 1) (by omega) (by omega) dX8_name_28 (fun H locs hP hD hS => ?_)
    have hP : va_P (dC, dI) qCl [(x0, .inr (8, mO ax z1 z2 z3 fc z5 z6 z7 qs z9 z10 z11 z12 z13 hd lg fcn z17 z18 z19 md z21 z22 z23 z24 hc z26 z27 z28 z29 z30 z31 sm z33 z34)), (z26, .inl (cI, 18, .inl (nF (va_up (va_up nd 6 6) (m_h he 1) 1)))), (z24, .inl (cI, 2, .inl (oF he))), (z29, .inl (cI, 4, .inl (nF fe))), (z30, .inl (cI, 4, .inl (nF pk)))] H := hP
    have hD : va_D A [(x0, .inr (8, mO ax z1 z2 z3 fc z5 z6 z7 qs z9 z10 z11 z12 z13 hd lg fcn z17 z18 z19 md z21 z22 z23 z24 hc z26 z27 z28 z29 z30 z31 sm z33 z34)), (z26, .inl (cI, 18, .inl (nF (va_up (va_up nd 6 6) (m_h he 1) 1)))), (z24, .inl (cI, 2, .inl (oF he))), (z29, .inl (cI, 4, .inl (nF fe))), (z30, .inl (cI, 4, .inl (nF pk)))] := hD
    have L48 : ∀ (nb : Nat → Nat) (ls : Array Slot) (H : Heap) (locs : List Loc), (nb = m_nda nd (m_h he) hc) → (∀ j7, nb j7 < 8) → lv_has ls 7 [(0, .ref x0), (1, .int (nI (n))), (2, .int (nI (wy)))] → va_P (dC, dI) qCl [(x0, .inr (8, mO ax z1 z2 z3 fc z5 z6 z7 qs z9 z10 z11 z12 z13 hd lg fcn z17 z18 z19 md z21 z22 z23 z24 hc z26 z27 z28 z29 z30 z31 sm z33 z34)), (z26, .inl (cI, 18, .inl (nF nb))), (z24, .inl (cI, 2, .inl (oF he))), (z29, .inl (cI, 4, .inl (nF fe))), (z30, .inl (cI, 4, .inl (nF pk)))] H → va_D A [(x0, .inr (8, mO ax z1 z2 z3 fc z5 z6 z7 qs z9 z10 z11 z12 z13 hd lg fcn z17 z18 z19 md z21 z22 z23 z24 hc z26 z27 z28 z29 z30 z31 sm z33 z34)), (z26, .inl (cI, 18, .inl (nF nb))), (z24, .inl (cI, 2, .inl (oF he))), (z29, .inl (cI, 4, .inl (nF fe))), (z30, .inl (cI, 4, .inl (nF pk)))] → va_S A s.heap H locs → W p l e (headSpec wkX8_name rm_c_Model_name).room s m args below meth c H locs 0 0 Q (F0 m 48 ls []) := by
      intro nb ls H locs hnb hnbb hl hP hD hS
      refine lv_iload_n hx hb dX8_name_48 rfl (lv_at hl 2 rfl) ?_
      refine lv_istore_n (lv' := [(3, .int (nI (wy))), (0, .ref x0), (1, .int (nI (n))), (2, .int (nI (wy)))]) hx hb dX8_name_49 rfl hl (by decide) rfl (fun ls hl => ?_)
      refine lv_iconst (v := (nI (0))) hx hb dX8_name_50 (by decide) ?_
      refine lv_istore (lv' := [(4, .int (nI (0))), (3, .int (nI (wy))), (0, .ref x0), (1, .int (nI (n))), (2, .int (nI (wy)))]) hx hb dX8_name_51 hl (by decide) rfl (fun ls hl => ?_)
      have L53 : ∀ (fu : Nat) (g : Nat → Nat) (i : Nat) (ls : Array Slot) (H : Heap) (locs : List Loc), n - i < fu → (i ≤ n) → (∀ j7, g j7 < 4) → (m_agr g (fun j => j) i) → lv_has ls 7 [(4, .int (nI (i))), (3, .int (nI (wy))), (0, .ref x0), (1, .int (nI (n))), (2, .int (nI (wy)))] → va_P (dC, dI) qCl [(x0, .inr (8, mO ax z1 z2 z3 fc z5 z6 z7 qs z9 z10 z11 z12 z13 hd lg fcn z17 z18 z19 md z21 z22 z23 z24 hc z26 z27 z28 z29 z30 z31 sm z33 z34)), (z26, .inl (cI, 18, .inl (nF nb))), (z24, .inl (cI, 2, .inl (oF he))), (z29, .inl (cI, 4, .inl (nF fe))), (z30, .inl (cI, 4, .inl (nF g)))] H → va_D A [(x0, .inr (8, mO ax z1 z2 z3 fc z5 z6 z7 qs z9 z10 z11 z12 z13 hd lg fcn z17 z18 z19 md z21 z22 z23 z24 hc z26 z27 z28 z29 z30 z31 sm z33 z34)), (z26, .inl (cI, 18, .inl (nF nb))), (z24, .inl (cI, 2, .inl (oF he))), (z29, .inl (cI, 4, .inl (nF fe))), (z30, .inl (cI, 4, .inl (nF g)))] → va_S A s.heap H locs → W p l e (headSpec wkX8_name rm_c_Model_name).room s m args below meth c H locs 0 0 Q (F0 m 53 ls []) := by
        intro fu
        induction fu with
        | zero => intro g i ls H locs hmu; exact absurd hmu (Nat.not_lt_zero _)
        | succ fu ih53 =>
          intro g i ls H locs hmu hi hgb hg hl hP hD hS
          refine lv_iload hx hb dX8_name_53 (lv_at hl 0 rfl) ?_
          refine lv_iload_n hx hb dX8_name_55 rfl (lv_at hl 3 rfl) ?_
          refine q_icmp_ge (x := i) (y := n) (tgt := 74) hx hb dX8_name_56 (by decide) (by omega) (by omega) (fun c56_13 => ?_) (fun c56_13 => ?_)
          · refine lv_iconst (v := (nI (0))) hx hb dX8_name_74 (by decide) ?_
            refine lv_istore (lv' := [(4, .int (nI (0))), (3, .int (nI (wy))), (0, .ref x0), (1, .int (nI (n))), (2, .int (nI (wy)))]) hx hb dX8_name_75 hl (by decide) rfl (fun ls hl => ?_)
            have L77 : ∀ (fu : Nat) (lf9 : Nat) (nc : Nat → Nat) (q : Nat → Nat) (i : Nat) (ls : Array Slot) (H : Heap) (locs : List Loc), n - i < fu → (i ≤ n) → (lf9 = (m_nst n wy i).1) → (∀ j7, nc j7 < 8) → (nc = m_nds (m_nda nd (m_h he) hc) fe n wy i) → (∀ j7, q j7 < 4) → (m_agr q (m_nst n wy i).2 (n - i)) → lv_has ls 7 [(4, .int (nI (i))), (3, .int (nI (lf9))), (0, .ref x0), (1, .int (nI (n))), (2, .int (nI (wy)))] → va_P (dC, dI) qCl [(x0, .inr (8, mO ax z1 z2 z3 fc z5 z6 z7 qs z9 z10 z11 z12 z13 hd lg fcn z17 z18 z19 md z21 z22 z23 z24 hc z26 z27 z28 z29 z30 z31 sm z33 z34)), (z26, .inl (cI, 18, .inl (nF nc))), (z24, .inl (cI, 2, .inl (oF he))), (z29, .inl (cI, 4, .inl (nF fe))), (z30, .inl (cI, 4, .inl (nF q)))] H → va_D A [(x0, .inr (8, mO ax z1 z2 z3 fc z5 z6 z7 qs z9 z10 z11 z12 z13 hd lg fcn z17 z18 z19 md z21 z22 z23 z24 hc z26 z27 z28 z29 z30 z31 sm z33 z34)), (z26, .inl (cI, 18, .inl (nF nc))), (z24, .inl (cI, 2, .inl (oF he))), (z29, .inl (cI, 4, .inl (nF fe))), (z30, .inl (cI, 4, .inl (nF q)))] → va_S A s.heap H locs → W p l e (headSpec wkX8_name rm_c_Model_name).room s m args below meth c H locs 0 0 Q (F0 m 77 ls []) := by
              intro fu
              induction fu with
              | zero => intro lf9 nc q i ls H locs hmu; exact absurd hmu (Nat.not_lt_zero _)
              | succ fu ih77 =>
                intro lf9 nc q i ls H locs hmu hi hlf hncb hnc hqb hq hl hP hD hS
                refine lv_iload hx hb dX8_name_77 (lv_at hl 0 rfl) ?_
                refine lv_iload_n hx hb dX8_name_79 rfl (lv_at hl 3 rfl) ?_
                refine q_icmp_ge (x := i) (y := n) (tgt := 162) hx hb dX8_name_80 (by decide) (by omega) (by omega) (fun c80_14 => ?_) (fun c80_14 => ?_)
                · subst hQ
                  subst hAe
                  have hP9 := hP.sub (ws' := [(x0, .inr (8, mO ax z1 z2 z3 fc z5 z6 z7 qs z9 z10 z11 z12 z13 hd lg fcn z17 z18 z19 md z21 z22 z23 z24 hc z26 z27 z28 z29 z30 z31 sm z33 z34)), (z26, .inl (cI, 18, .inl (nF nc))), (z24, .inl (cI, 2, .inl (oF he))), (z29, .inl (cI, 4, .inl (nF fe))), (z30, .inl (cI, 4, .inl (nF q)))]) [0, 1, 2, 3, 4] rfl
                  exact W.vret hx hb hr (fun t9 h9 _ => ⟨⟨(nc, q), rfl, ⟨(show ∀ j7, nc j7 < 8 from by (exact hncb)), (show ∀ j7, q j7 < 4 from by (exact hqb)), (show nc = m_nds (m_nda nd (m_h he) hc) fe n wy n from by (rw [hnc, show i = n by omega]))⟩, by show va_P _ _ _ t9.heap; rw [h9]; exact hP9⟩, hS.F h9⟩) hS.2.2 dX8_name_162
                · have hle9 : lf9 ≤ wy := (by rw [hlf]; exact m_nst_le n wy i)
                  have hmd9 := Nat.mod_lt lf9 (show 0 < n - i by omega)
                  have hdv9 := Nat.div_le_self lf9 (n - i)
                  refine lv_iload_n hx hb dX8_name_83 rfl (lv_at hl 1 rfl) ?_
                  refine lv_iload_n hx hb dX8_name_84 rfl (lv_at hl 3 rfl) ?_
                  refine lv_iload hx hb dX8_name_85 (lv_at hl 0 rfl) ?_
                  refine q_isub (x := n) (y := i) hx hb (by omega) dX8_name_87 ?_
                  refine q_irem (x := lf9) (y := n - i) hx hb (by omega) (by omega) (by omega) dX8_name_88 ?_
                  refine lv_istore (lv' := [(5, .int (nI (lf9 % (n - i)))), (4, .int (nI (i))), (3, .int (nI (lf9))), (0, .ref x0), (1, .int (nI (n))), (2, .int (nI (wy)))]) hx hb dX8_name_89 hl (by decide) rfl (fun ls hl => ?_)
                  refine lv_iload_n hx hb dX8_name_91 rfl (lv_at hl 2 rfl) ?_
                  refine lv_iload_n hx hb dX8_name_92 rfl (lv_at hl 4 rfl) ?_
                  refine lv_iload hx hb dX8_name_93 (lv_at hl 1 rfl) ?_
                  refine q_isub (x := n) (y := i) hx hb (by omega) dX8_name_95 ?_
                  refine q_idiv (x := lf9) (y := n - i) hx hb (by omega) (by omega) (by omega) dX8_name_96 ?_
                  refine lv_istore_n (lv' := [(3, .int (nI (lf9 / (n - i)))), (5, .int (nI (lf9 % (n - i)))), (4, .int (nI (i))), (0, .ref x0), (1, .int (nI (n))), (2, .int (nI (wy)))]) hx hb dX8_name_97 rfl hl (by decide) rfl (fun ls hl => ?_)
                  refine lv_aload_n hx hb dX8_name_98 rfl (lv_at hl 3 rfl) ?_
                  refine va_get (D := (dC, dI)) (ci := 8) (v := .ref z26) (C := RX8) (T := TX8) (N := 35) hx hb hts uX8 hown hK hP 0 rfl rfl 26 (by decide) (hts _ kfX8_68) (fun _ h9 => h9) rfl dX8_name_99 ?_
                  refine lv_aload_n hx hb dX8_name_102 rfl (lv_at hl 3 rfl) ?_
                  refine va_get (D := (dC, dI)) (ci := 8) (v := .ref z29) (C := RX8) (T := TX8) (N := 35) hx hb hts uX8 hown hK hP 0 rfl rfl 29 (by decide) (hts _ kfX8_77) (fun _ h9 => h9) rfl dX8_name_103 ?_
                  refine lv_iload hx hb dX8_name_106 (lv_at hl 2 rfl) ?_
                  refine q_ialdN hx hb hK hP 3 0 rfl rfl (j := i) (by omega) (by omega) dX8_name_108 ?_
                  have bd15 := hfe i
                  refine lv_iconst (v := (nI (2))) hx hb dX8_name_109 (by decide) ?_
                  refine lv_aload_n hx hb dX8_name_110 rfl (lv_at hl 3 rfl) ?_
                  refine va_get (D := (dC, dI)) (ci := 8) (v := .ref z30) (C := RX8) (T := TX8) (N := 35) hx hb hts uX8 hown hK hP 0 rfl rfl 30 (by decide) (hts _ kfX8_80) (fun _ h9 => h9) rfl dX8_name_111 ?_
                  refine lv_iload hx hb dX8_name_114 (lv_at hl 1 rfl) ?_
                  refine q_ialdN hx hb hK hP 4 0 rfl rfl (j := lf9 % (n - i)) (by omega) (by omega) dX8_name_116 ?_
                  have bd16 := hqb (lf9 % (n - i))
                  refine q_iadd (x := 2) (y := q (lf9 % (n - i))) hx hb dX8_name_117 ?_
                  refine q_iastN hx hb hK hP hD hS 1 0 rfl rfl (j := fe i) (x := 2 + (q (lf9 % (n - i)))) (by omega) (by omega) dX8_name_118 (fun H locs hP hD hS => ?_)
                  have hP : va_P (dC, dI) qCl [(x0, .inr (8, mO ax z1 z2 z3 fc z5 z6 z7 qs z9 z10 z11 z12 z13 hd lg fcn z17 z18 z19 md z21 z22 z23 z24 hc z26 z27 z28 z29 z30 z31 sm z33 z34)), (z26, .inl (cI, 18, .inl (nF (va_up nc (fe i) (2 + (q (lf9 % (n - i)))))))), (z24, .inl (cI, 2, .inl (oF he))), (z29, .inl (cI, 4, .inl (nF fe))), (z30, .inl (cI, 4, .inl (nF q)))] H := hP
                  have hD : va_D A [(x0, .inr (8, mO ax z1 z2 z3 fc z5 z6 z7 qs z9 z10 z11 z12 z13 hd lg fcn z17 z18 z19 md z21 z22 z23 z24 hc z26 z27 z28 z29 z30 z31 sm z33 z34)), (z26, .inl (cI, 18, .inl (nF (va_up nc (fe i) (2 + (q (lf9 % (n - i)))))))), (z24, .inl (cI, 2, .inl (oF he))), (z29, .inl (cI, 4, .inl (nF fe))), (z30, .inl (cI, 4, .inl (nF q)))] := hD
                  refine lv_iload hx hb dX8_name_119 (lv_at hl 1 rfl) ?_
                  refine lv_istore (lv' := [(6, .int (nI (lf9 % (n - i)))), (3, .int (nI (lf9 / (n - i)))), (5, .int (nI (lf9 % (n - i)))), (4, .int (nI (i))), (0, .ref x0), (1, .int (nI (n))), (2, .int (nI (wy)))]) hx hb dX8_name_121 hl (by decide) rfl (fun ls hl => ?_)
                  have L123 : ∀ (fu : Nat) (z : Nat → Nat) (k : Nat) (ls : Array Slot) (H : Heap) (locs : List Loc), n - i - k < fu → (lf9 % (n - i) ≤ k ∧ k ≤ n - i - 1) → (∀ j7, z j7 < 4) → (z = m_dl q (lf9 % (n - i)) k) → lv_has ls 7 [(6, .int (nI (k))), (3, .int (nI (lf9 / (n - i)))), (5, .int (nI (lf9 % (n - i)))), (4, .int (nI (i))), (0, .ref x0), (1, .int (nI (n))), (2, .int (nI (wy)))] → va_P (dC, dI) qCl [(x0, .inr (8, mO ax z1 z2 z3 fc z5 z6 z7 qs z9 z10 z11 z12 z13 hd lg fcn z17 z18 z19 md z21 z22 z23 z24 hc z26 z27 z28 z29 z30 z31 sm z33 z34)), (z26, .inl (cI, 18, .inl (nF (va_up nc (fe i) (2 + (q (lf9 % (n - i)))))))), (z24, .inl (cI, 2, .inl (oF he))), (z29, .inl (cI, 4, .inl (nF fe))), (z30, .inl (cI, 4, .inl (nF z)))] H → va_D A [(x0, .inr (8, mO ax z1 z2 z3 fc z5 z6 z7 qs z9 z10 z11 z12 z13 hd lg fcn z17 z18 z19 md z21 z22 z23 z24 hc z26 z27 z28 z29 z30 z31 sm z33 z34)), (z26, .inl (cI, 18, .inl (nF (va_up nc (fe i) (2 + (q (lf9 % (n - i)))))))), (z24, .inl (cI, 2, .inl (oF he))), (z29, .inl (cI, 4, .inl (nF fe))), (z30, .inl (cI, 4, .inl (nF z)))] → va_S A s.heap H locs → W p l e (headSpec wkX8_name rm_c_Model_name).room s m args below meth c H locs 0 0 Q (F0 m 123 ls []) := by
                    intro fu
                    induction fu with
                    | zero => intro z k ls H locs hmu; exact absurd hmu (Nat.not_lt_zero _)
                    | succ fu ih123 =>
                      intro z k ls H locs hmu hk hzb hz hl hP hD hS
                      refine lv_iload hx hb dX8_name_123 (lv_at hl 0 rfl) ?_
                      refine lv_iconst (v := (nI (1))) hx hb dX8_name_125 (by decide) ?_
                      refine q_iadd (x := k) (y := 1) hx hb dX8_name_126 ?_
                      refine lv_iload_n hx hb dX8_name_127 rfl (lv_at hl 5 rfl) ?_
                      refine lv_iload hx hb dX8_name_128 (lv_at hl 3 rfl) ?_
                      refine q_isub (x := n) (y := i) hx hb (by omega) dX8_name_130 ?_
                      refine q_icmp_ge (x := k + 1) (y := n - i) (tgt := 156) hx hb dX8_name_131 (by decide) (by omega) (by omega) (fun c131_17 => ?_) (fun c131_17 => ?_)
                      · refine lv_iinc (v := (nI (i + 1))) (lv' := [(4, .int (nI (i + 1))), (6, .int (nI (k))), (3, .int (nI (lf9 / (n - i)))), (5, .int (nI (lf9 % (n - i)))), (0, .ref x0), (1, .int (nI (n))), (2, .int (nI (wy)))]) hx hb dX8_name_156 hl (k := 3) rfl (q_inc _) (by decide) rfl (fun ls hl => ?_)
                        refine lv_goto (tgt := 77) hx hb dX8_name_159 (by decide) ?_
                        exact ih77 (lf9 / (n - i)) (va_up nc (fe i) (2 + (q (lf9 % (n - i))))) z (i + 1) ls _ _ (by omega) (show (i + 1) ≤ n from by omega) (show (lf9 / (n - i)) = (m_nst n wy (i + 1)).1 from by (rw [hlf]; rfl)) (show ∀ j7, (va_up nc (fe i) (2 + (q (lf9 % (n - i))))) j7 < 8 from by (exact up_lt hncb (by omega))) (show (va_up nc (fe i) (2 + (q (lf9 % (n - i))))) = m_nds (m_nda nd (m_h he) hc) fe n wy (i + 1) from by (rw [m_nds, ← hnc, m_prm, ← hlf, ← hq _ (by omega)])) (show ∀ j7, z j7 < 4 from by (exact hzb)) (show m_agr z (m_nst n wy (i + 1)).2 (n - (i + 1)) from by (rw [hz, show k = n - i - 1 by omega, show n - (i + 1) = n - i - 1 by omega, m_nst, ← hlf]; exact m_dl_cg (by rw [show n - i - 1 + 1 = n - i by omega]; exact hq))) (lv_sub hl [0, 2, 4, 5, 6] rfl) (hP.sub [0, 1, 2, 3, 4] rfl) (hD.sub [0, 1, 2, 3, 4] (by decide) rfl) hS
                      · refine lv_aload_n hx hb dX8_name_134 rfl (lv_at hl 4 rfl) ?_
                        refine va_get (D := (dC, dI)) (ci := 8) (v := .ref z30) (C := RX8) (T := TX8) (N := 35) hx hb hts uX8 hown hK hP 0 rfl rfl 30 (by decide) (hts _ kfX8_80) (fun _ h9 => h9) rfl dX8_name_135 ?_
                        refine lv_iload hx hb dX8_name_138 (lv_at hl 0 rfl) ?_
                        refine lv_aload_n hx hb dX8_name_140 rfl (lv_at hl 4 rfl) ?_
                        refine va_get (D := (dC, dI)) (ci := 8) (v := .ref z30) (C := RX8) (T := TX8) (N := 35) hx hb hts uX8 hown hK hP 0 rfl rfl 30 (by decide) (hts _ kfX8_80) (fun _ h9 => h9) rfl dX8_name_141 ?_
                        refine lv_iload hx hb dX8_name_144 (lv_at hl 0 rfl) ?_
                        refine lv_iconst (v := (nI (1))) hx hb dX8_name_146 (by decide) ?_
                        refine q_iadd (x := k) (y := 1) hx hb dX8_name_147 ?_
                        refine q_ialdN hx hb hK hP 4 0 rfl rfl (j := k + 1) (by omega) (by omega) dX8_name_148 ?_
                        refine q_iastN hx hb hK hP hD hS 4 0 rfl rfl (j := k) (x := z (k + 1)) (by omega) (by omega) dX8_name_149 (fun H locs hP hD hS => ?_)
                        have hP : va_P (dC, dI) qCl [(x0, .inr (8, mO ax z1 z2 z3 fc z5 z6 z7 qs z9 z10 z11 z12 z13 hd lg fcn z17 z18 z19 md z21 z22 z23 z24 hc z26 z27 z28 z29 z30 z31 sm z33 z34)), (z26, .inl (cI, 18, .inl (nF (va_up nc (fe i) (2 + (q (lf9 % (n - i)))))))), (z24, .inl (cI, 2, .inl (oF he))), (z29, .inl (cI, 4, .inl (nF fe))), (z30, .inl (cI, 4, .inl (nF (va_up z k (z (k + 1))))))] H := hP
                        have hD : va_D A [(x0, .inr (8, mO ax z1 z2 z3 fc z5 z6 z7 qs z9 z10 z11 z12 z13 hd lg fcn z17 z18 z19 md z21 z22 z23 z24 hc z26 z27 z28 z29 z30 z31 sm z33 z34)), (z26, .inl (cI, 18, .inl (nF (va_up nc (fe i) (2 + (q (lf9 % (n - i)))))))), (z24, .inl (cI, 2, .inl (oF he))), (z29, .inl (cI, 4, .inl (nF fe))), (z30, .inl (cI, 4, .inl (nF (va_up z k (z (k + 1))))))] := hD
                        refine lv_iinc (v := (nI (k + 1))) (lv' := [(6, .int (nI (k + 1))), (3, .int (nI (lf9 / (n - i)))), (5, .int (nI (lf9 % (n - i)))), (4, .int (nI (i))), (0, .ref x0), (1, .int (nI (n))), (2, .int (nI (wy)))]) hx hb dX8_name_150 hl (k := 0) rfl (q_inc _) (by decide) rfl (fun ls hl => ?_)
                        refine lv_goto (tgt := 123) hx hb dX8_name_153 (by decide) ?_
                        exact ih123 (va_up z k (z (k + 1))) (k + 1) ls _ _ (by omega) (show lf9 % (n - i) ≤ (k + 1) ∧ (k + 1) ≤ n - i - 1 from by (omega)) (show ∀ j7, (va_up z k (z (k + 1))) j7 < 4 from by (exact up_lt hzb (hzb _))) (show (va_up z k (z (k + 1))) = m_dl q (lf9 % (n - i)) (k + 1) from by (rw [hz]; exact m_dl_s (by omega))) (lv_sub hl [0, 1, 2, 3, 4, 5, 6] rfl) (hP.sub [0, 1, 2, 3, 4] rfl) (hD.sub [0, 1, 2, 3, 4] (by decide) rfl) hS
                  exact L123 _ q (lf9 % (n - i)) ls _ _ (by exact Nat.lt_succ_self _) (show lf9 % (n - i) ≤ (lf9 % (n - i)) ∧ (lf9 % (n - i)) ≤ n - i - 1 from by (omega)) (show ∀ j7, q j7 < 4 from by (exact hqb)) (show q = m_dl q (lf9 % (n - i)) (lf9 % (n - i)) from by (exact (m_dl_0 _ _).symm)) (lv_sub hl [0, 1, 2, 3, 4, 5, 6] rfl) (hP.sub [0, 1, 2, 3, 4] rfl) (hD.sub [0, 1, 2, 3, 4] (by decide) rfl) hS
            exact L77 _ wy nb g 0 ls _ _ (by exact Nat.lt_succ_self _) (show 0 ≤ n from by omega) (show wy = (m_nst n wy 0).1 from by rfl) (show ∀ j7, nb j7 < 8 from by (exact hnbb)) (show nb = m_nds (m_nda nd (m_h he) hc) fe n wy 0 from by (rw [hnb]; rfl)) (show ∀ j7, g j7 < 4 from by (exact hgb)) (show m_agr g (m_nst n wy 0).2 (n - 0) from by (rw [show n - 0 = i by omega]; exact hg)) (lv_sub hl [0, 1, 2, 3, 4] rfl) (hP.sub [0, 1, 2, 3, 4] rfl) (hD.sub [0, 1, 2, 3, 4] (by decide) rfl) hS
          · refine lv_aload_n hx hb dX8_name_59 rfl (lv_at hl 2 rfl) ?_
            refine va_get (D := (dC, dI)) (ci := 8) (v := .ref z30) (C := RX8) (T := TX8) (N := 35) hx hb hts uX8 hown hK hP 0 rfl rfl 30 (by decide) (hts _ kfX8_80) (fun _ h9 => h9) rfl dX8_name_60 ?_
            refine lv_iload hx hb dX8_name_63 (lv_at hl 0 rfl) ?_
            refine lv_iload hx hb dX8_name_65 (lv_at hl 0 rfl) ?_
            refine q_iastN hx hb hK hP hD hS 4 0 rfl rfl (j := i) (x := i) (by omega) (by omega) dX8_name_67 (fun H locs hP hD hS => ?_)
            have hP : va_P (dC, dI) qCl [(x0, .inr (8, mO ax z1 z2 z3 fc z5 z6 z7 qs z9 z10 z11 z12 z13 hd lg fcn z17 z18 z19 md z21 z22 z23 z24 hc z26 z27 z28 z29 z30 z31 sm z33 z34)), (z26, .inl (cI, 18, .inl (nF nb))), (z24, .inl (cI, 2, .inl (oF he))), (z29, .inl (cI, 4, .inl (nF fe))), (z30, .inl (cI, 4, .inl (nF (va_up g i i))))] H := hP
            have hD : va_D A [(x0, .inr (8, mO ax z1 z2 z3 fc z5 z6 z7 qs z9 z10 z11 z12 z13 hd lg fcn z17 z18 z19 md z21 z22 z23 z24 hc z26 z27 z28 z29 z30 z31 sm z33 z34)), (z26, .inl (cI, 18, .inl (nF nb))), (z24, .inl (cI, 2, .inl (oF he))), (z29, .inl (cI, 4, .inl (nF fe))), (z30, .inl (cI, 4, .inl (nF (va_up g i i))))] := hD
            refine lv_iinc (v := (nI (i + 1))) (lv' := [(4, .int (nI (i + 1))), (3, .int (nI (wy))), (0, .ref x0), (1, .int (nI (n))), (2, .int (nI (wy)))]) hx hb dX8_name_68 hl (k := 0) rfl (q_inc _) (by decide) rfl (fun ls hl => ?_)
            refine lv_goto (tgt := 53) hx hb dX8_name_71 (by decide) ?_
            exact ih53 (va_up g i i) (i + 1) ls _ _ (by omega) (show (i + 1) ≤ n from by omega) (show ∀ j7, (va_up g i i) j7 < 4 from by (exact up_lt hgb (by omega))) (show m_agr (va_up g i i) (fun j => j) (i + 1) from by (exact m_agr_id hg)) (lv_sub hl [0, 1, 2, 3, 4] rfl) (hP.sub [0, 1, 2, 3, 4] rfl) (hD.sub [0, 1, 2, 3, 4] (by decide) rfl) hS
      exact L53 _ pk 0 ls _ _ (by exact Nat.lt_succ_self _) (show 0 ≤ n from by omega) (show ∀ j7, pk j7 < 4 from by (exact hpk)) (show m_agr pk (fun j => j) 0 from by (intro j hj; omega)) (lv_sub hl [0, 1, 2, 3, 4] rfl) (hP.sub [0, 1, 2, 3, 4] rfl) (hD.sub [0, 1, 2, 3, 4] (by decide) rfl) hS
    exact L29 (va_up (va_up nd 6 6) (m_h he 1) 1) ls _ _ (show (va_up (va_up nd 6 6) (m_h he 1) 1) = m_nd1 nd (m_h he) hc from by (first | (rw [m_nd1, if_pos (by omega)]) | (rw [m_nd1, if_neg (by omega)]))) (lv_sub hl [0, 1, 2] rfl) (hP.sub [0, 1, 2, 3, 4] rfl) (hD.sub [0, 1, 2, 3, 4] (by decide) rfl) hS
