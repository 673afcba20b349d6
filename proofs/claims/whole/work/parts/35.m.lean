def m_pv (pa pb : Nat → Nat) (j : Nat) : Nat := if j % 2 = 0 then pa (j / 2) else pb (j / 2)
/-- place j has a variable that is no answer's -/
def m_po (pp pa pb he : Nat → Nat) (hc j : Nat) : Prop := (j % 2 = 0 ∨ 32 ≤ pp (j / 2)) ∧ m_pv pa pb j ≠ 6 ∧ m_head he hc (m_pv pa pb j) = false
def m_nin (os : Nat → Nat) (i v : Nat) : Prop := ∀ a, a < i → os a ≠ v
def m_gt (pp pa pb he : Nat → Nat) (hc : Nat) (os : Nat → Nat) (i k : Nat) : Prop := (∀ a, a < k → ∃ j, j < i ∧ m_po pp pa pb he hc j ∧ m_pv pa pb j = os a) ∧ (∀ a b, a < b → b < k → os a ≠ os b) ∧ ∀ j, j < i → m_po pp pa pb he hc j → ∃ a, a < k ∧ os a = m_pv pa pb j
theorem m_nin_s {os : Nat → Nat} {i v : Nat} : m_nin os (i + 1) v ↔ m_nin os i v ∧ os i ≠ v := by
  constructor
  · intro h; exact ⟨fun a ha => h a (by omega), h i (by omega)⟩
  · rintro ⟨h1, h2⟩ a ha
    by_cases hai : a = i
    · rw [hai]; exact h2
    · exact h1 a (by omega)
theorem m_gt_n {pp pa pb he os : Nat → Nat} {hc i k : Nat} (h : m_gt pp pa pb he hc os i k) (hn : ¬ (m_po pp pa pb he hc i ∧ m_nin os k (m_pv pa pb i))) : m_gt pp pa pb he hc os (i + 1) k := by
  obtain ⟨h1, h2, h3⟩ := h
  refine ⟨fun a ha => ?_, h2, fun j hj hp => ?_⟩
  · obtain ⟨j, hj, e⟩ := h1 a ha; exact ⟨j, by omega, e⟩
  · by_cases hji : j = i
    · subst hji
      rcases Classical.em (∃ a, a < k ∧ os a = m_pv pa pb j) with h4 | h4
      · exact h4
      · exact absurd ⟨hp, fun a ha e => h4 ⟨a, ha, e⟩⟩ hn
    · exact h3 j (by omega) hp
theorem m_gt_s {pp pa pb he os : Nat → Nat} {hc i k : Nat} (h : m_gt pp pa pb he hc os i k) (hp : m_po pp pa pb he hc i) (hn : m_nin os k (m_pv pa pb i)) : m_gt pp pa pb he hc (va_up os k (m_pv pa pb i)) (i + 1) (k + 1) := by
  obtain ⟨h1, h2, h3⟩ := h
  refine ⟨fun a ha => ?_, fun a b hab hb => ?_, fun j hj hpj => ?_⟩
  · by_cases hak : a = k
    · subst hak; rw [up_s]; exact ⟨i, by omega, hp, rfl⟩
    · rw [up_n _ _ hak]
      obtain ⟨j, hj, e⟩ := h1 a (by omega)
      exact ⟨j, by omega, e⟩
  · rw [up_n _ _ (show a ≠ k by omega)]
    by_cases hbk : b = k
    · rw [hbk, up_s]; exact hn a (by omega)
    · rw [up_n _ _ hbk]; exact h2 a b hab (by omega)
  · by_cases hji : j = i
    · subst hji; exact ⟨k, by omega, up_s _ _ _⟩
    · obtain ⟨a, ha, e⟩ := h3 j (by omega) hpj
      exact ⟨a, by omega, by rw [up_n _ _ (show a ≠ k by omega)]; exact e⟩
theorem m_gt_0 (pp pa pb he os : Nat → Nat) (hc : Nat) : m_gt pp pa pb he hc os 0 0 := ⟨fun a h => absurd h (Nat.not_lt_zero a), fun a b _ h => absurd h (Nat.not_lt_zero b), fun j h => absurd h (Nat.not_lt_zero j)⟩
/-- there are no more than four -/
def m_few (pp pa pb he : Nat → Nat) (md hc : Nat) : Prop := ∀ (os : Nat → Nat) (i k : Nat), i ≤ 2 * md → m_gt pp pa pb he hc os i k → k ≤ 4
def m_isq (pp pa pb he os : Nat → Nat) (hc k i : Nat) : Prop := m_po pp pa pb he hc k ∧ m_nin os i (m_pv pa pb k)
theorem m_isq_0 {pp pa pb he os : Nat → Nat} {hc k : Nat} : m_isq pp pa pb he os hc k 0 ↔ m_po pp pa pb he hc k := ⟨fun h => h.1, fun h => ⟨h, fun a ha => absurd ha (Nat.not_lt_zero a)⟩⟩
theorem m_isq_s {pp pa pb he os : Nat → Nat} {hc k i : Nat} : m_isq pp pa pb he os hc k (i + 1) ↔ m_isq pp pa pb he os hc k i ∧ os i ≠ m_pv pa pb k := by
  unfold m_isq
  rw [m_nin_s]
  exact ⟨fun h => ⟨⟨h.1, h.2.1⟩, h.2.2⟩, fun h => ⟨h.1.1, h.1.2, h.2⟩⟩
abbrev cX8_collect : ByteArray := prog_10_method_17_code
def yX8_collect : MethodName := ⟨RX8, "collect", "()I"⟩
def wkX8_collect : List Cond := .code yX8_collect cX8_collect 6 (some .int) :: qW
set_option maxRecDepth 40000 in
theorem gkX8_collect : GoodIn qW wkX8_collect := q_good (qw 753 rfl rfl)
set_option maxRecDepth 40000 in
theorem knX8_collect : Cond.instanceMethod yX8_collect ∈ qW := qw 752 rfl rfl
set_option maxRecDepth 40000 in
theorem klX8_collect : Cond.selects RX8 yX8_collect yX8_collect ∈ qW := qw 26 rfl rfl
theorem dX8_collect_0 : decode cX8_collect 0 = .ok (.iconst 0, 1) := by decide +kernel
theorem dX8_collect_1 : decode cX8_collect 1 = .ok (.istore_n 1, 1) := by decide +kernel
theorem dX8_collect_2 : decode cX8_collect 2 = .ok (.iconst 0, 1) := by decide +kernel
theorem dX8_collect_3 : decode cX8_collect 3 = .ok (.istore_n 2, 1) := by decide +kernel
theorem dX8_collect_4 : decode cX8_collect 4 = .ok (.iload_n 2, 1) := by decide +kernel
theorem dX8_collect_5 : decode cX8_collect 5 = .ok (.iconst 2, 1) := by decide +kernel
theorem dX8_collect_6 : decode cX8_collect 6 = .ok (.aload_n 0, 1) := by decide +kernel
theorem dX8_collect_7 : decode cX8_collect 7 = .ok (.getfield 121, 3) := by decide +kernel
theorem dX8_collect_10 : decode cX8_collect 10 = .ok (.imul, 1) := by decide +kernel
theorem dX8_collect_11 : decode cX8_collect 11 = .ok (.if_icmp .ge 128, 3) := by decide +kernel
theorem dX8_collect_14 : decode cX8_collect 14 = .ok (.iload_n 2, 1) := by decide +kernel
theorem dX8_collect_15 : decode cX8_collect 15 = .ok (.iconst 2, 1) := by decide +kernel
theorem dX8_collect_16 : decode cX8_collect 16 = .ok (.irem, 1) := by decide +kernel
theorem dX8_collect_17 : decode cX8_collect 17 = .ok (.ifCond .ne 14, 3) := by decide +kernel
theorem dX8_collect_20 : decode cX8_collect 20 = .ok (.aload_n 0, 1) := by decide +kernel
theorem dX8_collect_21 : decode cX8_collect 21 = .ok (.getfield 59, 3) := by decide +kernel
theorem dX8_collect_24 : decode cX8_collect 24 = .ok (.iload_n 2, 1) := by decide +kernel
theorem dX8_collect_25 : decode cX8_collect 25 = .ok (.iconst 2, 1) := by decide +kernel
theorem dX8_collect_26 : decode cX8_collect 26 = .ok (.idiv, 1) := by decide +kernel
theorem dX8_collect_27 : decode cX8_collect 27 = .ok (.iaload, 1) := by decide +kernel
theorem dX8_collect_28 : decode cX8_collect 28 = .ok (.goto 11, 3) := by decide +kernel
theorem dX8_collect_31 : decode cX8_collect 31 = .ok (.aload_n 0, 1) := by decide +kernel
theorem dX8_collect_32 : decode cX8_collect 32 = .ok (.getfield 62, 3) := by decide +kernel
theorem dX8_collect_35 : decode cX8_collect 35 = .ok (.iload_n 2, 1) := by decide +kernel
theorem dX8_collect_36 : decode cX8_collect 36 = .ok (.iconst 2, 1) := by decide +kernel
theorem dX8_collect_37 : decode cX8_collect 37 = .ok (.idiv, 1) := by decide +kernel
theorem dX8_collect_38 : decode cX8_collect 38 = .ok (.iaload, 1) := by decide +kernel
theorem dX8_collect_39 : decode cX8_collect 39 = .ok (.istore_n 3, 1) := by decide +kernel
theorem dX8_collect_40 : decode cX8_collect 40 = .ok (.iload_n 2, 1) := by decide +kernel
theorem dX8_collect_41 : decode cX8_collect 41 = .ok (.iconst 2, 1) := by decide +kernel
theorem dX8_collect_42 : decode cX8_collect 42 = .ok (.irem, 1) := by decide +kernel
theorem dX8_collect_43 : decode cX8_collect 43 = .ok (.ifCond .eq 16, 3) := by decide +kernel
theorem dX8_collect_46 : decode cX8_collect 46 = .ok (.aload_n 0, 1) := by decide +kernel
theorem dX8_collect_47 : decode cX8_collect 47 = .ok (.getfield 56, 3) := by decide +kernel
theorem dX8_collect_50 : decode cX8_collect 50 = .ok (.iload_n 2, 1) := by decide +kernel
theorem dX8_collect_51 : decode cX8_collect 51 = .ok (.iconst 2, 1) := by decide +kernel
theorem dX8_collect_52 : decode cX8_collect 52 = .ok (.idiv, 1) := by decide +kernel
theorem dX8_collect_53 : decode cX8_collect 53 = .ok (.iaload, 1) := by decide +kernel
theorem dX8_collect_54 : decode cX8_collect 54 = .ok (.bipush 32, 2) := by decide +kernel
theorem dX8_collect_56 : decode cX8_collect 56 = .ok (.if_icmp .lt 21, 3) := by decide +kernel
theorem dX8_collect_59 : decode cX8_collect 59 = .ok (.iload_n 3, 1) := by decide +kernel
theorem dX8_collect_60 : decode cX8_collect 60 = .ok (.bipush 6, 2) := by decide +kernel
theorem dX8_collect_62 : decode cX8_collect 62 = .ok (.if_icmp .eq 15, 3) := by decide +kernel
theorem dX8_collect_65 : decode cX8_collect 65 = .ok (.aload_n 0, 1) := by decide +kernel
theorem dX8_collect_66 : decode cX8_collect 66 = .ok (.iload_n 3, 1) := by decide +kernel
theorem dX8_collect_67 : decode cX8_collect 67 = .ok (.invokevirtual 124, 3) := by decide +kernel
theorem dX8_collect_70 : decode cX8_collect 70 = .ok (.ifCond .ne 7, 3) := by decide +kernel
theorem dX8_collect_73 : decode cX8_collect 73 = .ok (.iconst 1, 1) := by decide +kernel
theorem dX8_collect_74 : decode cX8_collect 74 = .ok (.goto 4, 3) := by decide +kernel
theorem dX8_collect_77 : decode cX8_collect 77 = .ok (.iconst 0, 1) := by decide +kernel
theorem dX8_collect_78 : decode cX8_collect 78 = .ok (.istore 4, 2) := by decide +kernel
theorem dX8_collect_80 : decode cX8_collect 80 = .ok (.iconst 0, 1) := by decide +kernel
theorem dX8_collect_81 : decode cX8_collect 81 = .ok (.istore 5, 2) := by decide +kernel
theorem dX8_collect_83 : decode cX8_collect 83 = .ok (.iload 5, 2) := by decide +kernel
theorem dX8_collect_85 : decode cX8_collect 85 = .ok (.iload_n 1, 1) := by decide +kernel
theorem dX8_collect_86 : decode cX8_collect 86 = .ok (.if_icmp .ge 32, 3) := by decide +kernel
theorem dX8_collect_89 : decode cX8_collect 89 = .ok (.iload 4, 2) := by decide +kernel
theorem dX8_collect_91 : decode cX8_collect 91 = .ok (.ifCond .eq 18, 3) := by decide +kernel
theorem dX8_collect_94 : decode cX8_collect 94 = .ok (.aload_n 0, 1) := by decide +kernel
theorem dX8_collect_95 : decode cX8_collect 95 = .ok (.getfield 77, 3) := by decide +kernel
theorem dX8_collect_98 : decode cX8_collect 98 = .ok (.iload 5, 2) := by decide +kernel
theorem dX8_collect_100 : decode cX8_collect 100 = .ok (.iaload, 1) := by decide +kernel
theorem dX8_collect_101 : decode cX8_collect 101 = .ok (.iload_n 3, 1) := by decide +kernel
theorem dX8_collect_102 : decode cX8_collect 102 = .ok (.if_icmp .eq 7, 3) := by decide +kernel
theorem dX8_collect_105 : decode cX8_collect 105 = .ok (.iconst 1, 1) := by decide +kernel
theorem dX8_collect_106 : decode cX8_collect 106 = .ok (.goto 4, 3) := by decide +kernel
theorem dX8_collect_109 : decode cX8_collect 109 = .ok (.iconst 0, 1) := by decide +kernel
theorem dX8_collect_110 : decode cX8_collect 110 = .ok (.istore 4, 2) := by decide +kernel
theorem dX8_collect_112 : decode cX8_collect 112 = .ok (.iinc 5 1, 3) := by decide +kernel
theorem dX8_collect_115 : decode cX8_collect 115 = .ok (.goto (-32), 3) := by decide +kernel
theorem dX8_collect_118 : decode cX8_collect 118 = .ok (.iload 4, 2) := by decide +kernel
theorem dX8_collect_120 : decode cX8_collect 120 = .ok (.ifCond .eq 13, 3) := by decide +kernel
theorem dX8_collect_123 : decode cX8_collect 123 = .ok (.aload_n 0, 1) := by decide +kernel
theorem dX8_collect_124 : decode cX8_collect 124 = .ok (.getfield 77, 3) := by decide +kernel
theorem dX8_collect_127 : decode cX8_collect 127 = .ok (.iload_n 1, 1) := by decide +kernel
theorem dX8_collect_128 : decode cX8_collect 128 = .ok (.iload_n 3, 1) := by decide +kernel
theorem dX8_collect_129 : decode cX8_collect 129 = .ok (.iastore, 1) := by decide +kernel
theorem dX8_collect_130 : decode cX8_collect 130 = .ok (.iinc 1 1, 3) := by decide +kernel
theorem dX8_collect_133 : decode cX8_collect 133 = .ok (.iinc 2 1, 3) := by decide +kernel
theorem dX8_collect_136 : decode cX8_collect 136 = .ok (.goto (-132), 3) := by decide +kernel
theorem dX8_collect_139 : decode cX8_collect 139 = .ok (.iload_n 1, 1) := by decide +kernel
theorem dX8_collect_140 : decode cX8_collect 140 = .ok (.ireturn, 1) := by decide +kernel
abbrev cX8_clear : ByteArray := prog_10_method_45_code
def yX8_clear : MethodName := ⟨RX8, "clear", "()I"⟩
def wkX8_clear : List Cond := .code yX8_clear cX8_clear 2 (some .int) :: qW
set_option maxRecDepth 40000 in
theorem gkX8_clear : GoodIn qW wkX8_clear := q_good (qw 845 rfl rfl)
set_option maxRecDepth 40000 in
theorem knX8_clear : Cond.instanceMethod yX8_clear ∈ qW := qw 843 rfl rfl
set_option maxRecDepth 40000 in
theorem klX8_clear : Cond.selects RX8 yX8_clear yX8_clear ∈ qW := qw 844 rfl rfl
theorem dX8_clear_0 : decode cX8_clear 0 = .ok (.aload_n 0, 1) := by decide +kernel
theorem dX8_clear_1 : decode cX8_clear 1 = .ok (.getfield 115, 3) := by decide +kernel
theorem dX8_clear_4 : decode cX8_clear 4 = .ok (.istore_n 1, 1) := by decide +kernel
theorem dX8_clear_5 : decode cX8_clear 5 = .ok (.aload_n 0, 1) := by decide +kernel
theorem dX8_clear_6 : decode cX8_clear 6 = .ok (.iconst 0, 1) := by decide +kernel
theorem dX8_clear_7 : decode cX8_clear 7 = .ok (.putfield 115, 3) := by decide +kernel
theorem dX8_clear_10 : decode cX8_clear 10 = .ok (.aload_n 0, 1) := by decide +kernel
theorem dX8_clear_11 : decode cX8_clear 11 = .ok (.iconst (-1), 1) := by decide +kernel
theorem dX8_clear_12 : decode cX8_clear 12 = .ok (.putfield 43, 3) := by decide +kernel
theorem dX8_clear_15 : decode cX8_clear 15 = .ok (.iload_n 1, 1) := by decide +kernel
theorem dX8_clear_16 : decode cX8_clear 16 = .ok (.ireturn, 1) := by decide +kernel
set_option maxRecDepth 40000 in
theorem kfX8_77 : Cond.fieldLink RX8 77 "QlRewriteModel" "free" "[I" ∈ qW := qw 599 rfl rfl
set_option maxRecDepth 40000 in
theorem kfX8_115 : Cond.fieldLink RX8 115 "QlRewriteModel" "questions" "I" ∈ qW := qw 578 rfl rfl
set_option maxRecDepth 40000 in
theorem kfX8_43 : Cond.fieldLink RX8 43 "QlRewriteModel" "hand" "I" ∈ qW := qw 584 rfl rfl
abbrev rm_c_Model_collect : Room := { frames := 1, cells := 0, slots := 0, locals := 21 }
set_option maxHeartbeats 4000000 in
set_option maxRecDepth 100000 in
theorem c_Model_collect (l : Launch) (dC : Nat → ClassId) (dI : Nat → Nat → Nat) (cI cL cQ cZ : ClassId) (x0 : Nat) (ax : Nat) (z1 : Nat) (z2 : Nat) (z3 : Nat) (fc : Nat) (z5 : Nat) (z6 : Nat) (z7 : Nat) (qs : Nat) (z9 : Nat) (z10 : Nat) (z11 : Nat) (z12 : Nat) (z13 : Nat) (hd : Option Nat) (lg : Bool) (fcn : Nat) (z17 : Nat) (z18 : Nat) (z19 : Nat) (md : Nat) (z21 : Nat) (z22 : Nat) (z23 : Nat) (z24 : Nat) (hc : Nat) (z26 : Nat) (z27 : Nat) (z28 : Nat) (z29 : Nat) (z30 : Nat) (z31 : Nat) (sm : Bool) (z33 : Nat) (z34 : Nat) (pp : Nat → Nat) (pa : Nat → Nat) (pb : Nat → Nat) (he : Nat → Option Nat) (fe : Nat → Nat) (hmd : md ≤ 4) (hpp : ∀ j, pp j < 64) (hpa : ∀ j, pa j < 18) (hpb : ∀ j, pb j < 18) (hhc : hc ≤ 2) (hhe : m_hok he hc) (hfe : ∀ j, fe j < 18) (hfew : m_few pp pa pb (m_h he) md hc) : Met l yX8_collect wkX8_collect rm_c_Model_collect (q_W (dC, dI) qCl (qT cI cL cQ cZ) [(x0, .inr (8, mO ax z1 z2 z3 fc z5 z6 z7 qs z9 z10 z11 z12 z13 hd lg fcn z17 z18 z19 md z21 z22 z23 z24 hc z26 z27 z28 z29 z30 z31 sm z33 z34)), (z21, .inl (cI, 4, .inl (nF pp))), (z22, .inl (cI, 4, .inl (nF pa))), (z23, .inl (cI, 4, .inl (nF pb))), (z24, .inl (cI, 2, .inl (oF he))), (z29, .inl (cI, 4, .inl (nF fe)))] [.ref x0]) (va_Qi (fun (r : Int32) (u : Nat × (Nat → Nat)) => (r = (nI (u.1))) ∧ (∀ j, u.2 j < 18) ∧ (m_gt pp pa pb (m_h he) hc u.2 (2 * md) u.1) ∧ (u.1 ≤ 4)) (fun (u : Nat × (Nat → Nat)) t => va_P (dC, dI) qCl [(x0, .inr (8, mO ax z1 z2 z3 fc z5 z6 z7 qs z9 z10 z11 z12 z13 hd lg fcn z17 z18 z19 md z21 z22 z23 z24 hc z26 z27 z28 z29 z30 z31 sm z33 z34)), (z21, .inl (cI, 4, .inl (nF pp))), (z22, .inl (cI, 4, .inl (nF pa))), (z23, .inl (cI, 4, .inl (nF pb))), (z24, .inl (cI, 2, .inl (oF he))), (z29, .inl (cI, 4, .inl (nF u.2)))] t.heap) (q_A [(x0, .inr (8, mO ax z1 z2 z3 fc z5 z6 z7 qs z9 z10 z11 z12 z13 hd lg fcn z17 z18 z19 md z21 z22 z23 z24 hc z26 z27 z28 z29 z30 z31 sm z33 z34)), (z21, .inl (cI, 4, .inl (nF pp))), (z22, .inl (cI, 4, .inl (nF pa))), (z23, .inl (cI, 4, .inl (nF pb))), (z24, .inl (cI, 2, .inl (oF he))), (z29, .inl (cI, 4, .inl (nF fe)))])) 0 0 (q_A [(x0, .inr (8, mO ax z1 z2 z3 fc z5 z6 z7 qs z9 z10 z11 z12 z13 hd lg fcn z17 z18 z19 md z21 z22 z23 z24 hc z26 z27 z28 z29 z30 z31 sm z33 z34)), (z21, .inl (cI, 4, .inl (nF pp))), (z22, .inl (cI, 4, .inl (nF pa))), (z23, .inl (cI, 4, .inl (nF pb))), (z24, .inl (cI, 2, .inl (oF he))), (z29, .inl (cI, 4, .inl (nF fe)))]) := by
  refine Met.ofW (cc := cX8_collect) (maxL := 6) (ret := (some .int)) (by decide) rfl ?_
  intro p e s m args below meth c s₁ B hml hv
  obtain ⟨hargs, hP, hK, hD0⟩ := hv
  have hx := B.exec
  have hb := B.bytes
  have hr := B.returns
  have hts : ∀ w ∈ qW, w.before args s = true := fun w h => atoms_spec (ws := wkX8_collect) B.pre w (List.mem_cons_of_mem _ h)
  have hown : s.vm.findClass RX8 = some m.cls := findClass_of_methodNamed B.named
  have hlocks := B.notSynchronized
  refine q_named (fun Q hQ => ?_)
  have hD : va_D (q_A [(x0, .inr (8, mO ax z1 z2 z3 fc z5 z6 z7 qs z9 z10 z11 z12 z13 hd lg fcn z17 z18 z19 md z21 z22 z23 z24 hc z26 z27 z28 z29 z30 z31 sm z33 z34)), (z21, .inl (cI, 4, .inl (nF pp))), (z22, .inl (cI, 4, .inl (nF pa))), (z23, .inl (cI, 4, .inl (nF pb))), (z24, .inl (cI, 2, .inl (oF he))), (z29, .inl (cI, 4, .inl (nF fe)))]) [(x0, .inr (8, mO ax z1 z2 z3 fc z5 z6 z7 qs z9 z10 z11 z12 z13 hd lg fcn z17 z18 z19 md z21 z22 z23 z24 hc z26 z27 z28 z29 z30 z31 sm z33 z34)), (z21, .inl (cI, 4, .inl (nF pp))), (z22, .inl (cI, 4, .inl (nF pa))), (z23, .inl (cI, 4, .inl (nF pb))), (z24, .inl (cI, 2, .inl (oF he))), (z29, .inl (cI, 4, .inl (nF fe)))] := ⟨hD0.1, fun k q h => ⟨k, q.2, h⟩⟩
  generalize hAe : q_A [(x0, .inr (8, mO ax z1 z2 z3 fc z5 z6 z7 qs z9 z10 z11 z12 z13 hd lg fcn z17 z18 z19 md z21 z22 z23 z24 hc z26 z27 z28 z29 z30 z31 sm z33 z34)), (z21, .inl (cI, 4, .inl (nF pp))), (z22, .inl (cI, 4, .inl (nF pa))), (z23, .inl (cI, 4, .inl (nF pb))), (z24, .inl (cI, 2, .inl (oF he))), (z29, .inl (cI, 4, .inl (nF fe)))] = A at hD
  have hS : va_S A s.heap s.heap [] := va_S.rf
  refine q_entry hargs (Nat.le_of_ble_eq_true rfl) (fun ls hl => ?_)
  have hl : lv_has ls 6 [(0, .ref x0)] := hl
  obtain ⟨H, locs, eH, eL⟩ : ∃ (H : Heap) (locs : List Loc), s.heap = H ∧ ([] : List Loc) = locs := ⟨_, _, rfl, rfl⟩
  have hS : va_S A s.heap H locs := by rw [← eH, ← eL]; exact hS
  have hP : va_P (dC, dI) qCl [(x0, .inr (8, mO ax z1 z2 z3 fc z5 z6 z7 qs z9 z10 z11 z12 z13 hd lg fcn z17 z18 z19 md z21 z22 z23 z24 hc z26 z27 z28 z29 z30 z31 sm z33 z34)), (z21, .inl (cI, 4, .inl (nF pp))), (z22, .inl (cI, 4, .inl (nF pa))), (z23, .inl (cI, 4, .inl (nF pb))), (z24, .inl (cI, 2, .inl (oF he))), (z29, .inl (cI, 4, .inl (nF fe)))] H := by rw [← eH]; exact hP
  refine W_at eH eL ?_
  refine lv_iconst (v := (nI (0))) hx hb dX8_collect_0 (by decide) ?_
  refine lv_istore_n (lv' := [(1, .int (nI (0))), (0, .ref x0)]) hx hb dX8_collect_1 rfl hl (by decide) rfl (fun ls hl => ?_)
  refine lv_iconst (v := (nI (0))) hx hb dX8_collect_2 (by decide) ?_
  refine lv_istore_n (lv' := [(2, .int (nI (0))), (1, .int (nI (0))), (0, .ref x0)]) hx hb dX8_collect_3 rfl hl (by decide) rfl (fun ls hl => ?_)
  have L4 : ∀ (fu : Nat) (cn : Nat) (k : Nat) (g : Nat → Nat) (ls : Array Slot) (H : Heap) (locs : List Loc), 2 * md - k < fu → (k ≤ 2 * md) → (∀ j, g j < 18) → (m_gt pp pa pb (m_h he) hc g k cn) → (cn ≤ 4) → lv_has ls 6 [(2, .int (nI (k))), (1, .int (nI (cn))), (0, .ref x0)] → va_P (dC, dI) qCl [(x0, .inr (8, mO ax z1 z2 z3 fc z5 z6 z7 qs z9 z10 z11 z12 z13 hd lg fcn z17 z18 z19 md z21 z22 z23 z24 hc z26 z27 z28 z29 z30 z31 sm z33 z34)), (z21, .inl (cI, 4, .inl (nF pp))), (z22, .inl (cI, 4, .inl (nF pa))), (z23, .inl (cI, 4, .inl (nF pb))), (z24, .inl (cI, 2, .inl (oF he))), (z29, .inl (cI, 4, .inl (nF g)))] H → va_D A [(x0, .inr (8, mO ax z1 z2 z3 fc z5 z6 z7 qs z9 z10 z11 z12 z13 hd lg fcn z17 z18 z19 md z21 z22 z23 z24 hc z26 z27 z28 z29 z30 z31 sm z33 z34)), (z21, .inl (cI, 4, .inl (nF pp))), (z22, .inl (cI, 4, .inl (nF pa))), (z23, .inl (cI, 4, .inl (nF pb))), (z24, .inl (cI, 2, .inl (oF he))), (z29, .inl (cI, 4, .inl (nF g)))] → va_S A s.heap H locs → W p l e (headSpec wkX8_collect rm_c_Model_collect).room s m args below meth c H locs 0 0 Q (F0 m 4 ls []) := by
    intro fu
    induction fu with
    | zero => intro cn k g ls H locs hmu; exact absurd hmu (Nat.not_lt_zero _)
    | succ fu ih4 =>
      intro cn k g ls H locs hmu hk hgb hg hcn hl hP hD hS
      refine lv_iload_n hx hb dX8_collect_4 rfl (lv_at hl 0 rfl) ?_
      refine lv_iconst (v := (nI (2))) hx hb dX8_collect_5 (by decide) ?_
      refine lv_aload_n hx hb dX8_collect_6 rfl (lv_at hl 2 rfl) ?_
      refine va_get (D := (dC, dI)) (ci := 8) (v := .int (nI (md))) (C := RX8) (T := TX8) (N := 35) hx hb hts uX8 hown hK hP 0 rfl rfl 20 (by decide) (hts _ kfX8_121) (fun _ h9 => h9) rfl dX8_collect_7 ?_
      refine q_imul (x := 2) (y := md) hx hb dX8_collect_10 ?_
      refine q_icmp_ge (x := k) (y := 2 * md) (tgt := 139) hx hb dX8_collect_11 (by decide) (by omega) (by omega) (fun c11_1 => ?_) (fun c11_1 => ?_)
      · refine lv_iload_n hx hb dX8_collect_139 rfl (lv_at hl 1 rfl) ?_
        subst hQ
        subst hAe
        have hP9 := hP.sub (ws' := [(x0, .inr (8, mO ax z1 z2 z3 fc z5 z6 z7 qs z9 z10 z11 z12 z13 hd lg fcn z17 z18 z19 md z21 z22 z23 z24 hc z26 z27 z28 z29 z30 z31 sm z33 z34)), (z21, .inl (cI, 4, .inl (nF pp))), (z22, .inl (cI, 4, .inl (nF pa))), (z23, .inl (cI, 4, .inl (nF pb))), (z24, .inl (cI, 2, .inl (oF he))), (z29, .inl (cI, 4, .inl (nF g)))]) [0, 1, 2, 3, 4, 5] rfl
        exact W.iret (v := (nI (cn))) hx hb hr (fun t9 h9 _ => ⟨⟨(nI (cn)), (cn, g), rfl, ⟨rfl, (show ∀ j, g j < 18 from by (exact hgb)), (show m_gt pp pa pb (m_h he) hc g (2 * md) cn from by (rw [show 2 * md = k by omega]; exact hg)), (show cn ≤ 4 from by (omega))⟩, by show va_P _ _ _ t9.heap; rw [h9]; exact hP9⟩, hS.F h9⟩) hS.2.2 dX8_collect_140
      · have L39 : ∀ (v9 : Nat) (ls : Array Slot) (H : Heap) (locs : List Loc), (v9 = m_pv pa pb k) → (v9 < 18) → lv_has ls 6 [(2, .int (nI (k))), (1, .int (nI (cn))), (0, .ref x0)] → va_P (dC, dI) qCl [(x0, .inr (8, mO ax z1 z2 z3 fc z5 z6 z7 qs z9 z10 z11 z12 z13 hd lg fcn z17 z18 z19 md z21 z22 z23 z24 hc z26 z27 z28 z29 z30 z31 sm z33 z34)), (z21, .inl (cI, 4, .inl (nF pp))), (z22, .inl (cI, 4, .inl (nF pa))), (z23, .inl (cI, 4, .inl (nF pb))), (z24, .inl (cI, 2, .inl (oF he))), (z29, .inl (cI, 4, .inl (nF g)))] H → va_D A [(x0, .inr (8, mO ax z1 z2 z3 fc z5 z6 z7 qs z9 z10 z11 z12 z13 hd lg fcn z17 z18 z19 md z21 z22 z23 z24 hc z26 z27 z28 z29 z30 z31 sm z33 z34)), (z21, .inl (cI, 4, .inl (nF pp))), (z22, .inl (cI, 4, .inl (nF pa))), (z23, .inl (cI, 4, .inl (nF pb))), (z24, .inl (cI, 2, .inl (oF he))), (z29, .inl (cI, 4, .inl (nF g)))] → va_S A s.heap H locs → W p l e (headSpec wkX8_collect rm_c_Model_collect).room s m args below meth c H locs 0 0 Q (F0 m 39 ls [.int (nI (v9))]) := by
          intro v9 ls H locs hv9 hvb hl hP hD hS
          refine lv_istore_n (lv' := [(3, .int (nI (v9))), (2, .int (nI (k))), (1, .int (nI (cn))), (0, .ref x0)]) hx hb dX8_collect_39 rfl hl (by decide) rfl (fun ls hl => ?_)
          have L78 : ∀ (is0 : Bool) (ls : Array Slot) (H : Heap) (locs : List Loc), (is0 = true ↔ m_po pp pa pb (m_h he) hc k) → lv_has ls 6 [(3, .int (nI (v9))), (2, .int (nI (k))), (1, .int (nI (cn))), (0, .ref x0)] → va_P (dC, dI) qCl [(x0, .inr (8, mO ax z1 z2 z3 fc z5 z6 z7 qs z9 z10 z11 z12 z13 hd lg fcn z17 z18 z19 md z21 z22 z23 z24 hc z26 z27 z28 z29 z30 z31 sm z33 z34)), (z21, .inl (cI, 4, .inl (nF pp))), (z22, .inl (cI, 4, .inl (nF pa))), (z23, .inl (cI, 4, .inl (nF pb))), (z24, .inl (cI, 2, .inl (oF he))), (z29, .inl (cI, 4, .inl (nF g)))] H → va_D A [(x0, .inr (8, mO ax z1 z2 z3 fc z5 z6 z7 qs z9 z10 z11 z12 z13 hd lg fcn z17 z18 z19 md z21 z22 z23 z24 hc z26 z27 z28 z29 z30 z31 sm z33 z34)), (z21, .inl (cI, 4, .inl (nF pp))), (z22, .inl (cI, 4, .inl (nF pa))), (z23, .inl (cI, 4, .inl (nF pb))), (z24, .inl (cI, 2, .inl (oF he))), (z29, .inl (cI, 4, .inl (nF g)))] → va_S A s.heap H locs → W p l e (headSpec wkX8_collect rm_c_Model_collect).room s m args below meth c H locs 0 0 Q (F0 m 78 ls [.int (bI (is0))]) := by
            intro is0 ls H locs hi0 hl hP hD hS
            refine lv_istore (lv' := [(4, .int (bI (is0))), (3, .int (nI (v9))), (2, .int (nI (k))), (1, .int (nI (cn))), (0, .ref x0)]) hx hb dX8_collect_78 hl (by decide) rfl (fun ls hl => ?_)
            refine lv_iconst (v := (nI (0))) hx hb dX8_collect_80 (by decide) ?_
            refine lv_istore (lv' := [(5, .int (nI (0))), (4, .int (bI (is0))), (3, .int (nI (v9))), (2, .int (nI (k))), (1, .int (nI (cn))), (0, .ref x0)]) hx hb dX8_collect_81 hl (by decide) rfl (fun ls hl => ?_)
            have L83 : ∀ (fu : Nat) (is9 : Bool) (i : Nat) (ls : Array Slot) (H : Heap) (locs : List Loc), cn - i < fu → (i ≤ cn) → (is9 = true ↔ m_isq pp pa pb (m_h he) g hc k i) → lv_has ls 6 [(5, .int (nI (i))), (4, .int (bI (is9))), (3, .int (nI (v9))), (2, .int (nI (k))), (1, .int (nI (cn))), (0, .ref x0)] → va_P (dC, dI) qCl [(x0, .inr (8, mO ax z1 z2 z3 fc z5 z6 z7 qs z9 z10 z11 z12 z13 hd lg fcn z17 z18 z19 md z21 z22 z23 z24 hc z26 z27 z28 z29 z30 z31 sm z33 z34)), (z21, .inl (cI, 4, .inl (nF pp))), (z22, .inl (cI, 4, .inl (nF pa))), (z23, .inl (cI, 4, .inl (nF pb))), (z24, .inl (cI, 2, .inl (oF he))), (z29, .inl (cI, 4, .inl (nF g)))] H → va_D A [(x0, .inr (8, mO ax z1 z2 z3 fc z5 z6 z7 qs z9 z10 z11 z12 z13 hd lg fcn z17 z18 z19 md z21 z22 z23 z24 hc z26 z27 z28 z29 z30 z31 sm z33 z34)), (z21, .inl (cI, 4, .inl (nF pp))), (z22, .inl (cI, 4, .inl (nF pa))), (z23, .inl (cI, 4, .inl (nF pb))), (z24, .inl (cI, 2, .inl (oF he))), (z29, .inl (cI, 4, .inl (nF g)))] → va_S A s.heap H locs → W p l e (headSpec wkX8_collect rm_c_Model_collect).room s m args below meth c H locs 0 0 Q (F0 m 83 ls []) := by
              intro fu
              induction fu with
              | zero => intro is9 i ls H locs hmu; exact absurd hmu (Nat.not_lt_zero _)
              | succ fu ih83 =>
                intro is9 i ls H locs hmu hi hq9 hl hP hD hS
                refine lv_iload hx hb dX8_collect_83 (lv_at hl 0 rfl) ?_
                refine lv_iload_n hx hb dX8_collect_85 rfl (lv_at hl 4 rfl) ?_
                refine q_icmp_ge (x := i) (y := cn) (tgt := 118) hx hb dX8_collect_86 (by decide) (by omega) (by omega) (fun c86_2 => ?_) (fun c86_2 => ?_)
                · refine lv_iload hx hb dX8_collect_118 (lv_at hl 1 rfl) ?_
                  refine q_ifb_eq (b := is9) (tgt := 133) hx hb dX8_collect_120 (by decide) (fun c120_3 => ?_) (fun c120_3 => ?_)
                  · refine lv_iinc (v := (nI (k + 1))) (lv' := [(2, .int (nI (k + 1))), (5, .int (nI (i))), (4, .int (bI (is9))), (3, .int (nI (v9))), (1, .int (nI (cn))), (0, .ref x0)]) hx hb dX8_collect_133 hl (k := 3) rfl (q_inc _) (by decide) rfl (fun ls hl => ?_)
                    refine lv_goto (tgt := 4) hx hb dX8_collect_136 (by decide) ?_
                    exact ih4 cn (k + 1) g ls _ _ (by omega) (show (k + 1) ≤ 2 * md from by omega) (show ∀ j, g j < 18 from by (first | exact hgb | exact up_lt hgb (by omega))) (show m_gt pp pa pb (m_h he) hc g (k + 1) cn from by (first | (exact m_gt_n hg (fun h9 => b_no (hq9.mpr (by rw [show i = cn by omega]; exact h9)) (by assumption))) | (rw [hv9]; exact m_gt_s hg (hq9.mp (by assumption)).1 (by rw [show cn = i by omega]; exact (hq9.mp (by assumption)).2)))) (show cn ≤ 4 from by (first | omega | (exact hfew _ _ _ (by omega) (m_gt_s hg (hq9.mp (by assumption)).1 (by rw [show cn = i by omega]; exact (hq9.mp (by assumption)).2))))) (lv_sub hl [0, 4, 5] rfl) (hP.sub [0, 1, 2, 3, 4, 5] rfl) (hD.sub [0, 1, 2, 3, 4, 5] (by decide) rfl) hS
                  · refine lv_aload_n hx hb dX8_collect_123 rfl (lv_at hl 5 rfl) ?_
                    refine va_get (D := (dC, dI)) (ci := 8) (v := .ref z29) (C := RX8) (T := TX8) (N := 35) hx hb hts uX8 hown hK hP 0 rfl rfl 29 (by decide) (hts _ kfX8_77) (fun _ h9 => h9) rfl dX8_collect_124 ?_
                    refine lv_iload_n hx hb dX8_collect_127 rfl (lv_at hl 4 rfl) ?_
                    refine lv_iload_n hx hb dX8_collect_128 rfl (lv_at hl 2 rfl) ?_
                    refine q_iastN hx hb hK hP hD hS 5 0 rfl rfl (j := cn) (x := v9) (by (have h9 := hfew _ _ _ (show k + 1 ≤ 2 * md by omega) (m_gt_s hg (hq9.mp (by assumption)).1 (by rw [show cn = i by omega]; exact (hq9.mp (by assumption)).2)); omega)) (by omega) dX8_collect_129 (fun H locs hP hD hS => ?_)
                    have hP : va_P (dC, dI) qCl [(x0, .inr (8, mO ax z1 z2 z3 fc z5 z6 z7 qs z9 z10 z11 z12 z13 hd lg fcn z17 z18 z19 md z21 z22 z23 z24 hc z26 z27 z28 z29 z30 z31 sm z33 z34)), (z21, .inl (cI, 4, .inl (nF pp))), (z22, .inl (cI, 4, .inl (nF pa))), (z23, .inl (cI, 4, .inl (nF pb))), (z24, .inl (cI, 2, .inl (oF he))), (z29, .inl (cI, 4, .inl (nF (va_up g cn v9))))] H := hP
                    have hD : va_D A [(x0, .inr (8, mO ax z1 z2 z3 fc z5 z6 z7 qs z9 z10 z11 z12 z13 hd lg fcn z17 z18 z19 md z21 z22 z23 z24 hc z26 z27 z28 z29 z30 z31 sm z33 z34)), (z21, .inl (cI, 4, .inl (nF pp))), (z22, .inl (cI, 4, .inl (nF pa))), (z23, .inl (cI, 4, .inl (nF pb))), (z24, .inl (cI, 2, .inl (oF he))), (z29, .inl (cI, 4, .inl (nF (va_up g cn v9))))] := hD
                    refine lv_iinc (v := (nI (cn + 1))) (lv' := [(1, .int (nI (cn + 1))), (5, .int (nI (i))), (4, .int (bI (is9))), (3, .int (nI (v9))), (2, .int (nI (k))), (0, .ref x0)]) hx hb dX8_collect_130 hl (k := 4) rfl (q_inc _) (by decide) rfl (fun ls hl => ?_)
                    refine lv_iinc (v := (nI (k + 1))) (lv' := [(2, .int (nI (k + 1))), (1, .int (nI (cn + 1))), (5, .int (nI (i))), (4, .int (bI (is9))), (3, .int (nI (v9))), (0, .ref x0)]) hx hb dX8_collect_133 hl (k := 4) rfl (q_inc _) (by decide) rfl (fun ls hl => ?_)
                    refine lv_goto (tgt := 4) hx hb dX8_collect_136 (by decide) ?_
                    exact ih4 (cn + 1) (k + 1) (va_up g cn v9) ls _ _ (by omega) (show (k + 1) ≤ 2 * md from by omega) (show ∀ j, (va_up g cn v9) j < 18 from by (first | exact hgb | exact up_lt hgb (by omega))) (show m_gt pp pa pb (m_h he) hc (va_up g cn v9) (k + 1) (cn + 1) from by (first | (exact m_gt_n hg (fun h9 => b_no (hq9.mpr (by rw [show i = cn by omega]; exact h9)) (by assumption))) | (rw [hv9]; exact m_gt_s hg (hq9.mp (by assumption)).1 (by rw [show cn = i by omega]; exact (hq9.mp (by assumption)).2)))) (show (cn + 1) ≤ 4 from by (first | omega | (exact hfew _ _ _ (by omega) (m_gt_s hg (hq9.mp (by assumption)).1 (by rw [show cn = i by omega]; exact (hq9.mp (by assumption)).2))))) (lv_sub hl [0, 1, 5] rfl) (hP.sub [0, 1, 2, 3, 4, 5] rfl) (hD.sub [0, 1, 2, 3, 4, 5] (by decide) rfl) hS
                · refine lv_iload hx hb dX8_collect_89 (lv_at hl 1 rfl) ?_
                  refine q_ifb_eq (b := is9) (tgt := 109) hx hb dX8_collect_91 (by decide) (fun c91_4 => ?_) (fun c91_4 => ?_)
                  · refine lv_iconst (v := (nI (0))) hx hb dX8_collect_109 (by decide) ?_
                    refine lv_istore (lv' := [(4, .int (nI (0))), (5, .int (nI (i))), (3, .int (nI (v9))), (2, .int (nI (k))), (1, .int (nI (cn))), (0, .ref x0)]) hx hb dX8_collect_110 hl (by decide) rfl (fun ls hl => ?_)
                    refine lv_iinc (v := (nI (i + 1))) (lv' := [(5, .int (nI (i + 1))), (4, .int (nI (0))), (3, .int (nI (v9))), (2, .int (nI (k))), (1, .int (nI (cn))), (0, .ref x0)]) hx hb dX8_collect_112 hl (k := 1) rfl (q_inc _) (by decide) rfl (fun ls hl => ?_)
                    refine lv_goto (tgt := 83) hx hb dX8_collect_115 (by decide) ?_
                    exact ih83 false (i + 1) ls _ _ (by omega) (show (i + 1) ≤ cn from by omega) (show false = true ↔ m_isq pp pa pb (m_h he) g hc k (i + 1) from by (rw [m_isq_s]; first | (exact ⟨fun h => (by cases h), fun h9 => b_no (hq9.mpr h9.1) (by assumption)⟩) | (exact ⟨fun _ => ⟨hq9.mp (by assumption), by rw [← hv9]; assumption⟩, fun _ => rfl⟩) | (exact ⟨fun h => (by cases h), fun h9 => absurd (show g i = v9 by assumption) (by rw [hv9]; exact h9.2)⟩))) (lv_sub hl [0, 1, 2, 3, 4, 5] rfl) (hP.sub [0, 1, 2, 3, 4, 5] rfl) (hD.sub [0, 1, 2, 3, 4, 5] (by decide) rfl) hS
                  · refine lv_aload_n hx hb dX8_collect_94 rfl (lv_at hl 5 rfl) ?_
                    refine va_get (D := (dC, dI)) (ci := 8) (v := .ref z29) (C := RX8) (T := TX8) (N := 35) hx hb hts uX8 hown hK hP 0 rfl rfl 29 (by decide) (hts _ kfX8_77) (fun _ h9 => h9) rfl dX8_collect_95 ?_
                    refine lv_iload hx hb dX8_collect_98 (lv_at hl 0 rfl) ?_
                    refine q_ialdN hx hb hK hP 5 0 rfl rfl (j := i) (by omega) (by omega) dX8_collect_100 ?_
                    have bd5 := hgb i
                    refine lv_iload_n hx hb dX8_collect_101 rfl (lv_at hl 2 rfl) ?_
                    refine q_icmp_eq (x := g i) (y := v9) (tgt := 109) hx hb dX8_collect_102 (by decide) (by omega) (by omega) (fun c102_6 => ?_) (fun c102_6 => ?_)
                    · refine lv_iconst (v := (nI (0))) hx hb dX8_collect_109 (by decide) ?_
                      refine lv_istore (lv' := [(4, .int (nI (0))), (5, .int (nI (i))), (3, .int (nI (v9))), (2, .int (nI (k))), (1, .int (nI (cn))), (0, .ref x0)]) hx hb dX8_collect_110 hl (by decide) rfl (fun ls hl => ?_)
                      refine lv_iinc (v := (nI (i + 1))) (lv' := [(5, .int (nI (i + 1))), (4, .int (nI (0))), (3, .int (nI (v9))), (2, .int (nI (k))), (1, .int (nI (cn))), (0, .ref x0)]) hx hb dX8_collect_112 hl (k := 1) rfl (q_inc _) (by decide) rfl (fun ls hl => ?_)
                      refine lv_goto (tgt := 83) hx hb dX8_collect_115 (by decide) ?_
                      exact ih83 false (i + 1) ls _ _ (by omega) (show (i + 1) ≤ cn from by omega) (show false = true ↔ m_isq pp pa pb (m_h he) g hc k (i + 1) from by (rw [m_isq_s]; first | (exact ⟨fun h => (by cases h), fun h9 => b_no (hq9.mpr h9.1) (by assumption)⟩) | (exact ⟨fun _ => ⟨hq9.mp (by assumption), by rw [← hv9]; assumption⟩, fun _ => rfl⟩) | (exact ⟨fun h => (by cases h), fun h9 => absurd (show g i = v9 by assumption) (by rw [hv9]; exact h9.2)⟩))) (lv_sub hl [0, 1, 2, 3, 4, 5] rfl) (hP.sub [0, 1, 2, 3, 4, 5] rfl) (hD.sub [0, 1, 2, 3, 4, 5] (by decide) rfl) hS
                    · refine lv_iconst (v := (nI (1))) hx hb dX8_collect_105 (by decide) ?_
                      refine lv_goto (tgt := 110) hx hb dX8_collect_106 (by decide) ?_
                      refine lv_istore (lv' := [(4, .int (nI (1))), (5, .int (nI (i))), (3, .int (nI (v9))), (2, .int (nI (k))), (1, .int (nI (cn))), (0, .ref x0)]) hx hb dX8_collect_110 hl (by decide) rfl (fun ls hl => ?_)
                      refine lv_iinc (v := (nI (i + 1))) (lv' := [(5, .int (nI (i + 1))), (4, .int (nI (1))), (3, .int (nI (v9))), (2, .int (nI (k))), (1, .int (nI (cn))), (0, .ref x0)]) hx hb dX8_collect_112 hl (k := 1) rfl (q_inc _) (by decide) rfl (fun ls hl => ?_)
                      refine lv_goto (tgt := 83) hx hb dX8_collect_115 (by decide) ?_
                      exact ih83 true (i + 1) ls _ _ (by omega) (show (i + 1) ≤ cn from by omega) (show true = true ↔ m_isq pp pa pb (m_h he) g hc k (i + 1) from by (rw [m_isq_s]; first | (exact ⟨fun h => (by cases h), fun h9 => b_no (hq9.mpr h9.1) (by assumption)⟩) | (exact ⟨fun _ => ⟨hq9.mp (by assumption), by rw [← hv9]; assumption⟩, fun _ => rfl⟩) | (exact ⟨fun h => (by cases h), fun h9 => absurd (show g i = v9 by assumption) (by rw [hv9]; exact h9.2)⟩))) (lv_sub hl [0, 1, 2, 3, 4, 5] rfl) (hP.sub [0, 1, 2, 3, 4, 5] rfl) (hD.sub [0, 1, 2, 3, 4, 5] (by decide) rfl) hS
            exact L83 _ is0 0 ls _ _ (by exact Nat.lt_succ_self _) (show 0 ≤ cn from by omega) (show is0 = true ↔ m_isq pp pa pb (m_h he) g hc k 0 from by (rw [m_isq_0]; exact hi0)) (lv_sub hl [0, 1, 2, 3, 4, 5] rfl) (hP.sub [0, 1, 2, 3, 4, 5] rfl) (hD.sub [0, 1, 2, 3, 4, 5] (by decide) rfl) hS
          refine lv_iload_n hx hb dX8_collect_40 rfl (lv_at hl 1 rfl) ?_
          refine lv_iconst (v := (nI (2))) hx hb dX8_collect_41 (by decide) ?_
          refine q_irem (x := k) (y := 2) hx hb (by omega) (by omega) (by omega) dX8_collect_42 ?_
          refine q_if_eq (x := k % 2) (tgt := 59) hx hb dX8_collect_43 (by decide) (by omega) (fun c43_7 => ?_) (fun c43_7 => ?_)
          · refine lv_iload_n hx hb dX8_collect_59 rfl (lv_at hl 0 rfl) ?_
            refine lv_bipush (v := (nI (6))) hx hb dX8_collect_60 (by decide) ?_
            refine q_icmp_eq (x := v9) (y := 6) (tgt := 77) hx hb dX8_collect_62 (by decide) (by omega) (by omega) (fun c62_8 => ?_) (fun c62_8 => ?_)
            · refine lv_iconst (v := (nI (0))) hx hb dX8_collect_77 (by decide) ?_
              exact L78 false ls _ _ (show false = true ↔ m_po pp pa pb (m_h he) hc k from by (unfold m_po; rw [← hv9]; first | (exact ⟨fun h => (by cases h), fun h9 => (by omega)⟩) | (exact ⟨fun h => (by cases h), fun h9 => b_no (by assumption) h9.2.2⟩) | (exact ⟨fun _ => ⟨by omega, by omega, by assumption⟩, fun _ => rfl⟩))) (lv_sub hl [0, 1, 2, 3] rfl) (hP.sub [0, 1, 2, 3, 4, 5] rfl) (hD.sub [0, 1, 2, 3, 4, 5] (by decide) rfl) hS
            · refine lv_aload_n hx hb dX8_collect_65 rfl (lv_at hl 3 rfl) ?_
              refine lv_iload_n hx hb dX8_collect_66 rfl (lv_at hl 0 rfl) ?_
              refine vp_callSi (va_Run.run (va_runV (As := [.int (nI (v9))]) (rest := []) ⟨hx, hb, hml, hown, hts⟩ (c_Model_isHead l dC dI cI cL cQ cZ x0 ax z1 z2 z3 fc z5 z6 z7 qs z9 z10 z11 z12 z13 hd lg fcn z17 z18 z19 md z21 z22 z23 z24 hc z26 z27 z28 z29 z30 z31 sm z33 z34 he v9 (show hc ≤ 2 from by first | assumption | omega) (show v9 < 18 from by first | assumption | omega) (show m_hok he hc from by first | assumption | omega)) (q_cwV 1 hts gkX8_isHead kmX8_124 knX8_isHead klX8_isHead kiX8 rfl rfl rfl (by decide +kernel) ⟨Nat.le_of_ble_eq_true rfl, Nat.le_of_ble_eq_true rfl⟩) (q_preV hK hP [0, 4] rfl 0 (ci := 8) (r := (RX8, TX8, 35)) rfl rfl) rfl rfl hl.1 rfl (lv_room (Nat.le_of_ble_eq_true rfl)) dX8_collect_67 ⟨Nat.zero_le _, Nat.zero_le _⟩)) (fun r9 hr9 => ?_)
              subst hr9
              refine q_ifb_ne (b := m_head (m_h he) hc v9) (tgt := 77) hx hb dX8_collect_70 (by decide) (fun c70_10 => ?_) (fun c70_10 => ?_)
              · refine lv_iconst (v := (nI (0))) hx hb dX8_collect_77 (by decide) ?_
                exact L78 false ls _ _ (show false = true ↔ m_po pp pa pb (m_h he) hc k from by (unfold m_po; rw [← hv9]; first | (exact ⟨fun h => (by cases h), fun h9 => (by omega)⟩) | (exact ⟨fun h => (by cases h), fun h9 => b_no (by assumption) h9.2.2⟩) | (exact ⟨fun _ => ⟨by omega, by omega, by assumption⟩, fun _ => rfl⟩))) (lv_sub hl [0, 1, 2, 3] rfl) (hP.sub [0, 1, 2, 3, 4, 5] rfl) (hD.sub [0, 1, 2, 3, 4, 5] (by decide) rfl) hS
              · refine lv_iconst (v := (nI (1))) hx hb dX8_collect_73 (by decide) ?_
                refine lv_goto (tgt := 78) hx hb dX8_collect_74 (by decide) ?_
                exact L78 true ls _ _ (show true = true ↔ m_po pp pa pb (m_h he) hc k from by (unfold m_po; rw [← hv9]; first | (exact ⟨fun h => (by cases h), fun h9 => (by omega)⟩) | (exact ⟨fun h => (by cases h), fun h9 => b_no (by assumption) h9.2.2⟩) | (exact ⟨fun _ => ⟨by omega, by omega, by assumption⟩, fun _ => rfl⟩))) (lv_sub hl [0, 1, 2, 3] rfl) (hP.sub [0, 1, 2, 3, 4, 5] rfl) (hD.sub [0, 1, 2, 3, 4, 5] (by decide) rfl) hS
          · refine lv_aload_n hx hb dX8_collect_46 rfl (lv_at hl 3 rfl) ?_
            refine va_get (D := (dC, dI)) (ci := 8) (v := .ref z21) (C := RX8) (T := TX8) (N := 35) hx hb hts uX8 hown hK hP 0 rfl rfl 21 (by decide) (hts _ kfX8_56) (fun _ h9 => h9) rfl dX8_collect_47 ?_
            refine lv_iload_n hx hb dX8_collect_50 rfl (lv_at hl 1 rfl) ?_
            refine lv_iconst (v := (nI (2))) hx hb dX8_collect_51 (by decide) ?_
            refine q_idiv (x := k) (y := 2) hx hb (by omega) (by omega) (by omega) dX8_collect_52 ?_
            refine q_ialdN hx hb hK hP 1 0 rfl rfl (j := k / 2) (by omega) (by omega) dX8_collect_53 ?_
            have bd11 := hpp (k / 2)
            refine lv_bipush (v := (nI (32))) hx hb dX8_collect_54 (by decide) ?_
            refine q_icmp_lt (x := pp (k / 2)) (y := 32) (tgt := 77) hx hb dX8_collect_56 (by decide) (by omega) (by omega) (fun c56_12 => ?_) (fun c56_12 => ?_)
            · refine lv_iconst (v := (nI (0))) hx hb dX8_collect_77 (by decide) ?_
              exact L78 false ls _ _ (show false = true ↔ m_po pp pa pb (m_h he) hc k from by (unfold m_po; rw [← hv9]; first | (exact ⟨fun h => (by cases h), fun h9 => (by omega)⟩) | (exact ⟨fun h => (by cases h), fun h9 => b_no (by assumption) h9.2.2⟩) | (exact ⟨fun _ => ⟨by omega, by omega, by assumption⟩, fun _ => rfl⟩))) (lv_sub hl [0, 1, 2, 3] rfl) (hP.sub [0, 1, 2, 3, 4, 5] rfl) (hD.sub [0, 1, 2, 3, 4, 5] (by decide) rfl) hS
            · refine lv_iload_n hx hb dX8_collect_59 rfl (lv_at hl 0 rfl) ?_
              refine lv_bipush (v := (nI (6))) hx hb dX8_collect_60 (by decide) ?_
              refine q_icmp_eq (x := v9) (y := 6) (tgt := 77) hx hb dX8_collect_62 (by decide) (by omega) (by omega) (fun c62_13 => ?_) (fun c62_13 => ?_)
              · refine lv_iconst (v := (nI (0))) hx hb dX8_collect_77 (by decide) ?_
                exact L78 false ls _ _ (show false = true ↔ m_po pp pa pb (m_h he) hc k from by (unfold m_po; rw [← hv9]; first | (exact ⟨fun h => (by cases h), fun h9 => (by omega)⟩) | (exact ⟨fun h => (by cases h), fun h9 => b_no (by assumption) h9.2.2⟩) | (exact ⟨fun _ => ⟨by omega, by omega, by assumption⟩, fun _ => rfl⟩))) (lv_sub hl [0, 1, 2, 3] rfl) (hP.sub [0, 1, 2, 3, 4, 5] rfl) (hD.sub [0, 1, 2, 3, 4, 5] (by decide) rfl) hS
              · refine lv_aload_n hx hb dX8_collect_65 rfl (lv_at hl 3 rfl) ?_
                refine lv_iload_n hx hb dX8_collect_66 rfl (lv_at hl 0 rfl) ?_
                refine vp_callSi (va_Run.run (va_runV (As := [.int (nI (v9))]) (rest := []) ⟨hx, hb, hml, hown, hts⟩ (c_Model_isHead l dC dI cI cL cQ cZ x0 ax z1 z2 z3 fc z5 z6 z7 qs z9 z10 z11 z12 z13 hd lg fcn z17 z18 z19 md z21 z22 z23 z24 hc z26 z27 z28 z29 z30 z31 sm z33 z34 he v9 (show hc ≤ 2 from by first | assumption | omega) (show v9 < 18 from by first | assumption | omega) (show m_hok he hc from by first | assumption | omega)) (q_cwV 1 hts gkX8_isHead kmX8_124 knX8_isHead klX8_isHead kiX8 rfl rfl rfl (by decide +kernel) ⟨Nat.le_of_ble_eq_true rfl, Nat.le_of_ble_eq_true rfl⟩) (q_preV hK hP [0, 4] rfl 0 (ci := 8) (r := (RX8, TX8, 35)) rfl rfl) rfl rfl hl.1 rfl (lv_room (Nat.le_of_ble_eq_true rfl)) dX8_collect_67 ⟨Nat.zero_le _, Nat.zero_le _⟩)) (fun r14 hr14 => ?_)
                subst hr14
                refine q_ifb_ne (b := m_head (m_h he) hc v9) (tgt := 77) hx hb dX8_collect_70 (by decide) (fun c70_15 => ?_) (fun c70_15 => ?_)
                · refine lv_iconst (v := (nI (0))) hx hb dX8_collect_77 (by decide) ?_
                  exact L78 false ls _ _ (show false = true ↔ m_po pp pa pb (m_h he) hc k from by (unfold m_po; rw [← hv9]; first | (exact ⟨fun h => (by cases h), fun h9 => (by omega)⟩) | (exact ⟨fun h => (by cases h), fun h9 => b_no (by assumption) h9.2.2⟩) | (exact ⟨fun _ => ⟨by omega, by omega, by assumption⟩, fun _ => rfl⟩))) (lv_sub hl [0, 1, 2, 3] rfl) (hP.sub [0, 1, 2, 3, 4, 5] rfl) (hD.sub [0, 1, 2, 3, 4, 5] (by decide) rfl) hS
                · refine lv_iconst (v := (nI (1))) hx hb dX8_collect_73 (by decide) ?_
                  refine lv_goto (tgt := 78) hx hb dX8_collect_74 (by decide) ?_
                  exact L78 true ls _ _ (show true = true ↔ m_po pp pa pb (m_h he) hc k from by (unfold m_po; rw [← hv9]; first | (exact ⟨fun h => (by cases h), fun h9 => (by omega)⟩) | (exact ⟨fun h => (by cases h), fun h9 => b_no (by assumption) h9.2.2⟩) | (exact ⟨fun _ => ⟨by omega, by omega, by assumption⟩, fun _ => rfl⟩))) (lv_sub hl [0, 1, 2, 3] rfl) (hP.sub [0, 1, 2, 3, 4, 5] rfl) (hD.sub [0, 1, 2, 3, 4, 5] (by decide) rfl) hS
        refine lv_iload_n hx hb dX8_collect_14 rfl (lv_at hl 0 rfl) ?_
        refine lv_iconst (v := (nI (2))) hx hb dX8_collect_15 (by decide) ?_
        refine q_irem (x := k) (y := 2) hx hb (by omega) (by omega) (by omega) dX8_collect_16 ?_
        refine q_if_ne (x := k % 2) (tgt := 31) hx hb dX8_collect_17 (by decide) (by omega) (fun c17_16 => ?_) (fun c17_16 => ?_)
        · refine lv_aload_n hx hb dX8_collect_31 rfl (lv_at hl 2 rfl) ?_
          refine va_get (D := (dC, dI)) (ci := 8) (v := .ref z23) (C := RX8) (T := TX8) (N := 35) hx hb hts uX8 hown hK hP 0 rfl rfl 23 (by decide) (hts _ kfX8_62) (fun _ h9 => h9) rfl dX8_collect_32 ?_
          refine lv_iload_n hx hb dX8_collect_35 rfl (lv_at hl 0 rfl) ?_
          refine lv_iconst (v := (nI (2))) hx hb dX8_collect_36 (by decide) ?_
          refine q_idiv (x := k) (y := 2) hx hb (by omega) (by omega) (by omega) dX8_collect_37 ?_
          refine q_ialdN hx hb hK hP 3 0 rfl rfl (j := k / 2) (by omega) (by omega) dX8_collect_38 ?_
          have bd17 := hpb (k / 2)
          exact L39 (pb (k / 2)) ls _ _ (show (pb (k / 2)) = m_pv pa pb k from by (first | (rw [m_pv, if_pos (by omega)]) | (rw [m_pv, if_neg (by omega)]))) (show (pb (k / 2)) < 18 from by omega) (lv_sub hl [0, 1, 2] rfl) (hP.sub [0, 1, 2, 3, 4, 5] rfl) (hD.sub [0, 1, 2, 3, 4, 5] (by decide) rfl) hS
        · refine lv_aload_n hx hb dX8_collect_20 rfl (lv_at hl 2 rfl) ?_
          refine va_get (D := (dC, dI)) (ci := 8) (v := .ref z22) (C := RX8) (T := TX8) (N := 35) hx hb hts uX8 hown hK hP 0 rfl rfl 22 (by decide) (hts _ kfX8_59) (fun _ h9 => h9) rfl dX8_collect_21 ?_
          refine lv_iload_n hx hb dX8_collect_24 rfl (lv_at hl 0 rfl) ?_
          refine lv_iconst (v := (nI (2))) hx hb dX8_collect_25 (by decide) ?_
          refine q_idiv (x := k) (y := 2) hx hb (by omega) (by omega) (by omega) dX8_collect_26 ?_
          refine q_ialdN hx hb hK hP 2 0 rfl rfl (j := k / 2) (by omega) (by omega) dX8_collect_27 ?_
          have bd18 := hpa (k / 2)
          refine lv_goto (tgt := 39) hx hb dX8_collect_28 (by decide) ?_
          exact L39 (pa (k / 2)) ls _ _ (show (pa (k / 2)) = m_pv pa pb k from by (first | (rw [m_pv, if_pos (by omega)]) | (rw [m_pv, if_neg (by omega)]))) (show (pa (k / 2)) < 18 from by omega) (lv_sub hl [0, 1, 2] rfl) (hP.sub [0, 1, 2, 3, 4, 5] rfl) (hD.sub [0, 1, 2, 3, 4, 5] (by decide) rfl) hS
  exact L4 _ 0 0 fe ls _ _ (by exact Nat.lt_succ_self _) (show 0 ≤ 2 * md from by omega) (show ∀ j, fe j < 18 from by (exact hfe)) (show m_gt pp pa pb (m_h he) hc fe 0 0 from by (exact m_gt_0 _ _ _ _ _ _)) (show 0 ≤ 4 from by omega) (lv_sub hl [0, 1, 2] rfl) (hP.sub [0, 1, 2, 3, 4, 5] rfl) (hD.sub [0, 1, 2, 3, 4, 5] (by decide) rfl) hS
abbrev rm_c_Model_clear : Room := { frames := 0, cells := 0, slots := 0, locals := 0 }
set_option maxHeartbeats 4000000 in
set_option maxRecDepth 100000 in
theorem c_Model_clear (l : Launch) (dC : Nat → ClassId) (dI : Nat → Nat → Nat) (cI cL cQ cZ : ClassId) (x0 : Nat) (ax : Nat) (z1 : Nat) (z2 : Nat) (z3 : Nat) (fc : Nat) (z5 : Nat) (z6 : Nat) (z7 : Nat) (qs : Nat) (z9 : Nat) (z10 : Nat) (z11 : Nat) (z12 : Nat) (z13 : Nat) (hd : Option Nat) (lg : Bool) (fcn : Nat) (z17 : Nat) (z18 : Nat) (z19 : Nat) (md : Nat) (z21 : Nat) (z22 : Nat) (z23 : Nat) (z24 : Nat) (hc : Nat) (z26 : Nat) (z27 : Nat) (z28 : Nat) (z29 : Nat) (z30 : Nat) (z31 : Nat) (sm : Bool) (z33 : Nat) (z34 : Nat)  : Met l yX8_clear wkX8_clear rm_c_Model_clear (q_W (dC, dI) qCl (qT cI cL cQ cZ) [(x0, .inr (8, mO ax z1 z2 z3 fc z5 z6 z7 qs z9 z10 z11 z12 z13 hd lg fcn z17 z18 z19 md z21 z22 z23 z24 hc z26 z27 z28 z29 z30 z31 sm z33 z34))] [.ref x0]) (va_Qi (fun (r : Int32) (u : Unit) => (r = (nI (qs)))) (fun (u : Unit) t => va_P (dC, dI) qCl [(x0, .inr (8, mO ax z1 z2 z3 fc z5 z6 z7 0 z9 z10 z11 z12 z13 none lg fcn z17 z18 z19 md z21 z22 z23 z24 hc z26 z27 z28 z29 z30 z31 sm z33 z34))] t.heap) (q_A [(x0, .inr (8, mO ax z1 z2 z3 fc z5 z6 z7 qs z9 z10 z11 z12 z13 hd lg fcn z17 z18 z19 md z21 z22 z23 z24 hc z26 z27 z28 z29 z30 z31 sm z33 z34))])) 0 0 (q_A [(x0, .inr (8, mO ax z1 z2 z3 fc z5 z6 z7 qs z9 z10 z11 z12 z13 hd lg fcn z17 z18 z19 md z21 z22 z23 z24 hc z26 z27 z28 z29 z30 z31 sm z33 z34))]) := by
  refine Met.ofW (cc := cX8_clear) (maxL := 2) (ret := (some .int)) (by decide) rfl ?_
  intro p e s m args below meth c s₁ B hml hv
  obtain ⟨hargs, hP, hK, hD0⟩ := hv
  have hx := B.exec
  have hb := B.bytes
  have hr := B.returns
  have hts : ∀ w ∈ qW, w.before args s = true := fun w h => atoms_spec (ws := wkX8_clear) B.pre w (List.mem_cons_of_mem _ h)
  have hown : s.vm.findClass RX8 = some m.cls := findClass_of_methodNamed B.named
  have hlocks := B.notSynchronized
  refine q_named (fun Q hQ => ?_)
  have hD : va_D (q_A [(x0, .inr (8, mO ax z1 z2 z3 fc z5 z6 z7 qs z9 z10 z11 z12 z13 hd lg fcn z17 z18 z19 md z21 z22 z23 z24 hc z26 z27 z28 z29 z30 z31 sm z33 z34))]) [(x0, .inr (8, mO ax z1 z2 z3 fc z5 z6 z7 qs z9 z10 z11 z12 z13 hd lg fcn z17 z18 z19 md z21 z22 z23 z24 hc z26 z27 z28 z29 z30 z31 sm z33 z34))] := ⟨hD0.1, fun k q h => ⟨k, q.2, h⟩⟩
  generalize hAe : q_A [(x0, .inr (8, mO ax z1 z2 z3 fc z5 z6 z7 qs z9 z10 z11 z12 z13 hd lg fcn z17 z18 z19 md z21 z22 z23 z24 hc z26 z27 z28 z29 z30 z31 sm z33 z34))] = A at hD
  have hS : va_S A s.heap s.heap [] := va_S.rf
  refine q_entry hargs (Nat.le_of_ble_eq_true rfl) (fun ls hl => ?_)
  have hl : lv_has ls 2 [(0, .ref x0)] := hl
  obtain ⟨H, locs, eH, eL⟩ : ∃ (H : Heap) (locs : List Loc), s.heap = H ∧ ([] : List Loc) = locs := ⟨_, _, rfl, rfl⟩
  have hS : va_S A s.heap H locs := by rw [← eH, ← eL]; exact hS
  have hP : va_P (dC, dI) qCl [(x0, .inr (8, mO ax z1 z2 z3 fc z5 z6 z7 qs z9 z10 z11 z12 z13 hd lg fcn z17 z18 z19 md z21 z22 z23 z24 hc z26 z27 z28 z29 z30 z31 sm z33 z34))] H := by rw [← eH]; exact hP
  refine W_at eH eL ?_
  refine lv_aload_n hx hb dX8_clear_0 rfl (lv_at hl 0 rfl) ?_
  refine va_get (D := (dC, dI)) (ci := 8) (v := .int (nI (qs))) (C := RX8) (T := TX8) (N := 35) hx hb hts uX8 hown hK hP 0 rfl rfl 8 (by decide) (hts _ kfX8_115) (fun _ h9 => h9) rfl dX8_clear_1 ?_
  refine lv_istore_n (lv' := [(1, .int (nI (qs))), (0, .ref x0)]) hx hb dX8_clear_4 rfl hl (by decide) rfl (fun ls hl => ?_)
  refine lv_aload_n hx hb dX8_clear_5 rfl (lv_at hl 1 rfl) ?_
  refine lv_iconst (v := (nI (0))) hx hb dX8_clear_6 (by decide) ?_
  refine va_put (D := (dC, dI)) (ci := 8) (v := .int (nI (0))) (ty := .int) (C := RX8) (T := TX8) (N := 35) hx hb hts uX8 tyX8 tyX8_ok nmX8 hown hK hP hD hS 0 rfl rfl 8 (by decide) (hts _ kfX8_115) (fun _ h9 => h9) rfl (by decide +kernel) (rfl) (rfl) (Nat.le_of_ble_eq_true rfl) dX8_clear_7 (fun H locs hP hD hS => ?_)
  have hP : va_P (dC, dI) qCl [(x0, .inr (8, mO ax z1 z2 z3 fc z5 z6 z7 0 z9 z10 z11 z12 z13 hd lg fcn z17 z18 z19 md z21 z22 z23 z24 hc z26 z27 z28 z29 z30 z31 sm z33 z34))] H := hP
  have hD : va_D A [(x0, .inr (8, mO ax z1 z2 z3 fc z5 z6 z7 0 z9 z10 z11 z12 z13 hd lg fcn z17 z18 z19 md z21 z22 z23 z24 hc z26 z27 z28 z29 z30 z31 sm z33 z34))] := hD
  refine lv_aload_n hx hb dX8_clear_10 rfl (lv_at hl 1 rfl) ?_
  refine lv_iconst (v := (oI (none))) hx hb dX8_clear_11 (by decide) ?_
  refine va_put (D := (dC, dI)) (ci := 8) (v := .int (oI (none))) (ty := .int) (C := RX8) (T := TX8) (N := 35) hx hb hts uX8 tyX8 tyX8_ok nmX8 hown hK hP hD hS 0 rfl rfl 14 (by decide) (hts _ kfX8_43) (fun _ h9 => h9) rfl (by decide +kernel) (rfl) (rfl) (Nat.le_of_ble_eq_true rfl) dX8_clear_12 (fun H locs hP hD hS => ?_)
  have hP : va_P (dC, dI) qCl [(x0, .inr (8, mO ax z1 z2 z3 fc z5 z6 z7 0 z9 z10 z11 z12 z13 none lg fcn z17 z18 z19 md z21 z22 z23 z24 hc z26 z27 z28 z29 z30 z31 sm z33 z34))] H := hP
  have hD : va_D A [(x0, .inr (8, mO ax z1 z2 z3 fc z5 z6 z7 0 z9 z10 z11 z12 z13 none lg fcn z17 z18 z19 md z21 z22 z23 z24 hc z26 z27 z28 z29 z30 z31 sm z33 z34))] := hD
  refine lv_iload_n hx hb dX8_clear_15 rfl (lv_at hl 0 rfl) ?_
  subst hQ
  subst hAe
  have hP9 := hP.sub (ws' := [(x0, .inr (8, mO ax z1 z2 z3 fc z5 z6 z7 0 z9 z10 z11 z12 z13 none lg fcn z17 z18 z19 md z21 z22 z23 z24 hc z26 z27 z28 z29 z30 z31 sm z33 z34))]) [0] rfl
  exact W.iret (v := (nI (qs))) hx hb hr (fun t9 h9 _ => ⟨⟨(nI (qs)), (), rfl, congrArg nI (show qs = qs from by omega), by show va_P _ _ _ t9.heap; rw [h9]; exact hP9⟩, hS.F h9⟩) hS.2.2 dX8_clear_16
