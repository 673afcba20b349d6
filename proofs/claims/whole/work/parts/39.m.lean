def s_fx (ro : Bool) (x a b : Int32) (X A Bv : Nat) : Prop := (ro = true ∧ ∃ x' a' b' : Nat, x' < 8 ∧ a' < 12 ∧ b' < 12 ∧ x = nI x' ∧ a = nI a' ∧ b = nI b' ∧ X = 32 + x' ∧ A = a' ∧ Bv = b') ∨ (ro = false ∧ ∃ x' a' : Nat, x' < 10 ∧ a' < 12 ∧ x = nI x' ∧ a = nI a' ∧ X = x' ∧ A = a' ∧ Bv = 0)
theorem m_may_r {ro : Bool} {x a b : Int32} (h : m_may ro x a b = true) (hr : ro = true) : ∃ x' a' b' : Nat, x' < 8 ∧ a' < 12 ∧ b' < 12 ∧ x = nI x' ∧ a = nI a' ∧ b = nI b' := by
  unfold m_may at h
  rw [if_pos hr, Bool.and_eq_true, Bool.and_eq_true] at h
  obtain ⟨a', h1, e1⟩ := m_in_t (by decide) h.1
  obtain ⟨x', h2, e2⟩ := m_in_t (by decide) h.2.1
  obtain ⟨b', h3, e3⟩ := m_in_t (by decide) h.2.2
  exact ⟨x', a', b', by omega, by omega, by omega, e2, e1, e3⟩
theorem m_may_c {ro : Bool} {x a b : Int32} (h : m_may ro x a b = true) (hr : ro = false) : ∃ x' a' : Nat, x' < 10 ∧ a' < 12 ∧ x = nI x' ∧ a = nI a' := by
  unfold m_may at h
  rw [if_neg (by rw [hr]; decide), Bool.and_eq_true] at h
  obtain ⟨a', h1, e1⟩ := m_in_t (by decide) h.1
  obtain ⟨x', h2, e2⟩ := m_in_t (by decide) h.2
  exact ⟨x', a', by omega, by omega, e2, e1⟩
theorem m_fat_lt {fn fo ft : Nat → Nat} {x a b n : Nat} {o : Option Nat} (h : m_fat fn fo ft x a b n o) {k : Nat} (e : o = some k) : k < n := by
  subst e; exact h.1
def s_fct (ro : Bool) (x a b : Int32) (fc : Nat) (fn fo ft : Nat → Nat) (r : Int32) (fc1 : Nat) (fn1 fo1 ft1 : Nat → Nat) : Prop :=
  (m_may ro x a b = false ∧ r = -1 ∧ fc1 = fc ∧ fn1 = fn ∧ fo1 = fo ∧ ft1 = ft) ∨
  (m_may ro x a b = true ∧ ∃ X A Bv, s_fx ro x a b X A Bv ∧ ∃ o, m_fat fn fo ft X A Bv fc o ∧
    ((¬ o = none ∧ r = nI 0 ∧ fc1 = fc ∧ fn1 = fn ∧ fo1 = fo ∧ ft1 = ft) ∨ (o = none ∧ fc = 60 ∧ r = -2 ∧ fc1 = fc ∧ fn1 = fn ∧ fo1 = fo ∧ ft1 = ft) ∨
     (o = none ∧ fc ≠ 60 ∧ r = nI 1 ∧ fc1 = fc + 1 ∧ fn1 = va_up fn fc X ∧ fo1 = va_up fo fc A ∧ ft1 = va_up ft fc Bv)))
def s_fgt (ro : Bool) (x a b : Int32) (fc : Nat) (fn fo ft : Nat → Nat) (r : Int32) (fc1 : Nat) (fn1 fo1 ft1 : Nat → Nat) : Prop :=
  (m_may ro x a b = false ∧ r = -1 ∧ fc1 = fc ∧ fn1 = fn ∧ fo1 = fo ∧ ft1 = ft) ∨
  (m_may ro x a b = true ∧ ∃ X A Bv, s_fx ro x a b X A Bv ∧ ((m_fat fn fo ft X A Bv fc none ∧ r = nI 0 ∧ fc1 = fc ∧ fn1 = fn ∧ fo1 = fo ∧ ft1 = ft) ∨
    ∃ k, m_fat fn fo ft X A Bv fc (some k) ∧ r = nI 1 ∧ fc1 = fc - 1 ∧ fn1 = va_up fn k (fn (fc - 1)) ∧ fo1 = va_up fo k (fo (fc - 1)) ∧ ft1 = va_up ft k (ft (fc - 1))))
abbrev cX8_fact : ByteArray := prog_10_method_8_code
def yX8_fact : MethodName := ⟨RX8, "fact", "(ZIII)I"⟩
def wkX8_fact : List Cond := .code yX8_fact cX8_fact 6 (some .int) :: qW
set_option maxRecDepth 40000 in
theorem gkX8_fact : GoodIn qW wkX8_fact := q_good (qw 690 rfl rfl)
set_option maxRecDepth 40000 in
theorem knX8_fact : Cond.instanceMethod yX8_fact ∈ qW := qw 688 rfl rfl
set_option maxRecDepth 40000 in
theorem klX8_fact : Cond.selects RX8 yX8_fact yX8_fact ∈ qW := qw 689 rfl rfl
theorem dX8_fact_0 : decode cX8_fact 0 = .ok (.iload_n 1, 1) := by decide +kernel
theorem dX8_fact_1 : decode cX8_fact 1 = .ok (.iload_n 2, 1) := by decide +kernel
theorem dX8_fact_2 : decode cX8_fact 2 = .ok (.iload_n 3, 1) := by decide +kernel
theorem dX8_fact_3 : decode cX8_fact 3 = .ok (.iload 4, 2) := by decide +kernel
theorem dX8_fact_5 : decode cX8_fact 5 = .ok (.invokestatic 107, 3) := by decide +kernel
theorem dX8_fact_8 : decode cX8_fact 8 = .ok (.ifCond .ne 5, 3) := by decide +kernel
theorem dX8_fact_11 : decode cX8_fact 11 = .ok (.iconst (-1), 1) := by decide +kernel
theorem dX8_fact_12 : decode cX8_fact 12 = .ok (.ireturn, 1) := by decide +kernel
theorem dX8_fact_13 : decode cX8_fact 13 = .ok (.iload_n 1, 1) := by decide +kernel
theorem dX8_fact_14 : decode cX8_fact 14 = .ok (.ifCond .eq 10, 3) := by decide +kernel
theorem dX8_fact_17 : decode cX8_fact 17 = .ok (.bipush 32, 2) := by decide +kernel
theorem dX8_fact_19 : decode cX8_fact 19 = .ok (.iload_n 2, 1) := by decide +kernel
theorem dX8_fact_20 : decode cX8_fact 20 = .ok (.iadd, 1) := by decide +kernel
theorem dX8_fact_21 : decode cX8_fact 21 = .ok (.goto 4, 3) := by decide +kernel
theorem dX8_fact_24 : decode cX8_fact 24 = .ok (.iload_n 2, 1) := by decide +kernel
theorem dX8_fact_25 : decode cX8_fact 25 = .ok (.istore 5, 2) := by decide +kernel
theorem dX8_fact_27 : decode cX8_fact 27 = .ok (.aload_n 0, 1) := by decide +kernel
theorem dX8_fact_28 : decode cX8_fact 28 = .ok (.iload 5, 2) := by decide +kernel
theorem dX8_fact_30 : decode cX8_fact 30 = .ok (.iload_n 3, 1) := by decide +kernel
theorem dX8_fact_31 : decode cX8_fact 31 = .ok (.iload 4, 2) := by decide +kernel
theorem dX8_fact_33 : decode cX8_fact 33 = .ok (.invokevirtual 111, 3) := by decide +kernel
theorem dX8_fact_36 : decode cX8_fact 36 = .ok (.ifCond .lt 5, 3) := by decide +kernel
theorem dX8_fact_39 : decode cX8_fact 39 = .ok (.iconst 0, 1) := by decide +kernel
theorem dX8_fact_40 : decode cX8_fact 40 = .ok (.ireturn, 1) := by decide +kernel
theorem dX8_fact_41 : decode cX8_fact 41 = .ok (.aload_n 0, 1) := by decide +kernel
theorem dX8_fact_42 : decode cX8_fact 42 = .ok (.getfield 104, 3) := by decide +kernel
theorem dX8_fact_45 : decode cX8_fact 45 = .ok (.bipush 60, 2) := by decide +kernel
theorem dX8_fact_47 : decode cX8_fact 47 = .ok (.if_icmp .ne 6, 3) := by decide +kernel
theorem dX8_fact_50 : decode cX8_fact 50 = .ok (.bipush (-2), 2) := by decide +kernel
theorem dX8_fact_52 : decode cX8_fact 52 = .ok (.ireturn, 1) := by decide +kernel
theorem dX8_fact_53 : decode cX8_fact 53 = .ok (.aload_n 0, 1) := by decide +kernel
theorem dX8_fact_54 : decode cX8_fact 54 = .ok (.getfield 19, 3) := by decide +kernel
theorem dX8_fact_57 : decode cX8_fact 57 = .ok (.aload_n 0, 1) := by decide +kernel
theorem dX8_fact_58 : decode cX8_fact 58 = .ok (.getfield 104, 3) := by decide +kernel
theorem dX8_fact_61 : decode cX8_fact 61 = .ok (.iload 5, 2) := by decide +kernel
theorem dX8_fact_63 : decode cX8_fact 63 = .ok (.iastore, 1) := by decide +kernel
theorem dX8_fact_64 : decode cX8_fact 64 = .ok (.aload_n 0, 1) := by decide +kernel
theorem dX8_fact_65 : decode cX8_fact 65 = .ok (.getfield 22, 3) := by decide +kernel
theorem dX8_fact_68 : decode cX8_fact 68 = .ok (.aload_n 0, 1) := by decide +kernel
theorem dX8_fact_69 : decode cX8_fact 69 = .ok (.getfield 104, 3) := by decide +kernel
theorem dX8_fact_72 : decode cX8_fact 72 = .ok (.iload_n 3, 1) := by decide +kernel
theorem dX8_fact_73 : decode cX8_fact 73 = .ok (.iastore, 1) := by decide +kernel
theorem dX8_fact_74 : decode cX8_fact 74 = .ok (.aload_n 0, 1) := by decide +kernel
theorem dX8_fact_75 : decode cX8_fact 75 = .ok (.getfield 25, 3) := by decide +kernel
theorem dX8_fact_78 : decode cX8_fact 78 = .ok (.aload_n 0, 1) := by decide +kernel
theorem dX8_fact_79 : decode cX8_fact 79 = .ok (.getfield 104, 3) := by decide +kernel
theorem dX8_fact_82 : decode cX8_fact 82 = .ok (.iload_n 1, 1) := by decide +kernel
theorem dX8_fact_83 : decode cX8_fact 83 = .ok (.ifCond .eq 8, 3) := by decide +kernel
theorem dX8_fact_86 : decode cX8_fact 86 = .ok (.iload 4, 2) := by decide +kernel
theorem dX8_fact_88 : decode cX8_fact 88 = .ok (.goto 4, 3) := by decide +kernel
theorem dX8_fact_91 : decode cX8_fact 91 = .ok (.iconst 0, 1) := by decide +kernel
theorem dX8_fact_92 : decode cX8_fact 92 = .ok (.iastore, 1) := by decide +kernel
theorem dX8_fact_93 : decode cX8_fact 93 = .ok (.aload_n 0, 1) := by decide +kernel
theorem dX8_fact_94 : decode cX8_fact 94 = .ok (.dup, 1) := by decide +kernel
theorem dX8_fact_95 : decode cX8_fact 95 = .ok (.getfield 104, 3) := by decide +kernel
theorem dX8_fact_98 : decode cX8_fact 98 = .ok (.iconst 1, 1) := by decide +kernel
theorem dX8_fact_99 : decode cX8_fact 99 = .ok (.iadd, 1) := by decide +kernel
theorem dX8_fact_100 : decode cX8_fact 100 = .ok (.putfield 104, 3) := by decide +kernel
theorem dX8_fact_103 : decode cX8_fact 103 = .ok (.iconst 1, 1) := by decide +kernel
theorem dX8_fact_104 : decode cX8_fact 104 = .ok (.ireturn, 1) := by decide +kernel
abbrev cX8_forget : ByteArray := prog_10_method_9_code
def yX8_forget : MethodName := ⟨RX8, "forget", "(ZIII)I"⟩
def wkX8_forget : List Cond := .code yX8_forget cX8_forget 6 (some .int) :: qW
set_option maxRecDepth 40000 in
theorem gkX8_forget : GoodIn qW wkX8_forget := q_good (qw 701 rfl rfl)
set_option maxRecDepth 40000 in
theorem knX8_forget : Cond.instanceMethod yX8_forget ∈ qW := qw 699 rfl rfl
set_option maxRecDepth 40000 in
theorem klX8_forget : Cond.selects RX8 yX8_forget yX8_forget ∈ qW := qw 700 rfl rfl
theorem dX8_forget_0 : decode cX8_forget 0 = .ok (.iload_n 1, 1) := by decide +kernel
theorem dX8_forget_1 : decode cX8_forget 1 = .ok (.iload_n 2, 1) := by decide +kernel
theorem dX8_forget_2 : decode cX8_forget 2 = .ok (.iload_n 3, 1) := by decide +kernel
theorem dX8_forget_3 : decode cX8_forget 3 = .ok (.iload 4, 2) := by decide +kernel
theorem dX8_forget_5 : decode cX8_forget 5 = .ok (.invokestatic 107, 3) := by decide +kernel
theorem dX8_forget_8 : decode cX8_forget 8 = .ok (.ifCond .ne 5, 3) := by decide +kernel
theorem dX8_forget_11 : decode cX8_forget 11 = .ok (.iconst (-1), 1) := by decide +kernel
theorem dX8_forget_12 : decode cX8_forget 12 = .ok (.ireturn, 1) := by decide +kernel
theorem dX8_forget_13 : decode cX8_forget 13 = .ok (.aload_n 0, 1) := by decide +kernel
theorem dX8_forget_14 : decode cX8_forget 14 = .ok (.iload_n 1, 1) := by decide +kernel
theorem dX8_forget_15 : decode cX8_forget 15 = .ok (.ifCond .eq 10, 3) := by decide +kernel
theorem dX8_forget_18 : decode cX8_forget 18 = .ok (.bipush 32, 2) := by decide +kernel
theorem dX8_forget_20 : decode cX8_forget 20 = .ok (.iload_n 2, 1) := by decide +kernel
theorem dX8_forget_21 : decode cX8_forget 21 = .ok (.iadd, 1) := by decide +kernel
theorem dX8_forget_22 : decode cX8_forget 22 = .ok (.goto 4, 3) := by decide +kernel
theorem dX8_forget_25 : decode cX8_forget 25 = .ok (.iload_n 2, 1) := by decide +kernel
theorem dX8_forget_26 : decode cX8_forget 26 = .ok (.iload_n 3, 1) := by decide +kernel
theorem dX8_forget_27 : decode cX8_forget 27 = .ok (.iload 4, 2) := by decide +kernel
theorem dX8_forget_29 : decode cX8_forget 29 = .ok (.invokevirtual 111, 3) := by decide +kernel
theorem dX8_forget_32 : decode cX8_forget 32 = .ok (.istore 5, 2) := by decide +kernel
theorem dX8_forget_34 : decode cX8_forget 34 = .ok (.iload 5, 2) := by decide +kernel
theorem dX8_forget_36 : decode cX8_forget 36 = .ok (.ifCond .ge 5, 3) := by decide +kernel
theorem dX8_forget_39 : decode cX8_forget 39 = .ok (.iconst 0, 1) := by decide +kernel
theorem dX8_forget_40 : decode cX8_forget 40 = .ok (.ireturn, 1) := by decide +kernel
theorem dX8_forget_41 : decode cX8_forget 41 = .ok (.aload_n 0, 1) := by decide +kernel
theorem dX8_forget_42 : decode cX8_forget 42 = .ok (.dup, 1) := by decide +kernel
theorem dX8_forget_43 : decode cX8_forget 43 = .ok (.getfield 104, 3) := by decide +kernel
theorem dX8_forget_46 : decode cX8_forget 46 = .ok (.iconst 1, 1) := by decide +kernel
theorem dX8_forget_47 : decode cX8_forget 47 = .ok (.isub, 1) := by decide +kernel
theorem dX8_forget_48 : decode cX8_forget 48 = .ok (.putfield 104, 3) := by decide +kernel
theorem dX8_forget_51 : decode cX8_forget 51 = .ok (.aload_n 0, 1) := by decide +kernel
theorem dX8_forget_52 : decode cX8_forget 52 = .ok (.getfield 19, 3) := by decide +kernel
theorem dX8_forget_55 : decode cX8_forget 55 = .ok (.iload 5, 2) := by decide +kernel
theorem dX8_forget_57 : decode cX8_forget 57 = .ok (.aload_n 0, 1) := by decide +kernel
theorem dX8_forget_58 : decode cX8_forget 58 = .ok (.getfield 19, 3) := by decide +kernel
theorem dX8_forget_61 : decode cX8_forget 61 = .ok (.aload_n 0, 1) := by decide +kernel
theorem dX8_forget_62 : decode cX8_forget 62 = .ok (.getfield 104, 3) := by decide +kernel
theorem dX8_forget_65 : decode cX8_forget 65 = .ok (.iaload, 1) := by decide +kernel
theorem dX8_forget_66 : decode cX8_forget 66 = .ok (.iastore, 1) := by decide +kernel
theorem dX8_forget_67 : decode cX8_forget 67 = .ok (.aload_n 0, 1) := by decide +kernel
theorem dX8_forget_68 : decode cX8_forget 68 = .ok (.getfield 22, 3) := by decide +kernel
theorem dX8_forget_71 : decode cX8_forget 71 = .ok (.iload 5, 2) := by decide +kernel
theorem dX8_forget_73 : decode cX8_forget 73 = .ok (.aload_n 0, 1) := by decide +kernel
theorem dX8_forget_74 : decode cX8_forget 74 = .ok (.getfield 22, 3) := by decide +kernel
theorem dX8_forget_77 : decode cX8_forget 77 = .ok (.aload_n 0, 1) := by decide +kernel
theorem dX8_forget_78 : decode cX8_forget 78 = .ok (.getfield 104, 3) := by decide +kernel
theorem dX8_forget_81 : decode cX8_forget 81 = .ok (.iaload, 1) := by decide +kernel
theorem dX8_forget_82 : decode cX8_forget 82 = .ok (.iastore, 1) := by decide +kernel
theorem dX8_forget_83 : decode cX8_forget 83 = .ok (.aload_n 0, 1) := by decide +kernel
theorem dX8_forget_84 : decode cX8_forget 84 = .ok (.getfield 25, 3) := by decide +kernel
theorem dX8_forget_87 : decode cX8_forget 87 = .ok (.iload 5, 2) := by decide +kernel
theorem dX8_forget_89 : decode cX8_forget 89 = .ok (.aload_n 0, 1) := by decide +kernel
theorem dX8_forget_90 : decode cX8_forget 90 = .ok (.getfield 25, 3) := by decide +kernel
theorem dX8_forget_93 : decode cX8_forget 93 = .ok (.aload_n 0, 1) := by decide +kernel
theorem dX8_forget_94 : decode cX8_forget 94 = .ok (.getfield 104, 3) := by decide +kernel
theorem dX8_forget_97 : decode cX8_forget 97 = .ok (.iaload, 1) := by decide +kernel
theorem dX8_forget_98 : decode cX8_forget 98 = .ok (.iastore, 1) := by decide +kernel
theorem dX8_forget_99 : decode cX8_forget 99 = .ok (.iconst 1, 1) := by decide +kernel
theorem dX8_forget_100 : decode cX8_forget 100 = .ok (.ireturn, 1) := by decide +kernel
set_option maxRecDepth 40000 in
theorem kmX8_107 : Cond.methodLink RX8 107 yX8_mayBe ∈ qW := qw 691 rfl rfl
set_option maxRecDepth 40000 in
theorem kmX8_111 : Cond.methodLink RX8 111 yX8_factAt ∈ qW := qw 694 rfl rfl
abbrev rm_c_Model_factAt_c : Room := { frames := 0, cells := 0, slots := 0, locals := 0 }
set_option maxHeartbeats 4000000 in
set_option maxRecDepth 100000 in
theorem c_Model_factAt_c (l : Launch) (dC : Nat → ClassId) (dI : Nat → Nat → Nat) (cI cL cQ cZ : ClassId) (x0 : Nat) (ax : Nat) (z1 : Nat) (z2 : Nat) (z3 : Nat) (fc : Nat) (z5 : Nat) (z6 : Nat) (z7 : Nat) (qs : Nat) (z9 : Nat) (z10 : Nat) (z11 : Nat) (z12 : Nat) (z13 : Nat) (hd : Option Nat) (lg : Bool) (fcn : Nat) (z17 : Nat) (z18 : Nat) (z19 : Nat) (md : Nat) (z21 : Nat) (z22 : Nat) (z23 : Nat) (z24 : Nat) (hc : Nat) (z26 : Nat) (z27 : Nat) (z28 : Nat) (z29 : Nat) (z30 : Nat) (z31 : Nat) (sm : Bool) (z33 : Nat) (z34 : Nat) (fn : Nat → Nat) (fo : Nat → Nat) (ft : Nat → Nat) (x : Nat) (a : Nat) (b : Int32) (hfc : fc ≤ 60) (hfn : ∀ j7, fn j7 < 64) (hfo : ∀ j7, fo j7 < 16) (hft : ∀ j7, ft j7 < 16) (hx9 : x < 32) (ha9 : a < 16) : Met l yX8_factAt wkX8_factAt rm_c_Model_factAt_c (q_R (dC, dI) qCl (qT cI cL cQ cZ) [(x0, .inr (8, mO ax z1 z2 z3 fc z5 z6 z7 qs z9 z10 z11 z12 z13 hd lg fcn z17 z18 z19 md z21 z22 z23 z24 hc z26 z27 z28 z29 z30 z31 sm z33 z34)), (z5, .inl (cI, 60, .inl (nF fn))), (z6, .inl (cI, 60, .inl (nF fo))), (z7, .inl (cI, 60, .inl (nF ft)))] [.ref x0, .int (nI (x)), .int (nI (a)), .int (b)]) (vp_Si (fun r => ∃ o9, r = oI o9 ∧ m_fat fn fo ft x a 0 fc o9)) 0 0 (fun _ => False) := by
  refine Met.ofW (cc := cX8_factAt) (maxL := 5) (ret := (some .int)) (by decide) rfl ?_
  intro p e s m args below meth c s₁ B hml hv
  obtain ⟨hargs, hP, hK⟩ := hv
  have hx := B.exec
  have hb := B.bytes
  have hr := B.returns
  have hts : ∀ w ∈ qW, w.before args s = true := fun w h => atoms_spec (ws := wkX8_factAt) B.pre w (List.mem_cons_of_mem _ h)
  have hown : s.vm.findClass RX8 = some m.cls := findClass_of_methodNamed B.named
  have hlocks := B.notSynchronized
  refine q_named (fun Q hQ => ?_)
  refine q_entry hargs (Nat.le_of_ble_eq_true rfl) (fun ls hl => ?_)
  have hl : lv_has ls 5 [(0, .ref x0), (1, .int (nI (x))), (2, .int (nI (a))), (3, .int (b))] := hl
  refine lv_iconst (v := (nI (0))) hx hb dX8_factAt_0 (by decide) ?_
  refine lv_istore (lv' := [(4, .int (nI (0))), (0, .ref x0), (1, .int (nI (x))), (2, .int (nI (a))), (3, .int (b))]) hx hb dX8_factAt_1 hl (by decide) rfl (fun ls hl => ?_)
  have L3 : ∀ (fu : Nat) (i : Nat) (ls : Array Slot), fc - i < fu → (i ≤ fc) → (∀ j, j < i → ¬ m_is fn fo ft x a 0 j) → lv_has ls 5 [(4, .int (nI (i))), (0, .ref x0), (1, .int (nI (x))), (2, .int (nI (a))), (3, .int (b))] → W p l e (headSpec wkX8_factAt rm_c_Model_factAt_c).room s m args below meth c s.heap [] 0 0 Q (F0 m 3 ls []) := by
    intro fu
    induction fu with
    | zero => intro i ls hmu; exact absurd hmu (Nat.not_lt_zero _)
    | succ fu ih3 =>
      intro i ls hmu hi hh hl
      refine lv_iload hx hb dX8_factAt_3 (lv_at hl 0 rfl) ?_
      refine lv_aload_n hx hb dX8_factAt_5 rfl (lv_at hl 1 rfl) ?_
      refine va_get (D := (dC, dI)) (ci := 8) (v := .int (nI (fc))) (C := RX8) (T := TX8) (N := 35) hx hb hts uX8 hown hK hP 0 rfl rfl 4 (by decide) (hts _ kfX8_104) (fun _ h9 => h9) rfl dX8_factAt_6 ?_
      refine q_icmp_ge (x := i) (y := fc) (tgt := 60) hx hb dX8_factAt_9 (by decide) (by omega) (by omega) (fun c9_1 => ?_) (fun c9_1 => ?_)
      · refine lv_iconst (v := (oI (none))) hx hb dX8_factAt_60 (by decide) ?_
        subst hQ
        exact W.iret (v := (oI (none))) hx hb hr (fun t9 h9 _ => ⟨_, rfl, show ∃ o9, (oI (none)) = oI o9 ∧ m_fat fn fo ft x a 0 fc o9 from by (exact ⟨none, rfl, fun j hj => hh j (by omega)⟩), h9⟩) (fun q hq => by cases hq) dX8_factAt_61
      · refine lv_aload_n hx hb dX8_factAt_12 rfl (lv_at hl 1 rfl) ?_
        refine va_get (D := (dC, dI)) (ci := 8) (v := .ref z5) (C := RX8) (T := TX8) (N := 35) hx hb hts uX8 hown hK hP 0 rfl rfl 5 (by decide) (hts _ kfX8_19) (fun _ h9 => h9) rfl dX8_factAt_13 ?_
        refine lv_iload hx hb dX8_factAt_16 (lv_at hl 0 rfl) ?_
        refine q_ialdN hx hb hK hP 1 0 rfl rfl (j := i) (by omega) (by omega) dX8_factAt_18 ?_
        have bd2 := hfn i
        refine lv_iload_n hx hb dX8_factAt_19 rfl (lv_at hl 2 rfl) ?_
        refine q_icmp_ne (x := fn i) (y := x) (tgt := 54) hx hb dX8_factAt_20 (by decide) (by omega) (by omega) (fun c20_3 => ?_) (fun c20_3 => ?_)
        · refine lv_iinc (v := (nI (i + 1))) (lv' := [(4, .int (nI (i + 1))), (0, .ref x0), (1, .int (nI (x))), (2, .int (nI (a))), (3, .int (b))]) hx hb dX8_factAt_54 hl (k := 0) rfl (q_inc _) (by decide) rfl (fun ls hl => ?_)
          refine lv_goto (tgt := 3) hx hb dX8_factAt_57 (by decide) ?_
          exact ih3 (i + 1) ls (by omega) (show (i + 1) ≤ fc from by omega) (show ∀ j, j < (i + 1) → ¬ m_is fn fo ft x a 0 j from by (exact lt_s hh (fun h9 => by unfold m_is at h9; omega))) (lv_sub hl [0, 1, 2, 3, 4] rfl)
        · refine lv_aload_n hx hb dX8_factAt_23 rfl (lv_at hl 1 rfl) ?_
          refine va_get (D := (dC, dI)) (ci := 8) (v := .ref z6) (C := RX8) (T := TX8) (N := 35) hx hb hts uX8 hown hK hP 0 rfl rfl 6 (by decide) (hts _ kfX8_22) (fun _ h9 => h9) rfl dX8_factAt_24 ?_
          refine lv_iload hx hb dX8_factAt_27 (lv_at hl 0 rfl) ?_
          refine q_ialdN hx hb hK hP 2 0 rfl rfl (j := i) (by omega) (by omega) dX8_factAt_29 ?_
          have bd4 := hfo i
          refine lv_iload_n hx hb dX8_factAt_30 rfl (lv_at hl 3 rfl) ?_
          refine q_icmp_ne (x := fo i) (y := a) (tgt := 54) hx hb dX8_factAt_31 (by decide) (by omega) (by omega) (fun c31_5 => ?_) (fun c31_5 => ?_)
          · refine lv_iinc (v := (nI (i + 1))) (lv' := [(4, .int (nI (i + 1))), (0, .ref x0), (1, .int (nI (x))), (2, .int (nI (a))), (3, .int (b))]) hx hb dX8_factAt_54 hl (k := 0) rfl (q_inc _) (by decide) rfl (fun ls hl => ?_)
            refine lv_goto (tgt := 3) hx hb dX8_factAt_57 (by decide) ?_
            exact ih3 (i + 1) ls (by omega) (show (i + 1) ≤ fc from by omega) (show ∀ j, j < (i + 1) → ¬ m_is fn fo ft x a 0 j from by (exact lt_s hh (fun h9 => by unfold m_is at h9; omega))) (lv_sub hl [0, 1, 2, 3, 4] rfl)
          · refine lv_iload_n hx hb dX8_factAt_34 rfl (lv_at hl 2 rfl) ?_
            refine lv_bipush (v := (nI (32))) hx hb dX8_factAt_35 (by decide) ?_
            refine q_icmp_lt (x := x) (y := 32) (tgt := 51) hx hb dX8_factAt_37 (by decide) (by omega) (by omega) (fun c37_6 => ?_) (fun c37_6 => ?_)
            · refine lv_iload hx hb dX8_factAt_51 (lv_at hl 0 rfl) ?_
              subst hQ
              exact W.iret (v := (nI (i))) hx hb hr (fun t9 h9 _ => ⟨_, rfl, show ∃ o9, (nI (i)) = oI o9 ∧ m_fat fn fo ft x a 0 fc o9 from by (exact ⟨some i, rfl, by omega, by unfold m_is; omega, hh⟩), h9⟩) (fun q hq => by cases hq) dX8_factAt_53
            · (exfalso; omega)
  exact L3 _ 0 ls (by exact Nat.lt_succ_self _) (show 0 ≤ fc from by omega) (show ∀ j, j < 0 → ¬ m_is fn fo ft x a 0 j from by (intro j hj; omega)) (lv_sub hl [0, 1, 2, 3, 4] rfl)
abbrev rm_c_Model_fact : Room := { frames := 2, cells := 0, slots := 0, locals := 45 }
set_option maxHeartbeats 4000000 in
set_option maxRecDepth 100000 in
theorem c_Model_fact (l : Launch) (dC : Nat → ClassId) (dI : Nat → Nat → Nat) (cI cL cQ cZ : ClassId) (x0 : Nat) (ax : Nat) (z1 : Nat) (z2 : Nat) (z3 : Nat) (fc : Nat) (z5 : Nat) (z6 : Nat) (z7 : Nat) (qs : Nat) (z9 : Nat) (z10 : Nat) (z11 : Nat) (z12 : Nat) (z13 : Nat) (hd : Option Nat) (lg : Bool) (fcn : Nat) (z17 : Nat) (z18 : Nat) (z19 : Nat) (md : Nat) (z21 : Nat) (z22 : Nat) (z23 : Nat) (z24 : Nat) (hc : Nat) (z26 : Nat) (z27 : Nat) (z28 : Nat) (z29 : Nat) (z30 : Nat) (z31 : Nat) (sm : Bool) (z33 : Nat) (z34 : Nat) (fn : Nat → Nat) (fo : Nat → Nat) (ft : Nat → Nat) (ro : Bool) (x : Int32) (a : Int32) (b : Int32) (hfc : fc ≤ 60) (hfn : ∀ j7, fn j7 < 64) (hfo : ∀ j7, fo j7 < 16) (hft : ∀ j7, ft j7 < 16) : Met l yX8_fact wkX8_fact rm_c_Model_fact (q_W (dC, dI) qCl (qT cI cL cQ cZ) [(x0, .inr (8, mO ax z1 z2 z3 fc z5 z6 z7 qs z9 z10 z11 z12 z13 hd lg fcn z17 z18 z19 md z21 z22 z23 z24 hc z26 z27 z28 z29 z30 z31 sm z33 z34)), (z5, .inl (cI, 60, .inl (nF fn))), (z6, .inl (cI, 60, .inl (nF fo))), (z7, .inl (cI, 60, .inl (nF ft)))] [.ref x0, .int (bI (ro)), .int (x), .int (a), .int (b)]) (va_Qi (fun (r : Int32) (u : Int32 × Nat × (Nat → Nat) × (Nat → Nat) × (Nat → Nat)) => (r = (u.1)) ∧ (s_fct ro x a b fc fn fo ft u.1 u.2.1 u.2.2.1 u.2.2.2.1 u.2.2.2.2)) (fun (u : Int32 × Nat × (Nat → Nat) × (Nat → Nat) × (Nat → Nat)) t => va_P (dC, dI) qCl [(x0, .inr (8, mO ax z1 z2 z3 u.2.1 z5 z6 z7 qs z9 z10 z11 z12 z13 hd lg fcn z17 z18 z19 md z21 z22 z23 z24 hc z26 z27 z28 z29 z30 z31 sm z33 z34)), (z5, .inl (cI, 60, .inl (nF u.2.2.1))), (z6, .inl (cI, 60, .inl (nF u.2.2.2.1))), (z7, .inl (cI, 60, .inl (nF u.2.2.2.2)))] t.heap) (q_A [(x0, .inr (8, mO ax z1 z2 z3 fc z5 z6 z7 qs z9 z10 z11 z12 z13 hd lg fcn z17 z18 z19 md z21 z22 z23 z24 hc z26 z27 z28 z29 z30 z31 sm z33 z34)), (z5, .inl (cI, 60, .inl (nF fn))), (z6, .inl (cI, 60, .inl (nF fo))), (z7, .inl (cI, 60, .inl (nF ft)))])) 0 0 (q_A [(x0, .inr (8, mO ax z1 z2 z3 fc z5 z6 z7 qs z9 z10 z11 z12 z13 hd lg fcn z17 z18 z19 md z21 z22 z23 z24 hc z26 z27 z28 z29 z30 z31 sm z33 z34)), (z5, .inl (cI, 60, .inl (nF fn))), (z6, .inl (cI, 60, .inl (nF fo))), (z7, .inl (cI, 60, .inl (nF ft)))]) := by
  refine Met.ofW (cc := cX8_fact) (maxL := 6) (ret := (some .int)) (by decide) rfl ?_
  intro p e s m args below meth c s₁ B hml hv
  obtain ⟨hargs, hP, hK, hD0⟩ := hv
  have hx := B.exec
  have hb := B.bytes
  have hr := B.returns
  have hts : ∀ w ∈ qW, w.before args s = true := fun w h => atoms_spec (ws := wkX8_fact) B.pre w (List.mem_cons_of_mem _ h)
  have hown : s.vm.findClass RX8 = some m.cls := findClass_of_methodNamed B.named
  have hlocks := B.notSynchronized
  refine q_named (fun Q hQ => ?_)
  have hD : va_D (q_A [(x0, .inr (8, mO ax z1 z2 z3 fc z5 z6 z7 qs z9 z10 z11 z12 z13 hd lg fcn z17 z18 z19 md z21 z22 z23 z24 hc z26 z27 z28 z29 z30 z31 sm z33 z34)), (z5, .inl (cI, 60, .inl (nF fn))), (z6, .inl (cI, 60, .inl (nF fo))), (z7, .inl (cI, 60, .inl (nF ft)))]) [(x0, .inr (8, mO ax z1 z2 z3 fc z5 z6 z7 qs z9 z10 z11 z12 z13 hd lg fcn z17 z18 z19 md z21 z22 z23 z24 hc z26 z27 z28 z29 z30 z31 sm z33 z34)), (z5, .inl (cI, 60, .inl (nF fn))), (z6, .inl (cI, 60, .inl (nF fo))), (z7, .inl (cI, 60, .inl (nF ft)))] := ⟨hD0.1, fun k q h => ⟨k, q.2, h⟩⟩
  generalize hAe : q_A [(x0, .inr (8, mO ax z1 z2 z3 fc z5 z6 z7 qs z9 z10 z11 z12 z13 hd lg fcn z17 z18 z19 md z21 z22 z23 z24 hc z26 z27 z28 z29 z30 z31 sm z33 z34)), (z5, .inl (cI, 60, .inl (nF fn))), (z6, .inl (cI, 60, .inl (nF fo))), (z7, .inl (cI, 60, .inl (nF ft)))] = A at hD
  have hS : va_S A s.heap s.heap [] := va_S.rf
  refine q_entry hargs (Nat.le_of_ble_eq_true rfl) (fun ls hl => ?_)
  have hl : lv_has ls 6 [(0, .ref x0), (1, .int (bI (ro))), (2, .int (x)), (3, .int (a)), (4, .int (b))] := hl
  obtain ⟨H, locs, eH, eL⟩ : ∃ (H : Heap) (locs : List Loc), s.heap = H ∧ ([] : List Loc) = locs := ⟨_, _, rfl, rfl⟩
  have hS : va_S A s.heap H locs := by rw [← eH, ← eL]; exact hS
  have hP : va_P (dC, dI) qCl [(x0, .inr (8, mO ax z1 z2 z3 fc z5 z6 z7 qs z9 z10 z11 z12 z13 hd lg fcn z17 z18 z19 md z21 z22 z23 z24 hc z26 z27 z28 z29 z30 z31 sm z33 z34)), (z5, .inl (cI, 60, .inl (nF fn))), (z6, .inl (cI, 60, .inl (nF fo))), (z7, .inl (cI, 60, .inl (nF ft)))] H := by rw [← eH]; exact hP
  refine W_at eH eL ?_
  refine lv_iload_n hx hb dX8_fact_0 rfl (lv_at hl 1 rfl) ?_
  refine lv_iload_n hx hb dX8_fact_1 rfl (lv_at hl 2 rfl) ?_
  refine lv_iload_n hx hb dX8_fact_2 rfl (lv_at hl 3 rfl) ?_
  refine lv_iload hx hb dX8_fact_3 (lv_at hl 4 rfl) ?_
  refine vp_callSi (va_Run.run (va_runS (As := [.int (bI (ro)), .int (x), .int (a), .int (b)]) (rest := []) ⟨hx, hb, hml, hown, hts⟩ (c_Model_mayBe l dC dI cI cL cQ cZ ro x a b ) (q_cwS 4 hts gkX8_mayBe kmX8_107 ksX8_mayBe kiX8 rfl rfl rfl (by decide +kernel) ⟨Nat.le_of_ble_eq_true rfl, Nat.le_of_ble_eq_true rfl⟩) (q_preS hK hP [] rfl) rfl rfl hl.1 rfl (lv_room (Nat.le_of_ble_eq_true rfl)) dX8_fact_5 ⟨Nat.zero_le _, Nat.zero_le _⟩)) (fun r1 hr1 => ?_)
  subst hr1
  refine q_ifb_ne (b := m_may ro x a b) (tgt := 13) hx hb dX8_fact_8 (by decide) (fun c8_2 => ?_) (fun c8_2 => ?_)
  · refine lv_iload_n hx hb dX8_fact_13 rfl (lv_at hl 1 rfl) ?_
    refine q_ifb_eq (b := ro) (tgt := 24) hx hb dX8_fact_14 (by decide) (fun c14_3 => ?_) (fun c14_3 => ?_)
    · obtain ⟨x9, a9, hx8, ha8, ex9, ea9⟩ := m_may_c (by assumption) (by assumption)
      have hl := lv_updv hl 2 rfl (show (.int (x) : Value) = .int (nI (x9)) from (congrArg Value.int ex9))
      have hl : lv_has ls 6 [(0, .ref x0), (1, .int (bI (ro))), (2, .int (nI (x9))), (3, .int (a)), (4, .int (b))] := hl
      have hl := lv_updv hl 3 rfl (show (.int (a) : Value) = .int (nI (a9)) from (congrArg Value.int ea9))
      have hl : lv_has ls 6 [(0, .ref x0), (1, .int (bI (ro))), (2, .int (nI (x9))), (3, .int (nI (a9))), (4, .int (b))] := hl
      have hsf : s_fx ro x a b x9 a9 0 := Or.inr ⟨by assumption, x9, a9, hx8, ha8, ex9, ea9, rfl, rfl, rfl⟩
      refine lv_iload_n hx hb dX8_fact_24 rfl (lv_at hl 2 rfl) ?_
      refine lv_istore (lv' := [(5, .int (nI (x9))), (0, .ref x0), (1, .int (bI (ro))), (2, .int (nI (x9))), (3, .int (nI (a9))), (4, .int (b))]) hx hb dX8_fact_25 hl (by decide) rfl (fun ls hl => ?_)
      refine lv_aload_n hx hb dX8_fact_27 rfl (lv_at hl 1 rfl) ?_
      refine lv_iload hx hb dX8_fact_28 (lv_at hl 0 rfl) ?_
      refine lv_iload_n hx hb dX8_fact_30 rfl (lv_at hl 4 rfl) ?_
      refine lv_iload hx hb dX8_fact_31 (lv_at hl 5 rfl) ?_
      refine vp_callSi (va_Run.run (va_runV (As := [.int (nI (x9)), .int (nI (a9)), .int (b)]) (rest := []) ⟨hx, hb, hml, hown, hts⟩ (c_Model_factAt_c l dC dI cI cL cQ cZ x0 ax z1 z2 z3 fc z5 z6 z7 qs z9 z10 z11 z12 z13 hd lg fcn z17 z18 z19 md z21 z22 z23 z24 hc z26 z27 z28 z29 z30 z31 sm z33 z34 fn fo ft x9 a9 b (show fc ≤ 60 from by first | assumption | omega) (show ∀ j7, fn j7 < 64 from by first | assumption | omega) (show ∀ j7, fo j7 < 16 from by first | assumption | omega) (show ∀ j7, ft j7 < 16 from by first | assumption | omega) (show x9 < 32 from by first | assumption | omega) (show a9 < 16 from by first | assumption | omega)) (q_cwV 3 hts gkX8_factAt kmX8_111 knX8_factAt klX8_factAt kiX8 rfl rfl rfl (by decide +kernel) ⟨Nat.le_of_ble_eq_true rfl, Nat.le_of_ble_eq_true rfl⟩) (q_preV hK hP [0, 1, 2, 3] rfl 0 (ci := 8) (r := (RX8, TX8, 35)) rfl rfl) rfl rfl hl.1 rfl (lv_room (Nat.le_of_ble_eq_true rfl)) dX8_fact_33 ⟨Nat.zero_le _, Nat.zero_le _⟩)) (fun r4 hr4 => ?_)
      have hr4 : ∃ o9, r4 = oI o9 ∧ m_fat fn fo ft x9 a9 0 fc o9 := hr4
      have hlast := hr4
      obtain ⟨o9, ey9, hf9⟩ := hlast
      refine q_top (show (r4) = (oI (o9)) from ey9) ?_
      refine q_ifO_lt (x := o9) (tgt := 41) hx hb dX8_fact_36 (by decide) (by (intro k9 h9; have := m_fat_lt hf9 h9; omega)) (fun c36_5 => ?_) (fun c36_5 => ?_)
      · refine lv_aload_n hx hb dX8_fact_41 rfl (lv_at hl 1 rfl) ?_
        refine va_get (D := (dC, dI)) (ci := 8) (v := .int (nI (fc))) (C := RX8) (T := TX8) (N := 35) hx hb hts uX8 hown hK hP 0 rfl rfl 4 (by decide) (hts _ kfX8_104) (fun _ h9 => h9) rfl dX8_fact_42 ?_
        refine lv_bipush (v := (nI (60))) hx hb dX8_fact_45 (by decide) ?_
        refine q_icmp_ne (x := fc) (y := 60) (tgt := 53) hx hb dX8_fact_47 (by decide) (by omega) (by omega) (fun c47_6 => ?_) (fun c47_6 => ?_)
        · refine lv_aload_n hx hb dX8_fact_53 rfl (lv_at hl 1 rfl) ?_
          refine va_get (D := (dC, dI)) (ci := 8) (v := .ref z5) (C := RX8) (T := TX8) (N := 35) hx hb hts uX8 hown hK hP 0 rfl rfl 5 (by decide) (hts _ kfX8_19) (fun _ h9 => h9) rfl dX8_fact_54 ?_
          refine lv_aload_n hx hb dX8_fact_57 rfl (lv_at hl 1 rfl) ?_
          refine va_get (D := (dC, dI)) (ci := 8) (v := .int (nI (fc))) (C := RX8) (T := TX8) (N := 35) hx hb hts uX8 hown hK hP 0 rfl rfl 4 (by decide) (hts _ kfX8_104) (fun _ h9 => h9) rfl dX8_fact_58 ?_
          refine lv_iload hx hb dX8_fact_61 (lv_at hl 0 rfl) ?_
          refine q_iastN hx hb hK hP hD hS 1 0 rfl rfl (j := fc) (x := x9) (by omega) (by omega) dX8_fact_63 (fun H locs hP hD hS => ?_)
          have hP : va_P (dC, dI) qCl [(x0, .inr (8, mO ax z1 z2 z3 fc z5 z6 z7 qs z9 z10 z11 z12 z13 hd lg fcn z17 z18 z19 md z21 z22 z23 z24 hc z26 z27 z28 z29 z30 z31 sm z33 z34)), (z5, .inl (cI, 60, .inl (nF (va_up fn fc x9)))), (z6, .inl (cI, 60, .inl (nF fo))), (z7, .inl (cI, 60, .inl (nF ft)))] H := hP
          have hD : va_D A [(x0, .inr (8, mO ax z1 z2 z3 fc z5 z6 z7 qs z9 z10 z11 z12 z13 hd lg fcn z17 z18 z19 md z21 z22 z23 z24 hc z26 z27 z28 z29 z30 z31 sm z33 z34)), (z5, .inl (cI, 60, .inl (nF (va_up fn fc x9)))), (z6, .inl (cI, 60, .inl (nF fo))), (z7, .inl (cI, 60, .inl (nF ft)))] := hD
          refine lv_aload_n hx hb dX8_fact_64 rfl (lv_at hl 1 rfl) ?_
          refine va_get (D := (dC, dI)) (ci := 8) (v := .ref z6) (C := RX8) (T := TX8) (N := 35) hx hb hts uX8 hown hK hP 0 rfl rfl 6 (by decide) (hts _ kfX8_22) (fun _ h9 => h9) rfl dX8_fact_65 ?_
          refine lv_aload_n hx hb dX8_fact_68 rfl (lv_at hl 1 rfl) ?_
          refine va_get (D := (dC, dI)) (ci := 8) (v := .int (nI (fc))) (C := RX8) (T := TX8) (N := 35) hx hb hts uX8 hown hK hP 0 rfl rfl 4 (by decide) (hts _ kfX8_104) (fun _ h9 => h9) rfl dX8_fact_69 ?_
          refine lv_iload_n hx hb dX8_fact_72 rfl (lv_at hl 4 rfl) ?_
          refine q_iastN hx hb hK hP hD hS 2 0 rfl rfl (j := fc) (x := a9) (by omega) (by omega) dX8_fact_73 (fun H locs hP hD hS => ?_)
          have hP : va_P (dC, dI) qCl [(x0, .inr (8, mO ax z1 z2 z3 fc z5 z6 z7 qs z9 z10 z11 z12 z13 hd lg fcn z17 z18 z19 md z21 z22 z23 z24 hc z26 z27 z28 z29 z30 z31 sm z33 z34)), (z5, .inl (cI, 60, .inl (nF (va_up fn fc x9)))), (z6, .inl (cI, 60, .inl (nF (va_up fo fc a9)))), (z7, .inl (cI, 60, .inl (nF ft)))] H := hP
          have hD : va_D A [(x0, .inr (8, mO ax z1 z2 z3 fc z5 z6 z7 qs z9 z10 z11 z12 z13 hd lg fcn z17 z18 z19 md z21 z22 z23 z24 hc z26 z27 z28 z29 z30 z31 sm z33 z34)), (z5, .inl (cI, 60, .inl (nF (va_up fn fc x9)))), (z6, .inl (cI, 60, .inl (nF (va_up fo fc a9)))), (z7, .inl (cI, 60, .inl (nF ft)))] := hD
          refine lv_aload_n hx hb dX8_fact_74 rfl (lv_at hl 1 rfl) ?_
          refine va_get (D := (dC, dI)) (ci := 8) (v := .ref z7) (C := RX8) (T := TX8) (N := 35) hx hb hts uX8 hown hK hP 0 rfl rfl 7 (by decide) (hts _ kfX8_25) (fun _ h9 => h9) rfl dX8_fact_75 ?_
          refine lv_aload_n hx hb dX8_fact_78 rfl (lv_at hl 1 rfl) ?_
          refine va_get (D := (dC, dI)) (ci := 8) (v := .int (nI (fc))) (C := RX8) (T := TX8) (N := 35) hx hb hts uX8 hown hK hP 0 rfl rfl 4 (by decide) (hts _ kfX8_104) (fun _ h9 => h9) rfl dX8_fact_79 ?_
          refine lv_iload_n hx hb dX8_fact_82 rfl (lv_at hl 2 rfl) ?_
          refine q_ifb_eq (b := ro) (tgt := 91) hx hb dX8_fact_83 (by decide) (fun c83_7 => ?_) (fun c83_7 => ?_)
          · refine lv_iconst (v := (nI (0))) hx hb dX8_fact_91 (by decide) ?_
            refine q_iastN hx hb hK hP hD hS 3 0 rfl rfl (j := fc) (x := 0) (by omega) (by omega) dX8_fact_92 (fun H locs hP hD hS => ?_)
            have hP : va_P (dC, dI) qCl [(x0, .inr (8, mO ax z1 z2 z3 fc z5 z6 z7 qs z9 z10 z11 z12 z13 hd lg fcn z17 z18 z19 md z21 z22 z23 z24 hc z26 z27 z28 z29 z30 z31 sm z33 z34)), (z5, .inl (cI, 60, .inl (nF (va_up fn fc x9)))), (z6, .inl (cI, 60, .inl (nF (va_up fo fc a9)))), (z7, .inl (cI, 60, .inl (nF (va_up ft fc 0))))] H := hP
            have hD : va_D A [(x0, .inr (8, mO ax z1 z2 z3 fc z5 z6 z7 qs z9 z10 z11 z12 z13 hd lg fcn z17 z18 z19 md z21 z22 z23 z24 hc z26 z27 z28 z29 z30 z31 sm z33 z34)), (z5, .inl (cI, 60, .inl (nF (va_up fn fc x9)))), (z6, .inl (cI, 60, .inl (nF (va_up fo fc a9)))), (z7, .inl (cI, 60, .inl (nF (va_up ft fc 0))))] := hD
            refine lv_aload_n hx hb dX8_fact_93 rfl (lv_at hl 1 rfl) ?_
            refine lv_dup hx hb dX8_fact_94 rfl ?_
            refine va_get (D := (dC, dI)) (ci := 8) (v := .int (nI (fc))) (C := RX8) (T := TX8) (N := 35) hx hb hts uX8 hown hK hP 0 rfl rfl 4 (by decide) (hts _ kfX8_104) (fun _ h9 => h9) rfl dX8_fact_95 ?_
            refine lv_iconst (v := (nI (1))) hx hb dX8_fact_98 (by decide) ?_
            refine q_iadd (x := fc) (y := 1) hx hb dX8_fact_99 ?_
            refine va_put (D := (dC, dI)) (ci := 8) (v := .int (nI (fc + 1))) (ty := .int) (C := RX8) (T := TX8) (N := 35) hx hb hts uX8 tyX8 tyX8_ok nmX8 hown hK hP hD hS 0 rfl rfl 4 (by decide) (hts _ kfX8_104) (fun _ h9 => h9) rfl (by decide +kernel) (rfl) (rfl) (Nat.le_of_ble_eq_true rfl) dX8_fact_100 (fun H locs hP hD hS => ?_)
            have hP : va_P (dC, dI) qCl [(x0, .inr (8, mO ax z1 z2 z3 (fc + 1) z5 z6 z7 qs z9 z10 z11 z12 z13 hd lg fcn z17 z18 z19 md z21 z22 z23 z24 hc z26 z27 z28 z29 z30 z31 sm z33 z34)), (z5, .inl (cI, 60, .inl (nF (va_up fn fc x9)))), (z6, .inl (cI, 60, .inl (nF (va_up fo fc a9)))), (z7, .inl (cI, 60, .inl (nF (va_up ft fc 0))))] H := hP
            have hD : va_D A [(x0, .inr (8, mO ax z1 z2 z3 (fc + 1) z5 z6 z7 qs z9 z10 z11 z12 z13 hd lg fcn z17 z18 z19 md z21 z22 z23 z24 hc z26 z27 z28 z29 z30 z31 sm z33 z34)), (z5, .inl (cI, 60, .inl (nF (va_up fn fc x9)))), (z6, .inl (cI, 60, .inl (nF (va_up fo fc a9)))), (z7, .inl (cI, 60, .inl (nF (va_up ft fc 0))))] := hD
            refine lv_iconst (v := (nI (1))) hx hb dX8_fact_103 (by decide) ?_
            subst hQ
            subst hAe
            have hP9 := hP.sub (ws' := [(x0, .inr (8, mO ax z1 z2 z3 (fc + 1) z5 z6 z7 qs z9 z10 z11 z12 z13 hd lg fcn z17 z18 z19 md z21 z22 z23 z24 hc z26 z27 z28 z29 z30 z31 sm z33 z34)), (z5, .inl (cI, 60, .inl (nF (va_up fn fc x9)))), (z6, .inl (cI, 60, .inl (nF (va_up fo fc a9)))), (z7, .inl (cI, 60, .inl (nF (va_up ft fc 0))))]) [0, 1, 2, 3] rfl
            exact W.iret (v := (nI (1))) hx hb hr (fun t9 h9 _ => ⟨⟨(nI (1)), (nI (1), fc + 1, va_up fn fc x9, va_up fo fc a9, va_up ft fc 0), rfl, ⟨rfl, (show s_fct ro x a b fc fn fo ft (nI (1)) (fc + 1) (va_up fn fc x9) (va_up fo fc a9) (va_up ft fc 0) from by (first | (exact b_no (x := ro) (by assumption) (by assumption)) | (exact Or.inr ⟨by assumption, _, _, _, hsf, o9, hf9, Or.inr (Or.inr ⟨by assumption, by assumption, rfl, rfl, rfl, rfl, rfl⟩)⟩)))⟩, by show va_P _ _ _ t9.heap; rw [h9]; exact hP9⟩, hS.F h9⟩) hS.2.2 dX8_fact_104
          · exact b_no (x := ro) (by assumption) (by assumption)
        · refine lv_bipush (v := (-2)) hx hb dX8_fact_50 (by decide) ?_
          subst hQ
          subst hAe
          have hP9 := hP.sub (ws' := [(x0, .inr (8, mO ax z1 z2 z3 fc z5 z6 z7 qs z9 z10 z11 z12 z13 hd lg fcn z17 z18 z19 md z21 z22 z23 z24 hc z26 z27 z28 z29 z30 z31 sm z33 z34)), (z5, .inl (cI, 60, .inl (nF fn))), (z6, .inl (cI, 60, .inl (nF fo))), (z7, .inl (cI, 60, .inl (nF ft)))]) [0, 1, 2, 3] rfl
          exact W.iret (v := (-2)) hx hb hr (fun t9 h9 _ => ⟨⟨(-2), (-2, fc, fn, fo, ft), rfl, ⟨rfl, (show s_fct ro x a b fc fn fo ft (-2) fc fn fo ft from by (exact Or.inr ⟨by assumption, _, _, _, hsf, o9, hf9, Or.inr (Or.inl ⟨by assumption, by assumption, rfl, rfl, rfl, rfl, rfl⟩)⟩))⟩, by show va_P _ _ _ t9.heap; rw [h9]; exact hP9⟩, hS.F h9⟩) hS.2.2 dX8_fact_52
      · refine lv_iconst (v := (nI (0))) hx hb dX8_fact_39 (by decide) ?_
        subst hQ
        subst hAe
        have hP9 := hP.sub (ws' := [(x0, .inr (8, mO ax z1 z2 z3 fc z5 z6 z7 qs z9 z10 z11 z12 z13 hd lg fcn z17 z18 z19 md z21 z22 z23 z24 hc z26 z27 z28 z29 z30 z31 sm z33 z34)), (z5, .inl (cI, 60, .inl (nF fn))), (z6, .inl (cI, 60, .inl (nF fo))), (z7, .inl (cI, 60, .inl (nF ft)))]) [0, 1, 2, 3] rfl
        exact W.iret (v := (nI (0))) hx hb hr (fun t9 h9 _ => ⟨⟨(nI (0)), (nI (0), fc, fn, fo, ft), rfl, ⟨rfl, (show s_fct ro x a b fc fn fo ft (nI (0)) fc fn fo ft from by (exact Or.inr ⟨by assumption, _, _, _, hsf, o9, hf9, Or.inl ⟨by assumption, rfl, rfl, rfl, rfl, rfl⟩⟩))⟩, by show va_P _ _ _ t9.heap; rw [h9]; exact hP9⟩, hS.F h9⟩) hS.2.2 dX8_fact_40
    · obtain ⟨x9, a9, b9, hx8, ha8, hb8, ex9, ea9, eb9⟩ := m_may_r (by assumption) (by assumption)
      have hl := lv_updv hl 2 rfl (show (.int (x) : Value) = .int (nI (x9)) from (congrArg Value.int ex9))
      have hl : lv_has ls 6 [(0, .ref x0), (1, .int (bI (ro))), (2, .int (nI (x9))), (3, .int (a)), (4, .int (b))] := hl
      have hl := lv_updv hl 3 rfl (show (.int (a) : Value) = .int (nI (a9)) from (congrArg Value.int ea9))
      have hl : lv_has ls 6 [(0, .ref x0), (1, .int (bI (ro))), (2, .int (nI (x9))), (3, .int (nI (a9))), (4, .int (b))] := hl
      have hl := lv_updv hl 4 rfl (show (.int (b) : Value) = .int (nI (b9)) from (congrArg Value.int eb9))
      have hl : lv_has ls 6 [(0, .ref x0), (1, .int (bI (ro))), (2, .int (nI (x9))), (3, .int (nI (a9))), (4, .int (nI (b9)))] := hl
      have hsf : s_fx ro x a b (32 + x9) a9 b9 := Or.inl ⟨by assumption, x9, a9, b9, hx8, ha8, hb8, ex9, ea9, eb9, rfl, rfl, rfl⟩
      refine lv_bipush (v := (nI (32))) hx hb dX8_fact_17 (by decide) ?_
      refine lv_iload_n hx hb dX8_fact_19 rfl (lv_at hl 2 rfl) ?_
      refine q_iadd (x := 32) (y := x9) hx hb dX8_fact_20 ?_
      refine lv_goto (tgt := 25) hx hb dX8_fact_21 (by decide) ?_
      refine lv_istore (lv' := [(5, .int (nI (32 + x9))), (0, .ref x0), (1, .int (bI (ro))), (2, .int (nI (x9))), (3, .int (nI (a9))), (4, .int (nI (b9)))]) hx hb dX8_fact_25 hl (by decide) rfl (fun ls hl => ?_)
      refine lv_aload_n hx hb dX8_fact_27 rfl (lv_at hl 1 rfl) ?_
      refine lv_iload hx hb dX8_fact_28 (lv_at hl 0 rfl) ?_
      refine lv_iload_n hx hb dX8_fact_30 rfl (lv_at hl 4 rfl) ?_
      refine lv_iload hx hb dX8_fact_31 (lv_at hl 5 rfl) ?_
      refine vp_callSi (va_Run.run (va_runV (As := [.int (nI (32 + x9)), .int (nI (a9)), .int (nI (b9))]) (rest := []) ⟨hx, hb, hml, hown, hts⟩ (c_Model_factAt l dC dI cI cL cQ cZ x0 ax z1 z2 z3 fc z5 z6 z7 qs z9 z10 z11 z12 z13 hd lg fcn z17 z18 z19 md z21 z22 z23 z24 hc z26 z27 z28 z29 z30 z31 sm z33 z34 fn fo ft (32 + x9) a9 b9 (show fc ≤ 60 from by first | assumption | omega) (show ∀ j, fn j < 64 from by first | assumption | omega) (show ∀ j, fo j < 16 from by first | assumption | omega) (show ∀ j, ft j < 16 from by first | assumption | omega) (show (32 + x9) < 64 from by first | assumption | omega) (show a9 < 16 from by first | assumption | omega) (show b9 < 16 from by first | assumption | omega)) (q_cwV 3 hts gkX8_factAt kmX8_111 knX8_factAt klX8_factAt kiX8 rfl rfl rfl (by decide +kernel) ⟨Nat.le_of_ble_eq_true rfl, Nat.le_of_ble_eq_true rfl⟩) (q_preV hK hP [0, 1, 2, 3] rfl 0 (ci := 8) (r := (RX8, TX8, 35)) rfl rfl) rfl rfl hl.1 rfl (lv_room (Nat.le_of_ble_eq_true rfl)) dX8_fact_33 ⟨Nat.zero_le _, Nat.zero_le _⟩)) (fun r8 hr8 => ?_)
      have hr8 : ∃ o9, r8 = oI o9 ∧ m_fat fn fo ft (32 + x9) a9 b9 fc o9 := hr8
      have hlast := hr8
      obtain ⟨o9, ey9, hf9⟩ := hlast
      refine q_top (show (r8) = (oI (o9)) from ey9) ?_
      refine q_ifO_lt (x := o9) (tgt := 41) hx hb dX8_fact_36 (by decide) (by (intro k9 h9; have := m_fat_lt hf9 h9; omega)) (fun c36_9 => ?_) (fun c36_9 => ?_)
      · refine lv_aload_n hx hb dX8_fact_41 rfl (lv_at hl 1 rfl) ?_
        refine va_get (D := (dC, dI)) (ci := 8) (v := .int (nI (fc))) (C := RX8) (T := TX8) (N := 35) hx hb hts uX8 hown hK hP 0 rfl rfl 4 (by decide) (hts _ kfX8_104) (fun _ h9 => h9) rfl dX8_fact_42 ?_
        refine lv_bipush (v := (nI (60))) hx hb dX8_fact_45 (by decide) ?_
        refine q_icmp_ne (x := fc) (y := 60) (tgt := 53) hx hb dX8_fact_47 (by decide) (by omega) (by omega) (fun c47_10 => ?_) (fun c47_10 => ?_)
        · refine lv_aload_n hx hb dX8_fact_53 rfl (lv_at hl 1 rfl) ?_
          refine va_get (D := (dC, dI)) (ci := 8) (v := .ref z5) (C := RX8) (T := TX8) (N := 35) hx hb hts uX8 hown hK hP 0 rfl rfl 5 (by decide) (hts _ kfX8_19) (fun _ h9 => h9) rfl dX8_fact_54 ?_
          refine lv_aload_n hx hb dX8_fact_57 rfl (lv_at hl 1 rfl) ?_
          refine va_get (D := (dC, dI)) (ci := 8) (v := .int (nI (fc))) (C := RX8) (T := TX8) (N := 35) hx hb hts uX8 hown hK hP 0 rfl rfl 4 (by decide) (hts _ kfX8_104) (fun _ h9 => h9) rfl dX8_fact_58 ?_
          refine lv_iload hx hb dX8_fact_61 (lv_at hl 0 rfl) ?_
          refine q_iastN hx hb hK hP hD hS 1 0 rfl rfl (j := fc) (x := 32 + x9) (by omega) (by omega) dX8_fact_63 (fun H locs hP hD hS => ?_)
          have hP : va_P (dC, dI) qCl [(x0, .inr (8, mO ax z1 z2 z3 fc z5 z6 z7 qs z9 z10 z11 z12 z13 hd lg fcn z17 z18 z19 md z21 z22 z23 z24 hc z26 z27 z28 z29 z30 z31 sm z33 z34)), (z5, .inl (cI, 60, .inl (nF (va_up fn fc (32 + x9))))), (z6, .inl (cI, 60, .inl (nF fo))), (z7, .inl (cI, 60, .inl (nF ft)))] H := hP
          have hD : va_D A [(x0, .inr (8, mO ax z1 z2 z3 fc z5 z6 z7 qs z9 z10 z11 z12 z13 hd lg fcn z17 z18 z19 md z21 z22 z23 z24 hc z26 z27 z28 z29 z30 z31 sm z33 z34)), (z5, .inl (cI, 60, .inl (nF (va_up fn fc (32 + x9))))), (z6, .inl (cI, 60, .inl (nF fo))), (z7, .inl (cI, 60, .inl (nF ft)))] := hD
          refine lv_aload_n hx hb dX8_fact_64 rfl (lv_at hl 1 rfl) ?_
          refine va_get (D := (dC, dI)) (ci := 8) (v := .ref z6) (C := RX8) (T := TX8) (N := 35) hx hb hts uX8 hown hK hP 0 rfl rfl 6 (by decide) (hts _ kfX8_22) (fun _ h9 => h9) rfl dX8_fact_65 ?_
          refine lv_aload_n hx hb dX8_fact_68 rfl (lv_at hl 1 rfl) ?_
          refine va_get (D := (dC, dI)) (ci := 8) (v := .int (nI (fc))) (C := RX8) (T := TX8) (N := 35) hx hb hts uX8 hown hK hP 0 rfl rfl 4 (by decide) (hts _ kfX8_104) (fun _ h9 => h9) rfl dX8_fact_69 ?_
          refine lv_iload_n hx hb dX8_fact_72 rfl (lv_at hl 4 rfl) ?_
          refine q_iastN hx hb hK hP hD hS 2 0 rfl rfl (j := fc) (x := a9) (by omega) (by omega) dX8_fact_73 (fun H locs hP hD hS => ?_)
          have hP : va_P (dC, dI) qCl [(x0, .inr (8, mO ax z1 z2 z3 fc z5 z6 z7 qs z9 z10 z11 z12 z13 hd lg fcn z17 z18 z19 md z21 z22 z23 z24 hc z26 z27 z28 z29 z30 z31 sm z33 z34)), (z5, .inl (cI, 60, .inl (nF (va_up fn fc (32 + x9))))), (z6, .inl (cI, 60, .inl (nF (va_up fo fc a9)))), (z7, .inl (cI, 60, .inl (nF ft)))] H := hP
          have hD : va_D A [(x0, .inr (8, mO ax z1 z2 z3 fc z5 z6 z7 qs z9 z10 z11 z12 z13 hd lg fcn z17 z18 z19 md z21 z22 z23 z24 hc z26 z27 z28 z29 z30 z31 sm z33 z34)), (z5, .inl (cI, 60, .inl (nF (va_up fn fc (32 + x9))))), (z6, .inl (cI, 60, .inl (nF (va_up fo fc a9)))), (z7, .inl (cI, 60, .inl (nF ft)))] := hD
          refine lv_aload_n hx hb dX8_fact_74 rfl (lv_at hl 1 rfl) ?_
          refine va_get (D := (dC, dI)) (ci := 8) (v := .ref z7) (C := RX8) (T := TX8) (N := 35) hx hb hts uX8 hown hK hP 0 rfl rfl 7 (by decide) (hts _ kfX8_25) (fun _ h9 => h9) rfl dX8_fact_75 ?_
          refine lv_aload_n hx hb dX8_fact_78 rfl (lv_at hl 1 rfl) ?_
          refine va_get (D := (dC, dI)) (ci := 8) (v := .int (nI (fc))) (C := RX8) (T := TX8) (N := 35) hx hb hts uX8 hown hK hP 0 rfl rfl 4 (by decide) (hts _ kfX8_104) (fun _ h9 => h9) rfl dX8_fact_79 ?_
          refine lv_iload_n hx hb dX8_fact_82 rfl (lv_at hl 2 rfl) ?_
          refine q_ifb_eq (b := ro) (tgt := 91) hx hb dX8_fact_83 (by decide) (fun c83_11 => ?_) (fun c83_11 => ?_)
          · refine lv_iconst (v := (nI (0))) hx hb dX8_fact_91 (by decide) ?_
            refine q_iastN hx hb hK hP hD hS 3 0 rfl rfl (j := fc) (x := 0) (by omega) (by omega) dX8_fact_92 (fun H locs hP hD hS => ?_)
            have hP : va_P (dC, dI) qCl [(x0, .inr (8, mO ax z1 z2 z3 fc z5 z6 z7 qs z9 z10 z11 z12 z13 hd lg fcn z17 z18 z19 md z21 z22 z23 z24 hc z26 z27 z28 z29 z30 z31 sm z33 z34)), (z5, .inl (cI, 60, .inl (nF (va_up fn fc (32 + x9))))), (z6, .inl (cI, 60, .inl (nF (va_up fo fc a9)))), (z7, .inl (cI, 60, .inl (nF (va_up ft fc 0))))] H := hP
            have hD : va_D A [(x0, .inr (8, mO ax z1 z2 z3 fc z5 z6 z7 qs z9 z10 z11 z12 z13 hd lg fcn z17 z18 z19 md z21 z22 z23 z24 hc z26 z27 z28 z29 z30 z31 sm z33 z34)), (z5, .inl (cI, 60, .inl (nF (va_up fn fc (32 + x9))))), (z6, .inl (cI, 60, .inl (nF (va_up fo fc a9)))), (z7, .inl (cI, 60, .inl (nF (va_up ft fc 0))))] := hD
            refine lv_aload_n hx hb dX8_fact_93 rfl (lv_at hl 1 rfl) ?_
            refine lv_dup hx hb dX8_fact_94 rfl ?_
            refine va_get (D := (dC, dI)) (ci := 8) (v := .int (nI (fc))) (C := RX8) (T := TX8) (N := 35) hx hb hts uX8 hown hK hP 0 rfl rfl 4 (by decide) (hts _ kfX8_104) (fun _ h9 => h9) rfl dX8_fact_95 ?_
            refine lv_iconst (v := (nI (1))) hx hb dX8_fact_98 (by decide) ?_
            refine q_iadd (x := fc) (y := 1) hx hb dX8_fact_99 ?_
            refine va_put (D := (dC, dI)) (ci := 8) (v := .int (nI (fc + 1))) (ty := .int) (C := RX8) (T := TX8) (N := 35) hx hb hts uX8 tyX8 tyX8_ok nmX8 hown hK hP hD hS 0 rfl rfl 4 (by decide) (hts _ kfX8_104) (fun _ h9 => h9) rfl (by decide +kernel) (rfl) (rfl) (Nat.le_of_ble_eq_true rfl) dX8_fact_100 (fun H locs hP hD hS => ?_)
            have hP : va_P (dC, dI) qCl [(x0, .inr (8, mO ax z1 z2 z3 (fc + 1) z5 z6 z7 qs z9 z10 z11 z12 z13 hd lg fcn z17 z18 z19 md z21 z22 z23 z24 hc z26 z27 z28 z29 z30 z31 sm z33 z34)), (z5, .inl (cI, 60, .inl (nF (va_up fn fc (32 + x9))))), (z6, .inl (cI, 60, .inl (nF (va_up fo fc a9)))), (z7, .inl (cI, 60, .inl (nF (va_up ft fc 0))))] H := hP
            have hD : va_D A [(x0, .inr (8, mO ax z1 z2 z3 (fc + 1) z5 z6 z7 qs z9 z10 z11 z12 z13 hd lg fcn z17 z18 z19 md z21 z22 z23 z24 hc z26 z27 z28 z29 z30 z31 sm z33 z34)), (z5, .inl (cI, 60, .inl (nF (va_up fn fc (32 + x9))))), (z6, .inl (cI, 60, .inl (nF (va_up fo fc a9)))), (z7, .inl (cI, 60, .inl (nF (va_up ft fc 0))))] := hD
            refine lv_iconst (v := (nI (1))) hx hb dX8_fact_103 (by decide) ?_
            subst hQ
            subst hAe
            have hP9 := hP.sub (ws' := [(x0, .inr (8, mO ax z1 z2 z3 (fc + 1) z5 z6 z7 qs z9 z10 z11 z12 z13 hd lg fcn z17 z18 z19 md z21 z22 z23 z24 hc z26 z27 z28 z29 z30 z31 sm z33 z34)), (z5, .inl (cI, 60, .inl (nF (va_up fn fc (32 + x9))))), (z6, .inl (cI, 60, .inl (nF (va_up fo fc a9)))), (z7, .inl (cI, 60, .inl (nF (va_up ft fc 0))))]) [0, 1, 2, 3] rfl
            exact W.iret (v := (nI (1))) hx hb hr (fun t9 h9 _ => ⟨⟨(nI (1)), (nI (1), fc + 1, va_up fn fc (32 + x9), va_up fo fc a9, va_up ft fc 0), rfl, ⟨rfl, (show s_fct ro x a b fc fn fo ft (nI (1)) (fc + 1) (va_up fn fc (32 + x9)) (va_up fo fc a9) (va_up ft fc 0) from by (first | (exact b_no (x := ro) (by assumption) (by assumption)) | (exact Or.inr ⟨by assumption, _, _, _, hsf, o9, hf9, Or.inr (Or.inr ⟨by assumption, by assumption, rfl, rfl, rfl, rfl, rfl⟩)⟩)))⟩, by show va_P _ _ _ t9.heap; rw [h9]; exact hP9⟩, hS.F h9⟩) hS.2.2 dX8_fact_104
          · refine lv_iload hx hb dX8_fact_86 (lv_at hl 5 rfl) ?_
            refine lv_goto (tgt := 92) hx hb dX8_fact_88 (by decide) ?_
            refine q_iastN hx hb hK hP hD hS 3 0 rfl rfl (j := fc) (x := b9) (by omega) (by omega) dX8_fact_92 (fun H locs hP hD hS => ?_)
            have hP : va_P (dC, dI) qCl [(x0, .inr (8, mO ax z1 z2 z3 fc z5 z6 z7 qs z9 z10 z11 z12 z13 hd lg fcn z17 z18 z19 md z21 z22 z23 z24 hc z26 z27 z28 z29 z30 z31 sm z33 z34)), (z5, .inl (cI, 60, .inl (nF (va_up fn fc (32 + x9))))), (z6, .inl (cI, 60, .inl (nF (va_up fo fc a9)))), (z7, .inl (cI, 60, .inl (nF (va_up ft fc b9))))] H := hP
            have hD : va_D A [(x0, .inr (8, mO ax z1 z2 z3 fc z5 z6 z7 qs z9 z10 z11 z12 z13 hd lg fcn z17 z18 z19 md z21 z22 z23 z24 hc z26 z27 z28 z29 z30 z31 sm z33 z34)), (z5, .inl (cI, 60, .inl (nF (va_up fn fc (32 + x9))))), (z6, .inl (cI, 60, .inl (nF (va_up fo fc a9)))), (z7, .inl (cI, 60, .inl (nF (va_up ft fc b9))))] := hD
            refine lv_aload_n hx hb dX8_fact_93 rfl (lv_at hl 1 rfl) ?_
            refine lv_dup hx hb dX8_fact_94 rfl ?_
            refine va_get (D := (dC, dI)) (ci := 8) (v := .int (nI (fc))) (C := RX8) (T := TX8) (N := 35) hx hb hts uX8 hown hK hP 0 rfl rfl 4 (by decide) (hts _ kfX8_104) (fun _ h9 => h9) rfl dX8_fact_95 ?_
            refine lv_iconst (v := (nI (1))) hx hb dX8_fact_98 (by decide) ?_
            refine q_iadd (x := fc) (y := 1) hx hb dX8_fact_99 ?_
            refine va_put (D := (dC, dI)) (ci := 8) (v := .int (nI (fc + 1))) (ty := .int) (C := RX8) (T := TX8) (N := 35) hx hb hts uX8 tyX8 tyX8_ok nmX8 hown hK hP hD hS 0 rfl rfl 4 (by decide) (hts _ kfX8_104) (fun _ h9 => h9) rfl (by decide +kernel) (rfl) (rfl) (Nat.le_of_ble_eq_true rfl) dX8_fact_100 (fun H locs hP hD hS => ?_)
            have hP : va_P (dC, dI) qCl [(x0, .inr (8, mO ax z1 z2 z3 (fc + 1) z5 z6 z7 qs z9 z10 z11 z12 z13 hd lg fcn z17 z18 z19 md z21 z22 z23 z24 hc z26 z27 z28 z29 z30 z31 sm z33 z34)), (z5, .inl (cI, 60, .inl (nF (va_up fn fc (32 + x9))))), (z6, .inl (cI, 60, .inl (nF (va_up fo fc a9)))), (z7, .inl (cI, 60, .inl (nF (va_up ft fc b9))))] H := hP
            have hD : va_D A [(x0, .inr (8, mO ax z1 z2 z3 (fc + 1) z5 z6 z7 qs z9 z10 z11 z12 z13 hd lg fcn z17 z18 z19 md z21 z22 z23 z24 hc z26 z27 z28 z29 z30 z31 sm z33 z34)), (z5, .inl (cI, 60, .inl (nF (va_up fn fc (32 + x9))))), (z6, .inl (cI, 60, .inl (nF (va_up fo fc a9)))), (z7, .inl (cI, 60, .inl (nF (va_up ft fc b9))))] := hD
            refine lv_iconst (v := (nI (1))) hx hb dX8_fact_103 (by decide) ?_
            subst hQ
            subst hAe
            have hP9 := hP.sub (ws' := [(x0, .inr (8, mO ax z1 z2 z3 (fc + 1) z5 z6 z7 qs z9 z10 z11 z12 z13 hd lg fcn z17 z18 z19 md z21 z22 z23 z24 hc z26 z27 z28 z29 z30 z31 sm z33 z34)), (z5, .inl (cI, 60, .inl (nF (va_up fn fc (32 + x9))))), (z6, .inl (cI, 60, .inl (nF (va_up fo fc a9)))), (z7, .inl (cI, 60, .inl (nF (va_up ft fc b9))))]) [0, 1, 2, 3] rfl
            exact W.iret (v := (nI (1))) hx hb hr (fun t9 h9 _ => ⟨⟨(nI (1)), (nI (1), fc + 1, va_up fn fc (32 + x9), va_up fo fc a9, va_up ft fc b9), rfl, ⟨rfl, (show s_fct ro x a b fc fn fo ft (nI (1)) (fc + 1) (va_up fn fc (32 + x9)) (va_up fo fc a9) (va_up ft fc b9) from by (first | (exact b_no (x := ro) (by assumption) (by assumption)) | (exact Or.inr ⟨by assumption, _, _, _, hsf, o9, hf9, Or.inr (Or.inr ⟨by assumption, by assumption, rfl, rfl, rfl, rfl, rfl⟩)⟩)))⟩, by show va_P _ _ _ t9.heap; rw [h9]; exact hP9⟩, hS.F h9⟩) hS.2.2 dX8_fact_104
        · refine lv_bipush (v := (-2)) hx hb dX8_fact_50 (by decide) ?_
          subst hQ
          subst hAe
          have hP9 := hP.sub (ws' := [(x0, .inr (8, mO ax z1 z2 z3 fc z5 z6 z7 qs z9 z10 z11 z12 z13 hd lg fcn z17 z18 z19 md z21 z22 z23 z24 hc z26 z27 z28 z29 z30 z31 sm z33 z34)), (z5, .inl (cI, 60, .inl (nF fn))), (z6, .inl (cI, 60, .inl (nF fo))), (z7, .inl (cI, 60, .inl (nF ft)))]) [0, 1, 2, 3] rfl
          exact W.iret (v := (-2)) hx hb hr (fun t9 h9 _ => ⟨⟨(-2), (-2, fc, fn, fo, ft), rfl, ⟨rfl, (show s_fct ro x a b fc fn fo ft (-2) fc fn fo ft from by (exact Or.inr ⟨by assumption, _, _, _, hsf, o9, hf9, Or.inr (Or.inl ⟨by assumption, by assumption, rfl, rfl, rfl, rfl, rfl⟩)⟩))⟩, by show va_P _ _ _ t9.heap; rw [h9]; exact hP9⟩, hS.F h9⟩) hS.2.2 dX8_fact_52
      · refine lv_iconst (v := (nI (0))) hx hb dX8_fact_39 (by decide) ?_
        subst hQ
        subst hAe
        have hP9 := hP.sub (ws' := [(x0, .inr (8, mO ax z1 z2 z3 fc z5 z6 z7 qs z9 z10 z11 z12 z13 hd lg fcn z17 z18 z19 md z21 z22 z23 z24 hc z26 z27 z28 z29 z30 z31 sm z33 z34)), (z5, .inl (cI, 60, .inl (nF fn))), (z6, .inl (cI, 60, .inl (nF fo))), (z7, .inl (cI, 60, .inl (nF ft)))]) [0, 1, 2, 3] rfl
        exact W.iret (v := (nI (0))) hx hb hr (fun t9 h9 _ => ⟨⟨(nI (0)), (nI (0), fc, fn, fo, ft), rfl, ⟨rfl, (show s_fct ro x a b fc fn fo ft (nI (0)) fc fn fo ft from by (exact Or.inr ⟨by assumption, _, _, _, hsf, o9, hf9, Or.inl ⟨by assumption, rfl, rfl, rfl, rfl, rfl⟩⟩))⟩, by show va_P _ _ _ t9.heap; rw [h9]; exact hP9⟩, hS.F h9⟩) hS.2.2 dX8_fact_40
  · refine lv_iconst (v := (oI (none))) hx hb dX8_fact_11 (by decide) ?_
    subst hQ
    subst hAe
    have hP9 := hP.sub (ws' := [(x0, .inr (8, mO ax z1 z2 z3 fc z5 z6 z7 qs z9 z10 z11 z12 z13 hd lg fcn z17 z18 z19 md z21 z22 z23 z24 hc z26 z27 z28 z29 z30 z31 sm z33 z34)), (z5, .inl (cI, 60, .inl (nF fn))), (z6, .inl (cI, 60, .inl (nF fo))), (z7, .inl (cI, 60, .inl (nF ft)))]) [0, 1, 2, 3] rfl
    exact W.iret (v := (oI (none))) hx hb hr (fun t9 h9 _ => ⟨⟨(oI (none)), (oI (none), fc, fn, fo, ft), rfl, ⟨rfl, (show s_fct ro x a b fc fn fo ft (oI (none)) fc fn fo ft from by (exact Or.inl ⟨by assumption, rfl, rfl, rfl, rfl, rfl⟩))⟩, by show va_P _ _ _ t9.heap; rw [h9]; exact hP9⟩, hS.F h9⟩) hS.2.2 dX8_fact_12
abbrev rm_c_Model_forget : Room := { frames := 2, cells := 0, slots := 0, locals := 45 }
set_option maxHeartbeats 4000000 in
set_option maxRecDepth 100000 in
theorem c_Model_forget (l : Launch) (dC : Nat → ClassId) (dI : Nat → Nat → Nat) (cI cL cQ cZ : ClassId) (x0 : Nat) (ax : Nat) (z1 : Nat) (z2 : Nat) (z3 : Nat) (fc : Nat) (z5 : Nat) (z6 : Nat) (z7 : Nat) (qs : Nat) (z9 : Nat) (z10 : Nat) (z11 : Nat) (z12 : Nat) (z13 : Nat) (hd : Option Nat) (lg : Bool) (fcn : Nat) (z17 : Nat) (z18 : Nat) (z19 : Nat) (md : Nat) (z21 : Nat) (z22 : Nat) (z23 : Nat) (z24 : Nat) (hc : Nat) (z26 : Nat) (z27 : Nat) (z28 : Nat) (z29 : Nat) (z30 : Nat) (z31 : Nat) (sm : Bool) (z33 : Nat) (z34 : Nat) (fn : Nat → Nat) (fo : Nat → Nat) (ft : Nat → Nat) (ro : Bool) (x : Int32) (a : Int32) (b : Int32) (hfc : fc ≤ 60) (hfn : ∀ j7, fn j7 < 64) (hfo : ∀ j7, fo j7 < 16) (hft : ∀ j7, ft j7 < 16) : Met l yX8_forget wkX8_forget rm_c_Model_forget (q_W (dC, dI) qCl (qT cI cL cQ cZ) [(x0, .inr (8, mO ax z1 z2 z3 fc z5 z6 z7 qs z9 z10 z11 z12 z13 hd lg fcn z17 z18 z19 md z21 z22 z23 z24 hc z26 z27 z28 z29 z30 z31 sm z33 z34)), (z5, .inl (cI, 60, .inl (nF fn))), (z6, .inl (cI, 60, .inl (nF fo))), (z7, .inl (cI, 60, .inl (nF ft)))] [.ref x0, .int (bI (ro)), .int (x), .int (a), .int (b)]) (va_Qi (fun (r : Int32) (u : Int32 × Nat × (Nat → Nat) × (Nat → Nat) × (Nat → Nat)) => (r = (u.1)) ∧ (s_fgt ro x a b fc fn fo ft u.1 u.2.1 u.2.2.1 u.2.2.2.1 u.2.2.2.2)) (fun (u : Int32 × Nat × (Nat → Nat) × (Nat → Nat) × (Nat → Nat)) t => va_P (dC, dI) qCl [(x0, .inr (8, mO ax z1 z2 z3 u.2.1 z5 z6 z7 qs z9 z10 z11 z12 z13 hd lg fcn z17 z18 z19 md z21 z22 z23 z24 hc z26 z27 z28 z29 z30 z31 sm z33 z34)), (z5, .inl (cI, 60, .inl (nF u.2.2.1))), (z6, .inl (cI, 60, .inl (nF u.2.2.2.1))), (z7, .inl (cI, 60, .inl (nF u.2.2.2.2)))] t.heap) (q_A [(x0, .inr (8, mO ax z1 z2 z3 fc z5 z6 z7 qs z9 z10 z11 z12 z13 hd lg fcn z17 z18 z19 md z21 z22 z23 z24 hc z26 z27 z28 z29 z30 z31 sm z33 z34)), (z5, .inl (cI, 60, .inl (nF fn))), (z6, .inl (cI, 60, .inl (nF fo))), (z7, .inl (cI, 60, .inl (nF ft)))])) 0 0 (q_A [(x0, .inr (8, mO ax z1 z2 z3 fc z5 z6 z7 qs z9 z10 z11 z12 z13 hd lg fcn z17 z18 z19 md z21 z22 z23 z24 hc z26 z27 z28 z29 z30 z31 sm z33 z34)), (z5, .inl (cI, 60, .inl (nF fn))), (z6, .inl (cI, 60, .inl (nF fo))), (z7, .inl (cI, 60, .inl (nF ft)))]) := by
  refine Met.ofW (cc := cX8_forget) (maxL := 6) (ret := (some .int)) (by decide) rfl ?_
  intro p e s m args below meth c s₁ B hml hv
  obtain ⟨hargs, hP, hK, hD0⟩ := hv
  have hx := B.exec
  have hb := B.bytes
  have hr := B.returns
  have hts : ∀ w ∈ qW, w.before args s = true := fun w h => atoms_spec (ws := wkX8_forget) B.pre w (List.mem_cons_of_mem _ h)
  have hown : s.vm.findClass RX8 = some m.cls := findClass_of_methodNamed B.named
  have hlocks := B.notSynchronized
  refine q_named (fun Q hQ => ?_)
  have hD : va_D (q_A [(x0, .inr (8, mO ax z1 z2 z3 fc z5 z6 z7 qs z9 z10 z11 z12 z13 hd lg fcn z17 z18 z19 md z21 z22 z23 z24 hc z26 z27 z28 z29 z30 z31 sm z33 z34)), (z5, .inl (cI, 60, .inl (nF fn))), (z6, .inl (cI, 60, .inl (nF fo))), (z7, .inl (cI, 60, .inl (nF ft)))]) [(x0, .inr (8, mO ax z1 z2 z3 fc z5 z6 z7 qs z9 z10 z11 z12 z13 hd lg fcn z17 z18 z19 md z21 z22 z23 z24 hc z26 z27 z28 z29 z30 z31 sm z33 z34)), (z5, .inl (cI, 60, .inl (nF fn))), (z6, .inl (cI, 60, .inl (nF fo))), (z7, .inl (cI, 60, .inl (nF ft)))] := ⟨hD0.1, fun k q h => ⟨k, q.2, h⟩⟩
  generalize hAe : q_A [(x0, .inr (8, mO ax z1 z2 z3 fc z5 z6 z7 qs z9 z10 z11 z12 z13 hd lg fcn z17 z18 z19 md z21 z22 z23 z24 hc z26 z27 z28 z29 z30 z31 sm z33 z34)), (z5, .inl (cI, 60, .inl (nF fn))), (z6, .inl (cI, 60, .inl (nF fo))), (z7, .inl (cI, 60, .inl (nF ft)))] = A at hD
  have hS : va_S A s.heap s.heap [] := va_S.rf
  refine q_entry hargs (Nat.le_of_ble_eq_true rfl) (fun ls hl => ?_)
  have hl : lv_has ls 6 [(0, .ref x0), (1, .int (bI (ro))), (2, .int (x)), (3, .int (a)), (4, .int (b))] := hl
  obtain ⟨H, locs, eH, eL⟩ : ∃ (H : Heap) (locs : List Loc), s.heap = H ∧ ([] : List Loc) = locs := ⟨_, _, rfl, rfl⟩
  have hS : va_S A s.heap H locs := by rw [← eH, ← eL]; exact hS
  have hP : va_P (dC, dI) qCl [(x0, .inr (8, mO ax z1 z2 z3 fc z5 z6 z7 qs z9 z10 z11 z12 z13 hd lg fcn z17 z18 z19 md z21 z22 z23 z24 hc z26 z27 z28 z29 z30 z31 sm z33 z34)), (z5, .inl (cI, 60, .inl (nF fn))), (z6, .inl (cI, 60, .inl (nF fo))), (z7, .inl (cI, 60, .inl (nF ft)))] H := by rw [← eH]; exact hP
  refine W_at eH eL ?_
  refine lv_iload_n hx hb dX8_forget_0 rfl (lv_at hl 1 rfl) ?_
  refine lv_iload_n hx hb dX8_forget_1 rfl (lv_at hl 2 rfl) ?_
  refine lv_iload_n hx hb dX8_forget_2 rfl (lv_at hl 3 rfl) ?_
  refine lv_iload hx hb dX8_forget_3 (lv_at hl 4 rfl) ?_
  refine vp_callSi (va_Run.run (va_runS (As := [.int (bI (ro)), .int (x), .int (a), .int (b)]) (rest := []) ⟨hx, hb, hml, hown, hts⟩ (c_Model_mayBe l dC dI cI cL cQ cZ ro x a b ) (q_cwS 4 hts gkX8_mayBe kmX8_107 ksX8_mayBe kiX8 rfl rfl rfl (by decide +kernel) ⟨Nat.le_of_ble_eq_true rfl, Nat.le_of_ble_eq_true rfl⟩) (q_preS hK hP [] rfl) rfl rfl hl.1 rfl (lv_room (Nat.le_of_ble_eq_true rfl)) dX8_forget_5 ⟨Nat.zero_le _, Nat.zero_le _⟩)) (fun r1 hr1 => ?_)
  subst hr1
  refine q_ifb_ne (b := m_may ro x a b) (tgt := 13) hx hb dX8_forget_8 (by decide) (fun c8_2 => ?_) (fun c8_2 => ?_)
  · refine lv_aload_n hx hb dX8_forget_13 rfl (lv_at hl 0 rfl) ?_
    refine lv_iload_n hx hb dX8_forget_14 rfl (lv_at hl 1 rfl) ?_
    refine q_ifb_eq (b := ro) (tgt := 25) hx hb dX8_forget_15 (by decide) (fun c15_3 => ?_) (fun c15_3 => ?_)
    · obtain ⟨x9, a9, hx8, ha8, ex9, ea9⟩ := m_may_c (by assumption) (by assumption)
      have hl := lv_updv hl 2 rfl (show (.int (x) : Value) = .int (nI (x9)) from (congrArg Value.int ex9))
      have hl : lv_has ls 6 [(0, .ref x0), (1, .int (bI (ro))), (2, .int (nI (x9))), (3, .int (a)), (4, .int (b))] := hl
      have hl := lv_updv hl 3 rfl (show (.int (a) : Value) = .int (nI (a9)) from (congrArg Value.int ea9))
      have hl : lv_has ls 6 [(0, .ref x0), (1, .int (bI (ro))), (2, .int (nI (x9))), (3, .int (nI (a9))), (4, .int (b))] := hl
      have hsf : s_fx ro x a b x9 a9 0 := Or.inr ⟨by assumption, x9, a9, hx8, ha8, ex9, ea9, rfl, rfl, rfl⟩
      refine lv_iload_n hx hb dX8_forget_25 rfl (lv_at hl 2 rfl) ?_
      refine lv_iload_n hx hb dX8_forget_26 rfl (lv_at hl 3 rfl) ?_
      refine lv_iload hx hb dX8_forget_27 (lv_at hl 4 rfl) ?_
      refine vp_callSi (va_Run.run (va_runV (As := [.int (nI (x9)), .int (nI (a9)), .int (b)]) (rest := []) ⟨hx, hb, hml, hown, hts⟩ (c_Model_factAt_c l dC dI cI cL cQ cZ x0 ax z1 z2 z3 fc z5 z6 z7 qs z9 z10 z11 z12 z13 hd lg fcn z17 z18 z19 md z21 z22 z23 z24 hc z26 z27 z28 z29 z30 z31 sm z33 z34 fn fo ft x9 a9 b (show fc ≤ 60 from by first | assumption | omega) (show ∀ j7, fn j7 < 64 from by first | assumption | omega) (show ∀ j7, fo j7 < 16 from by first | assumption | omega) (show ∀ j7, ft j7 < 16 from by first | assumption | omega) (show x9 < 32 from by first | assumption | omega) (show a9 < 16 from by first | assumption | omega)) (q_cwV 3 hts gkX8_factAt kmX8_111 knX8_factAt klX8_factAt kiX8 rfl rfl rfl (by decide +kernel) ⟨Nat.le_of_ble_eq_true rfl, Nat.le_of_ble_eq_true rfl⟩) (q_preV hK hP [0, 1, 2, 3] rfl 0 (ci := 8) (r := (RX8, TX8, 35)) rfl rfl) rfl rfl hl.1 rfl (lv_room (Nat.le_of_ble_eq_true rfl)) dX8_forget_29 ⟨Nat.zero_le _, Nat.zero_le _⟩)) (fun r4 hr4 => ?_)
      have hr4 : ∃ o9, r4 = oI o9 ∧ m_fat fn fo ft x9 a9 0 fc o9 := hr4
      have hlast := hr4
      obtain ⟨o9, ey9, hf9⟩ := hlast
      refine q_top (show (r4) = (oI (o9)) from ey9) ?_
      refine lv_istore (lv' := [(5, .int (oI (o9))), (0, .ref x0), (1, .int (bI (ro))), (2, .int (nI (x9))), (3, .int (nI (a9))), (4, .int (b))]) hx hb dX8_forget_32 hl (by decide) rfl (fun ls hl => ?_)
      refine lv_iload hx hb dX8_forget_34 (lv_at hl 0 rfl) ?_
      refine q_ifO_ge (x := o9) (tgt := 41) hx hb dX8_forget_36 (by decide) (by (intro k9 h9; have := m_fat_lt hf9 h9; omega)) (fun c36_5 => ?_) (fun c36_5 => ?_)
      · obtain ⟨k9, ek9⟩ : ∃ k9, o9 = some k9 := Option.ne_none_iff_exists'.mp (by assumption)
        have hk9 := m_fat_lt hf9 ek9
        have hl := lv_updv hl 0 rfl (show (.int (oI (o9)) : Value) = .int (nI (k9)) from (by rw [ek9]; rfl))
        have hl : lv_has ls 6 [(5, .int (nI (k9))), (0, .ref x0), (1, .int (bI (ro))), (2, .int (nI (x9))), (3, .int (nI (a9))), (4, .int (b))] := hl
        refine lv_aload_n hx hb dX8_forget_41 rfl (lv_at hl 1 rfl) ?_
        refine lv_dup hx hb dX8_forget_42 rfl ?_
        refine va_get (D := (dC, dI)) (ci := 8) (v := .int (nI (fc))) (C := RX8) (T := TX8) (N := 35) hx hb hts uX8 hown hK hP 0 rfl rfl 4 (by decide) (hts _ kfX8_104) (fun _ h9 => h9) rfl dX8_forget_43 ?_
        refine lv_iconst (v := (nI (1))) hx hb dX8_forget_46 (by decide) ?_
        refine q_isub (x := fc) (y := 1) hx hb (by omega) dX8_forget_47 ?_
        refine va_put (D := (dC, dI)) (ci := 8) (v := .int (nI (fc - 1))) (ty := .int) (C := RX8) (T := TX8) (N := 35) hx hb hts uX8 tyX8 tyX8_ok nmX8 hown hK hP hD hS 0 rfl rfl 4 (by decide) (hts _ kfX8_104) (fun _ h9 => h9) rfl (by decide +kernel) (rfl) (rfl) (Nat.le_of_ble_eq_true rfl) dX8_forget_48 (fun H locs hP hD hS => ?_)
        have hP : va_P (dC, dI) qCl [(x0, .inr (8, mO ax z1 z2 z3 (fc - 1) z5 z6 z7 qs z9 z10 z11 z12 z13 hd lg fcn z17 z18 z19 md z21 z22 z23 z24 hc z26 z27 z28 z29 z30 z31 sm z33 z34)), (z5, .inl (cI, 60, .inl (nF fn))), (z6, .inl (cI, 60, .inl (nF fo))), (z7, .inl (cI, 60, .inl (nF ft)))] H := hP
        have hD : va_D A [(x0, .inr (8, mO ax z1 z2 z3 (fc - 1) z5 z6 z7 qs z9 z10 z11 z12 z13 hd lg fcn z17 z18 z19 md z21 z22 z23 z24 hc z26 z27 z28 z29 z30 z31 sm z33 z34)), (z5, .inl (cI, 60, .inl (nF fn))), (z6, .inl (cI, 60, .inl (nF fo))), (z7, .inl (cI, 60, .inl (nF ft)))] := hD
        refine lv_aload_n hx hb dX8_forget_51 rfl (lv_at hl 1 rfl) ?_
        refine va_get (D := (dC, dI)) (ci := 8) (v := .ref z5) (C := RX8) (T := TX8) (N := 35) hx hb hts uX8 hown hK hP 0 rfl rfl 5 (by decide) (hts _ kfX8_19) (fun _ h9 => h9) rfl dX8_forget_52 ?_
        refine lv_iload hx hb dX8_forget_55 (lv_at hl 0 rfl) ?_
        refine lv_aload_n hx hb dX8_forget_57 rfl (lv_at hl 1 rfl) ?_
        refine va_get (D := (dC, dI)) (ci := 8) (v := .ref z5) (C := RX8) (T := TX8) (N := 35) hx hb hts uX8 hown hK hP 0 rfl rfl 5 (by decide) (hts _ kfX8_19) (fun _ h9 => h9) rfl dX8_forget_58 ?_
        refine lv_aload_n hx hb dX8_forget_61 rfl (lv_at hl 1 rfl) ?_
        refine va_get (D := (dC, dI)) (ci := 8) (v := .int (nI (fc - 1))) (C := RX8) (T := TX8) (N := 35) hx hb hts uX8 hown hK hP 0 rfl rfl 4 (by decide) (hts _ kfX8_104) (fun _ h9 => h9) rfl dX8_forget_62 ?_
        refine q_ialdN hx hb hK hP 1 0 rfl rfl (j := fc - 1) (by omega) (by omega) dX8_forget_65 ?_
        refine q_iastN hx hb hK hP hD hS 1 0 rfl rfl (j := k9) (x := fn (fc - 1)) (by omega) (by omega) dX8_forget_66 (fun H locs hP hD hS => ?_)
        have hP : va_P (dC, dI) qCl [(x0, .inr (8, mO ax z1 z2 z3 (fc - 1) z5 z6 z7 qs z9 z10 z11 z12 z13 hd lg fcn z17 z18 z19 md z21 z22 z23 z24 hc z26 z27 z28 z29 z30 z31 sm z33 z34)), (z5, .inl (cI, 60, .inl (nF (va_up fn k9 (fn (fc - 1)))))), (z6, .inl (cI, 60, .inl (nF fo))), (z7, .inl (cI, 60, .inl (nF ft)))] H := hP
        have hD : va_D A [(x0, .inr (8, mO ax z1 z2 z3 (fc - 1) z5 z6 z7 qs z9 z10 z11 z12 z13 hd lg fcn z17 z18 z19 md z21 z22 z23 z24 hc z26 z27 z28 z29 z30 z31 sm z33 z34)), (z5, .inl (cI, 60, .inl (nF (va_up fn k9 (fn (fc - 1)))))), (z6, .inl (cI, 60, .inl (nF fo))), (z7, .inl (cI, 60, .inl (nF ft)))] := hD
        refine lv_aload_n hx hb dX8_forget_67 rfl (lv_at hl 1 rfl) ?_
        refine va_get (D := (dC, dI)) (ci := 8) (v := .ref z6) (C := RX8) (T := TX8) (N := 35) hx hb hts uX8 hown hK hP 0 rfl rfl 6 (by decide) (hts _ kfX8_22) (fun _ h9 => h9) rfl dX8_forget_68 ?_
        refine lv_iload hx hb dX8_forget_71 (lv_at hl 0 rfl) ?_
        refine lv_aload_n hx hb dX8_forget_73 rfl (lv_at hl 1 rfl) ?_
        refine va_get (D := (dC, dI)) (ci := 8) (v := .ref z6) (C := RX8) (T := TX8) (N := 35) hx hb hts uX8 hown hK hP 0 rfl rfl 6 (by decide) (hts _ kfX8_22) (fun _ h9 => h9) rfl dX8_forget_74 ?_
        refine lv_aload_n hx hb dX8_forget_77 rfl (lv_at hl 1 rfl) ?_
        refine va_get (D := (dC, dI)) (ci := 8) (v := .int (nI (fc - 1))) (C := RX8) (T := TX8) (N := 35) hx hb hts uX8 hown hK hP 0 rfl rfl 4 (by decide) (hts _ kfX8_104) (fun _ h9 => h9) rfl dX8_forget_78 ?_
        refine q_ialdN hx hb hK hP 2 0 rfl rfl (j := fc - 1) (by omega) (by omega) dX8_forget_81 ?_
        refine q_iastN hx hb hK hP hD hS 2 0 rfl rfl (j := k9) (x := fo (fc - 1)) (by omega) (by omega) dX8_forget_82 (fun H locs hP hD hS => ?_)
        have hP : va_P (dC, dI) qCl [(x0, .inr (8, mO ax z1 z2 z3 (fc - 1) z5 z6 z7 qs z9 z10 z11 z12 z13 hd lg fcn z17 z18 z19 md z21 z22 z23 z24 hc z26 z27 z28 z29 z30 z31 sm z33 z34)), (z5, .inl (cI, 60, .inl (nF (va_up fn k9 (fn (fc - 1)))))), (z6, .inl (cI, 60, .inl (nF (va_up fo k9 (fo (fc - 1)))))), (z7, .inl (cI, 60, .inl (nF ft)))] H := hP
        have hD : va_D A [(x0, .inr (8, mO ax z1 z2 z3 (fc - 1) z5 z6 z7 qs z9 z10 z11 z12 z13 hd lg fcn z17 z18 z19 md z21 z22 z23 z24 hc z26 z27 z28 z29 z30 z31 sm z33 z34)), (z5, .inl (cI, 60, .inl (nF (va_up fn k9 (fn (fc - 1)))))), (z6, .inl (cI, 60, .inl (nF (va_up fo k9 (fo (fc - 1)))))), (z7, .inl (cI, 60, .inl (nF ft)))] := hD
        refine lv_aload_n hx hb dX8_forget_83 rfl (lv_at hl 1 rfl) ?_
        refine va_get (D := (dC, dI)) (ci := 8) (v := .ref z7) (C := RX8) (T := TX8) (N := 35) hx hb hts uX8 hown hK hP 0 rfl rfl 7 (by decide) (hts _ kfX8_25) (fun _ h9 => h9) rfl dX8_forget_84 ?_
        refine lv_iload hx hb dX8_forget_87 (lv_at hl 0 rfl) ?_
        refine lv_aload_n hx hb dX8_forget_89 rfl (lv_at hl 1 rfl) ?_
        refine va_get (D := (dC, dI)) (ci := 8) (v := .ref z7) (C := RX8) (T := TX8) (N := 35) hx hb hts uX8 hown hK hP 0 rfl rfl 7 (by decide) (hts _ kfX8_25) (fun _ h9 => h9) rfl dX8_forget_90 ?_
        refine lv_aload_n hx hb dX8_forget_93 rfl (lv_at hl 1 rfl) ?_
        refine va_get (D := (dC, dI)) (ci := 8) (v := .int (nI (fc - 1))) (C := RX8) (T := TX8) (N := 35) hx hb hts uX8 hown hK hP 0 rfl rfl 4 (by decide) (hts _ kfX8_104) (fun _ h9 => h9) rfl dX8_forget_94 ?_
        refine q_ialdN hx hb hK hP 3 0 rfl rfl (j := fc - 1) (by omega) (by omega) dX8_forget_97 ?_
        refine q_iastN hx hb hK hP hD hS 3 0 rfl rfl (j := k9) (x := ft (fc - 1)) (by omega) (by omega) dX8_forget_98 (fun H locs hP hD hS => ?_)
        have hP : va_P (dC, dI) qCl [(x0, .inr (8, mO ax z1 z2 z3 (fc - 1) z5 z6 z7 qs z9 z10 z11 z12 z13 hd lg fcn z17 z18 z19 md z21 z22 z23 z24 hc z26 z27 z28 z29 z30 z31 sm z33 z34)), (z5, .inl (cI, 60, .inl (nF (va_up fn k9 (fn (fc - 1)))))), (z6, .inl (cI, 60, .inl (nF (va_up fo k9 (fo (fc - 1)))))), (z7, .inl (cI, 60, .inl (nF (va_up ft k9 (ft (fc - 1))))))] H := hP
        have hD : va_D A [(x0, .inr (8, mO ax z1 z2 z3 (fc - 1) z5 z6 z7 qs z9 z10 z11 z12 z13 hd lg fcn z17 z18 z19 md z21 z22 z23 z24 hc z26 z27 z28 z29 z30 z31 sm z33 z34)), (z5, .inl (cI, 60, .inl (nF (va_up fn k9 (fn (fc - 1)))))), (z6, .inl (cI, 60, .inl (nF (va_up fo k9 (fo (fc - 1)))))), (z7, .inl (cI, 60, .inl (nF (va_up ft k9 (ft (fc - 1))))))] := hD
        refine lv_iconst (v := (nI (1))) hx hb dX8_forget_99 (by decide) ?_
        subst hQ
        subst hAe
        have hP9 := hP.sub (ws' := [(x0, .inr (8, mO ax z1 z2 z3 (fc - 1) z5 z6 z7 qs z9 z10 z11 z12 z13 hd lg fcn z17 z18 z19 md z21 z22 z23 z24 hc z26 z27 z28 z29 z30 z31 sm z33 z34)), (z5, .inl (cI, 60, .inl (nF (va_up fn k9 (fn (fc - 1)))))), (z6, .inl (cI, 60, .inl (nF (va_up fo k9 (fo (fc - 1)))))), (z7, .inl (cI, 60, .inl (nF (va_up ft k9 (ft (fc - 1))))))]) [0, 1, 2, 3] rfl
        exact W.iret (v := (nI (1))) hx hb hr (fun t9 h9 _ => ⟨⟨(nI (1)), (nI (1), fc - 1, va_up fn k9 (fn (fc - 1)), va_up fo k9 (fo (fc - 1)), va_up ft k9 (ft (fc - 1))), rfl, ⟨rfl, (show s_fgt ro x a b fc fn fo ft (nI (1)) (fc - 1) (va_up fn k9 (fn (fc - 1))) (va_up fo k9 (fo (fc - 1))) (va_up ft k9 (ft (fc - 1))) from by (exact Or.inr ⟨by assumption, _, _, _, hsf, Or.inr ⟨k9, by rw [ek9] at hf9; exact hf9, rfl, rfl, rfl, rfl, rfl⟩⟩))⟩, by show va_P _ _ _ t9.heap; rw [h9]; exact hP9⟩, hS.F h9⟩) hS.2.2 dX8_forget_100
      · refine lv_iconst (v := (nI (0))) hx hb dX8_forget_39 (by decide) ?_
        subst hQ
        subst hAe
        have hP9 := hP.sub (ws' := [(x0, .inr (8, mO ax z1 z2 z3 fc z5 z6 z7 qs z9 z10 z11 z12 z13 hd lg fcn z17 z18 z19 md z21 z22 z23 z24 hc z26 z27 z28 z29 z30 z31 sm z33 z34)), (z5, .inl (cI, 60, .inl (nF fn))), (z6, .inl (cI, 60, .inl (nF fo))), (z7, .inl (cI, 60, .inl (nF ft)))]) [0, 1, 2, 3] rfl
        exact W.iret (v := (nI (0))) hx hb hr (fun t9 h9 _ => ⟨⟨(nI (0)), (nI (0), fc, fn, fo, ft), rfl, ⟨rfl, (show s_fgt ro x a b fc fn fo ft (nI (0)) fc fn fo ft from by (exact Or.inr ⟨by assumption, _, _, _, hsf, Or.inl ⟨by rw [show o9 = none by assumption] at hf9; exact hf9, rfl, rfl, rfl, rfl, rfl⟩⟩))⟩, by show va_P _ _ _ t9.heap; rw [h9]; exact hP9⟩, hS.F h9⟩) hS.2.2 dX8_forget_40
    · obtain ⟨x9, a9, b9, hx8, ha8, hb8, ex9, ea9, eb9⟩ := m_may_r (by assumption) (by assumption)
      have hl := lv_updv hl 2 rfl (show (.int (x) : Value) = .int (nI (x9)) from (congrArg Value.int ex9))
      have hl : lv_has ls 6 [(0, .ref x0), (1, .int (bI (ro))), (2, .int (nI (x9))), (3, .int (a)), (4, .int (b))] := hl
      have hl := lv_updv hl 3 rfl (show (.int (a) : Value) = .int (nI (a9)) from (congrArg Value.int ea9))
      have hl : lv_has ls 6 [(0, .ref x0), (1, .int (bI (ro))), (2, .int (nI (x9))), (3, .int (nI (a9))), (4, .int (b))] := hl
      have hl := lv_updv hl 4 rfl (show (.int (b) : Value) = .int (nI (b9)) from (congrArg Value.int eb9))
      have hl : lv_has ls 6 [(0, .ref x0), (1, .int (bI (ro))), (2, .int (nI (x9))), (3, .int (nI (a9))), (4, .int (nI (b9)))] := hl
      have hsf : s_fx ro x a b (32 + x9) a9 b9 := Or.inl ⟨by assumption, x9, a9, b9, hx8, ha8, hb8, ex9, ea9, eb9, rfl, rfl, rfl⟩
      refine lv_bipush (v := (nI (32))) hx hb dX8_forget_18 (by decide) ?_
      refine lv_iload_n hx hb dX8_forget_20 rfl (lv_at hl 2 rfl) ?_
      refine q_iadd (x := 32) (y := x9) hx hb dX8_forget_21 ?_
      refine lv_goto (tgt := 26) hx hb dX8_forget_22 (by decide) ?_
      refine lv_iload_n hx hb dX8_forget_26 rfl (lv_at hl 3 rfl) ?_
      refine lv_iload hx hb dX8_forget_27 (lv_at hl 4 rfl) ?_
      refine vp_callSi (va_Run.run (va_runV (As := [.int (nI (32 + x9)), .int (nI (a9)), .int (nI (b9))]) (rest := []) ⟨hx, hb, hml, hown, hts⟩ (c_Model_factAt l dC dI cI cL cQ cZ x0 ax z1 z2 z3 fc z5 z6 z7 qs z9 z10 z11 z12 z13 hd lg fcn z17 z18 z19 md z21 z22 z23 z24 hc z26 z27 z28 z29 z30 z31 sm z33 z34 fn fo ft (32 + x9) a9 b9 (show fc ≤ 60 from by first | assumption | omega) (show ∀ j, fn j < 64 from by first | assumption | omega) (show ∀ j, fo j < 16 from by first | assumption | omega) (show ∀ j, ft j < 16 from by first | assumption | omega) (show (32 + x9) < 64 from by first | assumption | omega) (show a9 < 16 from by first | assumption | omega) (show b9 < 16 from by first | assumption | omega)) (q_cwV 3 hts gkX8_factAt kmX8_111 knX8_factAt klX8_factAt kiX8 rfl rfl rfl (by decide +kernel) ⟨Nat.le_of_ble_eq_true rfl, Nat.le_of_ble_eq_true rfl⟩) (q_preV hK hP [0, 1, 2, 3] rfl 0 (ci := 8) (r := (RX8, TX8, 35)) rfl rfl) rfl rfl hl.1 rfl (lv_room (Nat.le_of_ble_eq_true rfl)) dX8_forget_29 ⟨Nat.zero_le _, Nat.zero_le _⟩)) (fun r6 hr6 => ?_)
      have hr6 : ∃ o9, r6 = oI o9 ∧ m_fat fn fo ft (32 + x9) a9 b9 fc o9 := hr6
      have hlast := hr6
      obtain ⟨o9, ey9, hf9⟩ := hlast
      refine q_top (show (r6) = (oI (o9)) from ey9) ?_
      refine lv_istore (lv' := [(5, .int (oI (o9))), (0, .ref x0), (1, .int (bI (ro))), (2, .int (nI (x9))), (3, .int (nI (a9))), (4, .int (nI (b9)))]) hx hb dX8_forget_32 hl (by decide) rfl (fun ls hl => ?_)
      refine lv_iload hx hb dX8_forget_34 (lv_at hl 0 rfl) ?_
      refine q_ifO_ge (x := o9) (tgt := 41) hx hb dX8_forget_36 (by decide) (by (intro k9 h9; have := m_fat_lt hf9 h9; omega)) (fun c36_7 => ?_) (fun c36_7 => ?_)
      · obtain ⟨k9, ek9⟩ : ∃ k9, o9 = some k9 := Option.ne_none_iff_exists'.mp (by assumption)
        have hk9 := m_fat_lt hf9 ek9
        have hl := lv_updv hl 0 rfl (show (.int (oI (o9)) : Value) = .int (nI (k9)) from (by rw [ek9]; rfl))
        have hl : lv_has ls 6 [(5, .int (nI (k9))), (0, .ref x0), (1, .int (bI (ro))), (2, .int (nI (x9))), (3, .int (nI (a9))), (4, .int (nI (b9)))] := hl
        refine lv_aload_n hx hb dX8_forget_41 rfl (lv_at hl 1 rfl) ?_
        refine lv_dup hx hb dX8_forget_42 rfl ?_
        refine va_get (D := (dC, dI)) (ci := 8) (v := .int (nI (fc))) (C := RX8) (T := TX8) (N := 35) hx hb hts uX8 hown hK hP 0 rfl rfl 4 (by decide) (hts _ kfX8_104) (fun _ h9 => h9) rfl dX8_forget_43 ?_
        refine lv_iconst (v := (nI (1))) hx hb dX8_forget_46 (by decide) ?_
        refine q_isub (x := fc) (y := 1) hx hb (by omega) dX8_forget_47 ?_
        refine va_put (D := (dC, dI)) (ci := 8) (v := .int (nI (fc - 1))) (ty := .int) (C := RX8) (T := TX8) (N := 35) hx hb hts uX8 tyX8 tyX8_ok nmX8 hown hK hP hD hS 0 rfl rfl 4 (by decide) (hts _ kfX8_104) (fun _ h9 => h9) rfl (by decide +kernel) (rfl) (rfl) (Nat.le_of_ble_eq_true rfl) dX8_forget_48 (fun H locs hP hD hS => ?_)
        have hP : va_P (dC, dI) qCl [(x0, .inr (8, mO ax z1 z2 z3 (fc - 1) z5 z6 z7 qs z9 z10 z11 z12 z13 hd lg fcn z17 z18 z19 md z21 z22 z23 z24 hc z26 z27 z28 z29 z30 z31 sm z33 z34)), (z5, .inl (cI, 60, .inl (nF fn))), (z6, .inl (cI, 60, .inl (nF fo))), (z7, .inl (cI, 60, .inl (nF ft)))] H := hP
        have hD : va_D A [(x0, .inr (8, mO ax z1 z2 z3 (fc - 1) z5 z6 z7 qs z9 z10 z11 z12 z13 hd lg fcn z17 z18 z19 md z21 z22 z23 z24 hc z26 z27 z28 z29 z30 z31 sm z33 z34)), (z5, .inl (cI, 60, .inl (nF fn))), (z6, .inl (cI, 60, .inl (nF fo))), (z7, .inl (cI, 60, .inl (nF ft)))] := hD
        refine lv_aload_n hx hb dX8_forget_51 rfl (lv_at hl 1 rfl) ?_
        refine va_get (D := (dC, dI)) (ci := 8) (v := .ref z5) (C := RX8) (T := TX8) (N := 35) hx hb hts uX8 hown hK hP 0 rfl rfl 5 (by decide) (hts _ kfX8_19) (fun _ h9 => h9) rfl dX8_forget_52 ?_
        refine lv_iload hx hb dX8_forget_55 (lv_at hl 0 rfl) ?_
        refine lv_aload_n hx hb dX8_forget_57 rfl (lv_at hl 1 rfl) ?_
        refine va_get (D := (dC, dI)) (ci := 8) (v := .ref z5) (C := RX8) (T := TX8) (N := 35) hx hb hts uX8 hown hK hP 0 rfl rfl 5 (by decide) (hts _ kfX8_19) (fun _ h9 => h9) rfl dX8_forget_58 ?_
        refine lv_aload_n hx hb dX8_forget_61 rfl (lv_at hl 1 rfl) ?_
        refine va_get (D := (dC, dI)) (ci := 8) (v := .int (nI (fc - 1))) (C := RX8) (T := TX8) (N := 35) hx hb hts uX8 hown hK hP 0 rfl rfl 4 (by decide) (hts _ kfX8_104) (fun _ h9 => h9) rfl dX8_forget_62 ?_
        refine q_ialdN hx hb hK hP 1 0 rfl rfl (j := fc - 1) (by omega) (by omega) dX8_forget_65 ?_
        refine q_iastN hx hb hK hP hD hS 1 0 rfl rfl (j := k9) (x := fn (fc - 1)) (by omega) (by omega) dX8_forget_66 (fun H locs hP hD hS => ?_)
        have hP : va_P (dC, dI) qCl [(x0, .inr (8, mO ax z1 z2 z3 (fc - 1) z5 z6 z7 qs z9 z10 z11 z12 z13 hd lg fcn z17 z18 z19 md z21 z22 z23 z24 hc z26 z27 z28 z29 z30 z31 sm z33 z34)), (z5, .inl (cI, 60, .inl (nF (va_up fn k9 (fn (fc - 1)))))), (z6, .inl (cI, 60, .inl (nF fo))), (z7, .inl (cI, 60, .inl (nF ft)))] H := hP
        have hD : va_D A [(x0, .inr (8, mO ax z1 z2 z3 (fc - 1) z5 z6 z7 qs z9 z10 z11 z12 z13 hd lg fcn z17 z18 z19 md z21 z22 z23 z24 hc z26 z27 z28 z29 z30 z31 sm z33 z34)), (z5, .inl (cI, 60, .inl (nF (va_up fn k9 (fn (fc - 1)))))), (z6, .inl (cI, 60, .inl (nF fo))), (z7, .inl (cI, 60, .inl (nF ft)))] := hD
        refine lv_aload_n hx hb dX8_forget_67 rfl (lv_at hl 1 rfl) ?_
        refine va_get (D := (dC, dI)) (ci := 8) (v := .ref z6) (C := RX8) (T := TX8) (N := 35) hx hb hts uX8 hown hK hP 0 rfl rfl 6 (by decide) (hts _ kfX8_22) (fun _ h9 => h9) rfl dX8_forget_68 ?_
        refine lv_iload hx hb dX8_forget_71 (lv_at hl 0 rfl) ?_
        refine lv_aload_n hx hb dX8_forget_73 rfl (lv_at hl 1 rfl) ?_
        refine va_get (D := (dC, dI)) (ci := 8) (v := .ref z6) (C := RX8) (T := TX8) (N := 35) hx hb hts uX8 hown hK hP 0 rfl rfl 6 (by decide) (hts _ kfX8_22) (fun _ h9 => h9) rfl dX8_forget_74 ?_
        refine lv_aload_n hx hb dX8_forget_77 rfl (lv_at hl 1 rfl) ?_
        refine va_get (D := (dC, dI)) (ci := 8) (v := .int (nI (fc - 1))) (C := RX8) (T := TX8) (N := 35) hx hb hts uX8 hown hK hP 0 rfl rfl 4 (by decide) (hts _ kfX8_104) (fun _ h9 => h9) rfl dX8_forget_78 ?_
        refine q_ialdN hx hb hK hP 2 0 rfl rfl (j := fc - 1) (by omega) (by omega) dX8_forget_81 ?_
        refine q_iastN hx hb hK hP hD hS 2 0 rfl rfl (j := k9) (x := fo (fc - 1)) (by omega) (by omega) dX8_forget_82 (fun H locs hP hD hS => ?_)
        have hP : va_P (dC, dI) qCl [(x0, .inr (8, mO ax z1 z2 z3 (fc - 1) z5 z6 z7 qs z9 z10 z11 z12 z13 hd lg fcn z17 z18 z19 md z21 z22 z23 z24 hc z26 z27 z28 z29 z30 z31 sm z33 z34)), (z5, .inl (cI, 60, .inl (nF (va_up fn k9 (fn (fc - 1)))))), (z6, .inl (cI, 60, .inl (nF (va_up fo k9 (fo (fc - 1)))))), (z7, .inl (cI, 60, .inl (nF ft)))] H := hP
        have hD : va_D A [(x0, .inr (8, mO ax z1 z2 z3 (fc - 1) z5 z6 z7 qs z9 z10 z11 z12 z13 hd lg fcn z17 z18 z19 md z21 z22 z23 z24 hc z26 z27 z28 z29 z30 z31 sm z33 z34)), (z5, .inl (cI, 60, .inl (nF (va_up fn k9 (fn (fc - 1)))))), (z6, .inl (cI, 60, .inl (nF (va_up fo k9 (fo (fc - 1)))))), (z7, .inl (cI, 60, .inl (nF ft)))] := hD
        refine lv_aload_n hx hb dX8_forget_83 rfl (lv_at hl 1 rfl) ?_
        refine va_get (D := (dC, dI)) (ci := 8) (v := .ref z7) (C := RX8) (T := TX8) (N := 35) hx hb hts uX8 hown hK hP 0 rfl rfl 7 (by decide) (hts _ kfX8_25) (fun _ h9 => h9) rfl dX8_forget_84 ?_
        refine lv_iload hx hb dX8_forget_87 (lv_at hl 0 rfl) ?_
        refine lv_aload_n hx hb dX8_forget_89 rfl (lv_at hl 1 rfl) ?_
        refine va_get (D := (dC, dI)) (ci := 8) (v := .ref z7) (C := RX8) (T := TX8) (N := 35) hx hb hts uX8 hown hK hP 0 rfl rfl 7 (by decide) (hts _ kfX8_25) (fun _ h9 => h9) rfl dX8_forget_90 ?_
        refine lv_aload_n hx hb dX8_forget_93 rfl (lv_at hl 1 rfl) ?_
        refine va_get (D := (dC, dI)) (ci := 8) (v := .int (nI (fc - 1))) (C := RX8) (T := TX8) (N := 35) hx hb hts uX8 hown hK hP 0 rfl rfl 4 (by decide) (hts _ kfX8_104) (fun _ h9 => h9) rfl dX8_forget_94 ?_
        refine q_ialdN hx hb hK hP 3 0 rfl rfl (j := fc - 1) (by omega) (by omega) dX8_forget_97 ?_
        refine q_iastN hx hb hK hP hD hS 3 0 rfl rfl (j := k9) (x := ft (fc - 1)) (by omega) (by omega) dX8_forget_98 (fun H locs hP hD hS => ?_)
        have hP : va_P (dC, dI) qCl [(x0, .inr (8, mO ax z1 z2 z3 (fc - 1) z5 z6 z7 qs z9 z10 z11 z12 z13 hd lg fcn z17 z18 z19 md z21 z22 z23 z24 hc z26 z27 z28 z29 z30 z31 sm z33 z34)), (z5, .inl (cI, 60, .inl (nF (va_up fn k9 (fn (fc - 1)))))), (z6, .inl (cI, 60, .inl (nF (va_up fo k9 (fo (fc - 1)))))), (z7, .inl (cI, 60, .inl (nF (va_up ft k9 (ft (fc - 1))))))] H := hP
        have hD : va_D A [(x0, .inr (8, mO ax z1 z2 z3 (fc - 1) z5 z6 z7 qs z9 z10 z11 z12 z13 hd lg fcn z17 z18 z19 md z21 z22 z23 z24 hc z26 z27 z28 z29 z30 z31 sm z33 z34)), (z5, .inl (cI, 60, .inl (nF (va_up fn k9 (fn (fc - 1)))))), (z6, .inl (cI, 60, .inl (nF (va_up fo k9 (fo (fc - 1)))))), (z7, .inl (cI, 60, .inl (nF (va_up ft k9 (ft (fc - 1))))))] := hD
        refine lv_iconst (v := (nI (1))) hx hb dX8_forget_99 (by decide) ?_
        subst hQ
        subst hAe
        have hP9 := hP.sub (ws' := [(x0, .inr (8, mO ax z1 z2 z3 (fc - 1) z5 z6 z7 qs z9 z10 z11 z12 z13 hd lg fcn z17 z18 z19 md z21 z22 z23 z24 hc z26 z27 z28 z29 z30 z31 sm z33 z34)), (z5, .inl (cI, 60, .inl (nF (va_up fn k9 (fn (fc - 1)))))), (z6, .inl (cI, 60, .inl (nF (va_up fo k9 (fo (fc - 1)))))), (z7, .inl (cI, 60, .inl (nF (va_up ft k9 (ft (fc - 1))))))]) [0, 1, 2, 3] rfl
        exact W.iret (v := (nI (1))) hx hb hr (fun t9 h9 _ => ⟨⟨(nI (1)), (nI (1), fc - 1, va_up fn k9 (fn (fc - 1)), va_up fo k9 (fo (fc - 1)), va_up ft k9 (ft (fc - 1))), rfl, ⟨rfl, (show s_fgt ro x a b fc fn fo ft (nI (1)) (fc - 1) (va_up fn k9 (fn (fc - 1))) (va_up fo k9 (fo (fc - 1))) (va_up ft k9 (ft (fc - 1))) from by (exact Or.inr ⟨by assumption, _, _, _, hsf, Or.inr ⟨k9, by rw [ek9] at hf9; exact hf9, rfl, rfl, rfl, rfl, rfl⟩⟩))⟩, by show va_P _ _ _ t9.heap; rw [h9]; exact hP9⟩, hS.F h9⟩) hS.2.2 dX8_forget_100
      · refine lv_iconst (v := (nI (0))) hx hb dX8_forget_39 (by decide) ?_
        subst hQ
        subst hAe
        have hP9 := hP.sub (ws' := [(x0, .inr (8, mO ax z1 z2 z3 fc z5 z6 z7 qs z9 z10 z11 z12 z13 hd lg fcn z17 z18 z19 md z21 z22 z23 z24 hc z26 z27 z28 z29 z30 z31 sm z33 z34)), (z5, .inl (cI, 60, .inl (nF fn))), (z6, .inl (cI, 60, .inl (nF fo))), (z7, .inl (cI, 60, .inl (nF ft)))]) [0, 1, 2, 3] rfl
        exact W.iret (v := (nI (0))) hx hb hr (fun t9 h9 _ => ⟨⟨(nI (0)), (nI (0), fc, fn, fo, ft), rfl, ⟨rfl, (show s_fgt ro x a b fc fn fo ft (nI (0)) fc fn fo ft from by (exact Or.inr ⟨by assumption, _, _, _, hsf, Or.inl ⟨by rw [show o9 = none by assumption] at hf9; exact hf9, rfl, rfl, rfl, rfl, rfl⟩⟩))⟩, by show va_P _ _ _ t9.heap; rw [h9]; exact hP9⟩, hS.F h9⟩) hS.2.2 dX8_forget_40
  · refine lv_iconst (v := (oI (none))) hx hb dX8_forget_11 (by decide) ?_
    subst hQ
    subst hAe
    have hP9 := hP.sub (ws' := [(x0, .inr (8, mO ax z1 z2 z3 fc z5 z6 z7 qs z9 z10 z11 z12 z13 hd lg fcn z17 z18 z19 md z21 z22 z23 z24 hc z26 z27 z28 z29 z30 z31 sm z33 z34)), (z5, .inl (cI, 60, .inl (nF fn))), (z6, .inl (cI, 60, .inl (nF fo))), (z7, .inl (cI, 60, .inl (nF ft)))]) [0, 1, 2, 3] rfl
    exact W.iret (v := (oI (none))) hx hb hr (fun t9 h9 _ => ⟨⟨(oI (none)), (oI (none), fc, fn, fo, ft), rfl, ⟨rfl, (show s_fgt ro x a b fc fn fo ft (oI (none)) fc fn fo ft from by (exact Or.inl ⟨by assumption, rfl, rfl, rfl, rfl, rfl⟩))⟩, by show va_P _ _ _ t9.heap; rw [h9]; exact hP9⟩, hS.F h9⟩) hS.2.2 dX8_forget_12
