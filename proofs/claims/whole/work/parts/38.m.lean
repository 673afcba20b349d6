def s_count (ax fc qs : Nat) (w : Int32) : Int32 := if w = 0 then nI ax else if w = nI 1 then nI fc else if w = nI 2 then nI qs else -1
theorem m_in_t {x : Int32} {n : Nat} (hn : n < 2 ^ 31) (h : m_in x (nI 0) (nI n) = true) : ∃ j, j ≤ n ∧ x = nI j := by
  have h := of_decide_eq_true h
  exact nI_of2 (M := nI n) (nI_toInt hn) h.1 (Int32.not_lt.mp h.2)
theorem m_in_t2 {x : Int32} {a n : Nat} (ha : a < 2 ^ 31) (hn : n < 2 ^ 31) (h : m_in x (nI a) (nI n) = true) : ∃ j, a ≤ j ∧ j ≤ n ∧ x = nI j := by
  have h := of_decide_eq_true h
  have h0 : ¬ x < 0 := fun h1 => h.1 (by
    rw [Int32.lt_iff_toInt_lt] at h1 ⊢
    rw [nI_toInt ha]
    have : (0 : Int32).toInt = 0 := by decide
    omega)
  obtain ⟨j, h2, h3⟩ := nI_of2 (M := nI n) (nI_toInt hn) h0 (Int32.not_lt.mp h.2)
  subst h3
  refine ⟨j, ?_, h2, rfl⟩
  rcases Nat.lt_or_ge j a with h4 | h4
  · exact absurd ((nI_ltI (by omega) ha).mpr h4) h.1
  · exact h4
def s_quest (x : Int32) (qs : Nat) (qa qn : Nat → Nat) (r : Int32) (qs1 : Nat) (qa1 qn1 : Nat → Nat) : Prop :=
  (m_in x (nI 0) (nI 2) = false ∧ r = -1 ∧ qs1 = qs ∧ qa1 = qa ∧ qn1 = qn) ∨ (m_in x (nI 0) (nI 2) = true ∧ qs = 6 ∧ r = -2 ∧ qs1 = qs ∧ qa1 = qa ∧ qn1 = qn) ∨
  (qs ≠ 6 ∧ ∃ j, j ≤ 2 ∧ x = nI j ∧ r = nI qs ∧ qs1 = qs + 1 ∧ qa1 = va_up qa qs j ∧ qn1 = va_up qn qs 0)
def m_axg (k a b : Int32) : Bool := if k = 0 ∨ k = nI 2 then m_sort a && m_sort b else if k = nI 1 ∨ k = nI 3 then m_in a (nI 0) (nI 15) && m_in b (nI 0) (nI 15) else false
def m_sok (a : Nat) : Prop := a < 10 ∨ 20 ≤ a ∧ a < 36
def m_axn (k a b : Nat) : Prop := k < 4 ∧ (k % 2 = 0 → m_sok a ∧ m_sok b) ∧ (k % 2 = 1 → a < 16 ∧ b < 16)
theorem m_sort_t {x : Int32} (h : m_sort x = true) : ∃ j, m_sok j ∧ x = nI j := by
  unfold m_sort at h
  rw [Bool.or_eq_true] at h
  rcases h with h | h
  · obtain ⟨j, h1, h2⟩ := m_in_t (by decide) h; exact ⟨j, Or.inl (by omega), h2⟩
  · obtain ⟨j, h1, h2, h3⟩ := m_in_t2 (by decide) (by decide) h; exact ⟨j, Or.inr (by omega), h3⟩
theorem m_axg_t {k a b : Int32} (h : m_axg k a b = true) : ∃ k' a' b' : Nat, m_axn k' a' b' ∧ k = nI k' ∧ a = nI a' ∧ b = nI b' ∧ a' < 64 ∧ b' < 64 := by
  unfold m_axg at h
  by_cases h1 : k = 0 ∨ k = nI 2
  · rw [if_pos h1, Bool.and_eq_true] at h
    obtain ⟨a', ha, ea⟩ := m_sort_t h.1
    obtain ⟨b', hb, eb⟩ := m_sort_t h.2
    have hka : ∃ k' : Nat, (k' = 0 ∨ k' = 2) ∧ k = nI k' := by
      rcases h1 with h1 | h1
      · exact ⟨0, Or.inl rfl, h1⟩
      · exact ⟨2, Or.inr rfl, h1⟩
    obtain ⟨k', hk', ek⟩ := hka
    refine ⟨k', a', b', ⟨by omega, fun _ => ⟨ha, hb⟩, fun h5 => by omega⟩, ek, ea, eb, ?_, ?_⟩
    · unfold m_sok at ha; omega
    · unfold m_sok at hb; omega
  · rw [if_neg h1] at h
    by_cases h2 : k = nI 1 ∨ k = nI 3
    · rw [if_pos h2, Bool.and_eq_true] at h
      obtain ⟨a', ha, ea⟩ := m_in_t (by decide) h.1
      obtain ⟨b', hb, eb⟩ := m_in_t (by decide) h.2
      have hka : ∃ k' : Nat, (k' = 1 ∨ k' = 3) ∧ k = nI k' := by
        rcases h2 with h2 | h2
        · exact ⟨1, Or.inl rfl, h2⟩
        · exact ⟨3, Or.inr rfl, h2⟩
      obtain ⟨k', hk', ek⟩ := hka
      exact ⟨k', a', b', ⟨by omega, fun h5 => by omega, fun _ => by omega⟩, ek, ea, eb, by omega, by omega⟩
    · rw [if_neg h2] at h; cases h
def s_axm (g : Bool) (k a b : Int32) (ax : Nat) (kd lf rg : Nat → Nat) (hd : Option Nat) (r : Int32) (ax1 : Nat) (kd1 lf1 rg1 : Nat → Nat) (hd1 : Option Nat) : Prop :=
  (g = false ∧ r = -1 ∧ ax1 = ax ∧ kd1 = kd ∧ lf1 = lf ∧ rg1 = rg ∧ hd1 = hd) ∨ (g = true ∧ ax = 16 ∧ r = -2 ∧ ax1 = ax ∧ kd1 = kd ∧ lf1 = lf ∧ rg1 = rg ∧ hd1 = hd) ∨
  (g = true ∧ ax ≠ 16 ∧ ∃ k' a' b' : Nat, m_axn k' a' b' ∧ k = nI k' ∧ a = nI a' ∧ b = nI b' ∧ r = nI ax ∧ ax1 = ax + 1 ∧ kd1 = va_up kd ax k' ∧ lf1 = va_up lf ax a' ∧ rg1 = va_up rg ax b' ∧ hd1 = none)
abbrev cX8_count : ByteArray := prog_10_method_44_code
def yX8_count : MethodName := ⟨RX8, "count", "(I)I"⟩
def wkX8_count : List Cond := .code yX8_count cX8_count 2 (some .int) :: qW
set_option maxRecDepth 40000 in
theorem gkX8_count : GoodIn qW wkX8_count := q_good (qw 841 rfl rfl)
set_option maxRecDepth 40000 in
theorem knX8_count : Cond.instanceMethod yX8_count ∈ qW := qw 839 rfl rfl
set_option maxRecDepth 40000 in
theorem klX8_count : Cond.selects RX8 yX8_count yX8_count ∈ qW := qw 840 rfl rfl
theorem dX8_count_0 : decode cX8_count 0 = .ok (.iload_n 1, 1) := by decide +kernel
theorem dX8_count_1 : decode cX8_count 1 = .ok (.ifCond .ne 10, 3) := by decide +kernel
theorem dX8_count_4 : decode cX8_count 4 = .ok (.aload_n 0, 1) := by decide +kernel
theorem dX8_count_5 : decode cX8_count 5 = .ok (.getfield 101, 3) := by decide +kernel
theorem dX8_count_8 : decode cX8_count 8 = .ok (.goto 28, 3) := by decide +kernel
theorem dX8_count_11 : decode cX8_count 11 = .ok (.iload_n 1, 1) := by decide +kernel
theorem dX8_count_12 : decode cX8_count 12 = .ok (.iconst 1, 1) := by decide +kernel
theorem dX8_count_13 : decode cX8_count 13 = .ok (.if_icmp .ne 10, 3) := by decide +kernel
theorem dX8_count_16 : decode cX8_count 16 = .ok (.aload_n 0, 1) := by decide +kernel
theorem dX8_count_17 : decode cX8_count 17 = .ok (.getfield 104, 3) := by decide +kernel
theorem dX8_count_20 : decode cX8_count 20 = .ok (.goto 16, 3) := by decide +kernel
theorem dX8_count_23 : decode cX8_count 23 = .ok (.iload_n 1, 1) := by decide +kernel
theorem dX8_count_24 : decode cX8_count 24 = .ok (.iconst 2, 1) := by decide +kernel
theorem dX8_count_25 : decode cX8_count 25 = .ok (.if_icmp .ne 10, 3) := by decide +kernel
theorem dX8_count_28 : decode cX8_count 28 = .ok (.aload_n 0, 1) := by decide +kernel
theorem dX8_count_29 : decode cX8_count 29 = .ok (.getfield 115, 3) := by decide +kernel
theorem dX8_count_32 : decode cX8_count 32 = .ok (.goto 4, 3) := by decide +kernel
theorem dX8_count_35 : decode cX8_count 35 = .ok (.iconst (-1), 1) := by decide +kernel
theorem dX8_count_36 : decode cX8_count 36 = .ok (.ireturn, 1) := by decide +kernel
abbrev cX8_question : ByteArray := prog_10_method_10_code
def yX8_question : MethodName := ⟨RX8, "question", "(I)I"⟩
def wkX8_question : List Cond := .code yX8_question cX8_question 2 (some .int) :: qW
set_option maxRecDepth 40000 in
theorem gkX8_question : GoodIn qW wkX8_question := q_good (qw 705 rfl rfl)
set_option maxRecDepth 40000 in
theorem knX8_question : Cond.instanceMethod yX8_question ∈ qW := qw 703 rfl rfl
set_option maxRecDepth 40000 in
theorem klX8_question : Cond.selects RX8 yX8_question yX8_question ∈ qW := qw 704 rfl rfl
theorem dX8_question_0 : decode cX8_question 0 = .ok (.iload_n 1, 1) := by decide +kernel
theorem dX8_question_1 : decode cX8_question 1 = .ok (.iconst 0, 1) := by decide +kernel
theorem dX8_question_2 : decode cX8_question 2 = .ok (.iconst 2, 1) := by decide +kernel
theorem dX8_question_3 : decode cX8_question 3 = .ok (.invokestatic 93, 3) := by decide +kernel
theorem dX8_question_6 : decode cX8_question 6 = .ok (.ifCond .ne 5, 3) := by decide +kernel
theorem dX8_question_9 : decode cX8_question 9 = .ok (.iconst (-1), 1) := by decide +kernel
theorem dX8_question_10 : decode cX8_question 10 = .ok (.ireturn, 1) := by decide +kernel
theorem dX8_question_11 : decode cX8_question 11 = .ok (.aload_n 0, 1) := by decide +kernel
theorem dX8_question_12 : decode cX8_question 12 = .ok (.getfield 115, 3) := by decide +kernel
theorem dX8_question_15 : decode cX8_question 15 = .ok (.bipush 6, 2) := by decide +kernel
theorem dX8_question_17 : decode cX8_question 17 = .ok (.if_icmp .ne 6, 3) := by decide +kernel
theorem dX8_question_20 : decode cX8_question 20 = .ok (.bipush (-2), 2) := by decide +kernel
theorem dX8_question_22 : decode cX8_question 22 = .ok (.ireturn, 1) := by decide +kernel
theorem dX8_question_23 : decode cX8_question 23 = .ok (.aload_n 0, 1) := by decide +kernel
theorem dX8_question_24 : decode cX8_question 24 = .ok (.getfield 28, 3) := by decide +kernel
theorem dX8_question_27 : decode cX8_question 27 = .ok (.aload_n 0, 1) := by decide +kernel
theorem dX8_question_28 : decode cX8_question 28 = .ok (.getfield 115, 3) := by decide +kernel
theorem dX8_question_31 : decode cX8_question 31 = .ok (.iload_n 1, 1) := by decide +kernel
theorem dX8_question_32 : decode cX8_question 32 = .ok (.iastore, 1) := by decide +kernel
theorem dX8_question_33 : decode cX8_question 33 = .ok (.aload_n 0, 1) := by decide +kernel
theorem dX8_question_34 : decode cX8_question 34 = .ok (.getfield 31, 3) := by decide +kernel
theorem dX8_question_37 : decode cX8_question 37 = .ok (.aload_n 0, 1) := by decide +kernel
theorem dX8_question_38 : decode cX8_question 38 = .ok (.getfield 115, 3) := by decide +kernel
theorem dX8_question_41 : decode cX8_question 41 = .ok (.iconst 0, 1) := by decide +kernel
theorem dX8_question_42 : decode cX8_question 42 = .ok (.iastore, 1) := by decide +kernel
theorem dX8_question_43 : decode cX8_question 43 = .ok (.aload_n 0, 1) := by decide +kernel
theorem dX8_question_44 : decode cX8_question 44 = .ok (.dup, 1) := by decide +kernel
theorem dX8_question_45 : decode cX8_question 45 = .ok (.getfield 115, 3) := by decide +kernel
theorem dX8_question_48 : decode cX8_question 48 = .ok (.iconst 1, 1) := by decide +kernel
theorem dX8_question_49 : decode cX8_question 49 = .ok (.iadd, 1) := by decide +kernel
theorem dX8_question_50 : decode cX8_question 50 = .ok (.putfield 115, 3) := by decide +kernel
theorem dX8_question_53 : decode cX8_question 53 = .ok (.aload_n 0, 1) := by decide +kernel
theorem dX8_question_54 : decode cX8_question 54 = .ok (.getfield 115, 3) := by decide +kernel
theorem dX8_question_57 : decode cX8_question 57 = .ok (.iconst 1, 1) := by decide +kernel
theorem dX8_question_58 : decode cX8_question 58 = .ok (.isub, 1) := by decide +kernel
theorem dX8_question_59 : decode cX8_question 59 = .ok (.ireturn, 1) := by decide +kernel
abbrev cX8_axiom : ByteArray := prog_10_method_5_code
def yX8_axiom : MethodName := ⟨RX8, "axiom", "(III)I"⟩
def wkX8_axiom : List Cond := .code yX8_axiom cX8_axiom 5 (some .int) :: qW
set_option maxRecDepth 40000 in
theorem gkX8_axiom : GoodIn qW wkX8_axiom := q_good (qw 680 rfl rfl)
set_option maxRecDepth 40000 in
theorem knX8_axiom : Cond.instanceMethod yX8_axiom ∈ qW := qw 678 rfl rfl
set_option maxRecDepth 40000 in
theorem klX8_axiom : Cond.selects RX8 yX8_axiom yX8_axiom ∈ qW := qw 679 rfl rfl
theorem dX8_axiom_0 : decode cX8_axiom 0 = .ok (.iload_n 1, 1) := by decide +kernel
theorem dX8_axiom_1 : decode cX8_axiom 1 = .ok (.ifCond .eq 8, 3) := by decide +kernel
theorem dX8_axiom_4 : decode cX8_axiom 4 = .ok (.iload_n 1, 1) := by decide +kernel
theorem dX8_axiom_5 : decode cX8_axiom 5 = .ok (.iconst 2, 1) := by decide +kernel
theorem dX8_axiom_6 : decode cX8_axiom 6 = .ok (.if_icmp .ne 25, 3) := by decide +kernel
theorem dX8_axiom_9 : decode cX8_axiom 9 = .ok (.iload_n 2, 1) := by decide +kernel
theorem dX8_axiom_10 : decode cX8_axiom 10 = .ok (.invokestatic 97, 3) := by decide +kernel
theorem dX8_axiom_13 : decode cX8_axiom 13 = .ok (.ifCond .eq 14, 3) := by decide +kernel
theorem dX8_axiom_16 : decode cX8_axiom 16 = .ok (.iload_n 3, 1) := by decide +kernel
theorem dX8_axiom_17 : decode cX8_axiom 17 = .ok (.invokestatic 97, 3) := by decide +kernel
theorem dX8_axiom_20 : decode cX8_axiom 20 = .ok (.ifCond .eq 7, 3) := by decide +kernel
theorem dX8_axiom_23 : decode cX8_axiom 23 = .ok (.iconst 1, 1) := by decide +kernel
theorem dX8_axiom_24 : decode cX8_axiom 24 = .ok (.goto 42, 3) := by decide +kernel
theorem dX8_axiom_27 : decode cX8_axiom 27 = .ok (.iconst 0, 1) := by decide +kernel
theorem dX8_axiom_28 : decode cX8_axiom 28 = .ok (.goto 38, 3) := by decide +kernel
theorem dX8_axiom_31 : decode cX8_axiom 31 = .ok (.iload_n 1, 1) := by decide +kernel
theorem dX8_axiom_32 : decode cX8_axiom 32 = .ok (.iconst 1, 1) := by decide +kernel
theorem dX8_axiom_33 : decode cX8_axiom 33 = .ok (.if_icmp .eq 8, 3) := by decide +kernel
theorem dX8_axiom_36 : decode cX8_axiom 36 = .ok (.iload_n 1, 1) := by decide +kernel
theorem dX8_axiom_37 : decode cX8_axiom 37 = .ok (.iconst 3, 1) := by decide +kernel
theorem dX8_axiom_38 : decode cX8_axiom 38 = .ok (.if_icmp .ne 27, 3) := by decide +kernel
theorem dX8_axiom_41 : decode cX8_axiom 41 = .ok (.iload_n 2, 1) := by decide +kernel
theorem dX8_axiom_42 : decode cX8_axiom 42 = .ok (.iconst 0, 1) := by decide +kernel
theorem dX8_axiom_43 : decode cX8_axiom 43 = .ok (.bipush 15, 2) := by decide +kernel
theorem dX8_axiom_45 : decode cX8_axiom 45 = .ok (.invokestatic 93, 3) := by decide +kernel
theorem dX8_axiom_48 : decode cX8_axiom 48 = .ok (.ifCond .eq 17, 3) := by decide +kernel
theorem dX8_axiom_51 : decode cX8_axiom 51 = .ok (.iload_n 3, 1) := by decide +kernel
theorem dX8_axiom_52 : decode cX8_axiom 52 = .ok (.iconst 0, 1) := by decide +kernel
theorem dX8_axiom_53 : decode cX8_axiom 53 = .ok (.bipush 15, 2) := by decide +kernel
theorem dX8_axiom_55 : decode cX8_axiom 55 = .ok (.invokestatic 93, 3) := by decide +kernel
theorem dX8_axiom_58 : decode cX8_axiom 58 = .ok (.ifCond .eq 7, 3) := by decide +kernel
theorem dX8_axiom_61 : decode cX8_axiom 61 = .ok (.iconst 1, 1) := by decide +kernel
theorem dX8_axiom_62 : decode cX8_axiom 62 = .ok (.goto 4, 3) := by decide +kernel
theorem dX8_axiom_65 : decode cX8_axiom 65 = .ok (.iconst 0, 1) := by decide +kernel
theorem dX8_axiom_66 : decode cX8_axiom 66 = .ok (.istore 4, 2) := by decide +kernel
theorem dX8_axiom_68 : decode cX8_axiom 68 = .ok (.iload 4, 2) := by decide +kernel
theorem dX8_axiom_70 : decode cX8_axiom 70 = .ok (.ifCond .ne 5, 3) := by decide +kernel
theorem dX8_axiom_73 : decode cX8_axiom 73 = .ok (.iconst (-1), 1) := by decide +kernel
theorem dX8_axiom_74 : decode cX8_axiom 74 = .ok (.ireturn, 1) := by decide +kernel
theorem dX8_axiom_75 : decode cX8_axiom 75 = .ok (.aload_n 0, 1) := by decide +kernel
theorem dX8_axiom_76 : decode cX8_axiom 76 = .ok (.getfield 101, 3) := by decide +kernel
theorem dX8_axiom_79 : decode cX8_axiom 79 = .ok (.bipush 16, 2) := by decide +kernel
theorem dX8_axiom_81 : decode cX8_axiom 81 = .ok (.if_icmp .ne 6, 3) := by decide +kernel
theorem dX8_axiom_84 : decode cX8_axiom 84 = .ok (.bipush (-2), 2) := by decide +kernel
theorem dX8_axiom_86 : decode cX8_axiom 86 = .ok (.ireturn, 1) := by decide +kernel
theorem dX8_axiom_87 : decode cX8_axiom 87 = .ok (.aload_n 0, 1) := by decide +kernel
theorem dX8_axiom_88 : decode cX8_axiom 88 = .ok (.getfield 7, 3) := by decide +kernel
theorem dX8_axiom_91 : decode cX8_axiom 91 = .ok (.aload_n 0, 1) := by decide +kernel
theorem dX8_axiom_92 : decode cX8_axiom 92 = .ok (.getfield 101, 3) := by decide +kernel
theorem dX8_axiom_95 : decode cX8_axiom 95 = .ok (.iload_n 1, 1) := by decide +kernel
theorem dX8_axiom_96 : decode cX8_axiom 96 = .ok (.iastore, 1) := by decide +kernel
theorem dX8_axiom_97 : decode cX8_axiom 97 = .ok (.aload_n 0, 1) := by decide +kernel
theorem dX8_axiom_98 : decode cX8_axiom 98 = .ok (.getfield 13, 3) := by decide +kernel
theorem dX8_axiom_101 : decode cX8_axiom 101 = .ok (.aload_n 0, 1) := by decide +kernel
theorem dX8_axiom_102 : decode cX8_axiom 102 = .ok (.getfield 101, 3) := by decide +kernel
theorem dX8_axiom_105 : decode cX8_axiom 105 = .ok (.iload_n 2, 1) := by decide +kernel
theorem dX8_axiom_106 : decode cX8_axiom 106 = .ok (.iastore, 1) := by decide +kernel
theorem dX8_axiom_107 : decode cX8_axiom 107 = .ok (.aload_n 0, 1) := by decide +kernel
theorem dX8_axiom_108 : decode cX8_axiom 108 = .ok (.getfield 16, 3) := by decide +kernel
theorem dX8_axiom_111 : decode cX8_axiom 111 = .ok (.aload_n 0, 1) := by decide +kernel
theorem dX8_axiom_112 : decode cX8_axiom 112 = .ok (.getfield 101, 3) := by decide +kernel
theorem dX8_axiom_115 : decode cX8_axiom 115 = .ok (.iload_n 3, 1) := by decide +kernel
theorem dX8_axiom_116 : decode cX8_axiom 116 = .ok (.iastore, 1) := by decide +kernel
theorem dX8_axiom_117 : decode cX8_axiom 117 = .ok (.aload_n 0, 1) := by decide +kernel
theorem dX8_axiom_118 : decode cX8_axiom 118 = .ok (.dup, 1) := by decide +kernel
theorem dX8_axiom_119 : decode cX8_axiom 119 = .ok (.getfield 101, 3) := by decide +kernel
theorem dX8_axiom_122 : decode cX8_axiom 122 = .ok (.iconst 1, 1) := by decide +kernel
theorem dX8_axiom_123 : decode cX8_axiom 123 = .ok (.iadd, 1) := by decide +kernel
theorem dX8_axiom_124 : decode cX8_axiom 124 = .ok (.putfield 101, 3) := by decide +kernel
theorem dX8_axiom_127 : decode cX8_axiom 127 = .ok (.aload_n 0, 1) := by decide +kernel
theorem dX8_axiom_128 : decode cX8_axiom 128 = .ok (.iconst (-1), 1) := by decide +kernel
theorem dX8_axiom_129 : decode cX8_axiom 129 = .ok (.putfield 43, 3) := by decide +kernel
theorem dX8_axiom_132 : decode cX8_axiom 132 = .ok (.aload_n 0, 1) := by decide +kernel
theorem dX8_axiom_133 : decode cX8_axiom 133 = .ok (.getfield 101, 3) := by decide +kernel
theorem dX8_axiom_136 : decode cX8_axiom 136 = .ok (.iconst 1, 1) := by decide +kernel
theorem dX8_axiom_137 : decode cX8_axiom 137 = .ok (.isub, 1) := by decide +kernel
theorem dX8_axiom_138 : decode cX8_axiom 138 = .ok (.ireturn, 1) := by decide +kernel
set_option maxRecDepth 40000 in
theorem kfX8_101 : Cond.fieldLink RX8 101 "QlRewriteModel" "axioms" "I" ∈ qW := qw 570 rfl rfl
set_option maxRecDepth 40000 in
theorem kfX8_28 : Cond.fieldLink RX8 28 "QlRewriteModel" "answersOf" "[I" ∈ qW := qw 579 rfl rfl
set_option maxRecDepth 40000 in
theorem kfX8_31 : Cond.fieldLink RX8 31 "QlRewriteModel" "atomsOf" "[I" ∈ qW := qw 580 rfl rfl
set_option maxRecDepth 40000 in
theorem kmX8_97 : Cond.methodLink RX8 97 yX8_isSort ∈ qW := qw 681 rfl rfl
abbrev rm_c_Model_count : Room := { frames := 0, cells := 0, slots := 0, locals := 0 }
set_option maxHeartbeats 4000000 in
set_option maxRecDepth 100000 in
theorem c_Model_count (l : Launch) (dC : Nat → ClassId) (dI : Nat → Nat → Nat) (cI cL cQ cZ : ClassId) (x0 : Nat) (ax : Nat) (z1 : Nat) (z2 : Nat) (z3 : Nat) (fc : Nat) (z5 : Nat) (z6 : Nat) (z7 : Nat) (qs : Nat) (z9 : Nat) (z10 : Nat) (z11 : Nat) (z12 : Nat) (z13 : Nat) (hd : Option Nat) (lg : Bool) (fcn : Nat) (z17 : Nat) (z18 : Nat) (z19 : Nat) (md : Nat) (z21 : Nat) (z22 : Nat) (z23 : Nat) (z24 : Nat) (hc : Nat) (z26 : Nat) (z27 : Nat) (z28 : Nat) (z29 : Nat) (z30 : Nat) (z31 : Nat) (sm : Bool) (z33 : Nat) (z34 : Nat) (w : Int32)  : Met l yX8_count wkX8_count rm_c_Model_count (q_R (dC, dI) qCl (qT cI cL cQ cZ) [(x0, .inr (8, mO ax z1 z2 z3 fc z5 z6 z7 qs z9 z10 z11 z12 z13 hd lg fcn z17 z18 z19 md z21 z22 z23 z24 hc z26 z27 z28 z29 z30 z31 sm z33 z34))] [.ref x0, .int (w)]) (vp_Si (fun r => r = (s_count ax fc qs w))) 0 0 (fun _ => False) := by
  refine Met.ofW (cc := cX8_count) (maxL := 2) (ret := (some .int)) (by decide) rfl ?_
  intro p e s m args below meth c s₁ B hml hv
  obtain ⟨hargs, hP, hK⟩ := hv
  have hx := B.exec
  have hb := B.bytes
  have hr := B.returns
  have hts : ∀ w ∈ qW, w.before args s = true := fun w h => atoms_spec (ws := wkX8_count) B.pre w (List.mem_cons_of_mem _ h)
  have hown : s.vm.findClass RX8 = some m.cls := findClass_of_methodNamed B.named
  have hlocks := B.notSynchronized
  refine q_named (fun Q hQ => ?_)
  refine q_entry hargs (Nat.le_of_ble_eq_true rfl) (fun ls hl => ?_)
  have hl : lv_has ls 2 [(0, .ref x0), (1, .int (w))] := hl
  refine lv_iload_n hx hb dX8_count_0 rfl (lv_at hl 1 rfl) ?_
  refine lv_if_ne (tgt := 11) hx hb dX8_count_1 (by decide) (fun c1_1 => ?_) (fun c1_1 => ?_)
  · refine lv_iload_n hx hb dX8_count_11 rfl (lv_at hl 1 rfl) ?_
    refine lv_iconst (v := (nI (1))) hx hb dX8_count_12 (by decide) ?_
    refine lv_icmp_ne (tgt := 23) hx hb dX8_count_13 (by decide) (fun c13_2 => ?_) (fun c13_2 => ?_)
    · refine lv_iload_n hx hb dX8_count_23 rfl (lv_at hl 1 rfl) ?_
      refine lv_iconst (v := (nI (2))) hx hb dX8_count_24 (by decide) ?_
      refine lv_icmp_ne (tgt := 35) hx hb dX8_count_25 (by decide) (fun c25_3 => ?_) (fun c25_3 => ?_)
      · refine lv_iconst (v := (oI (none))) hx hb dX8_count_35 (by decide) ?_
        subst hQ
        exact W.iret (v := (oI (none))) hx hb hr (fun t9 h9 _ => ⟨_, rfl, show (oI (none)) = (s_count ax fc qs w) from by (first | (rw [s_count, if_pos (by assumption)]) | (rw [s_count, if_neg (by assumption), if_pos (by assumption)]) | (rw [s_count, if_neg (by assumption), if_neg (by assumption), if_pos (by assumption)]) | (rw [s_count, if_neg (by assumption), if_neg (by assumption), if_neg (by assumption)]; rfl)), h9⟩) (fun q hq => by cases hq) dX8_count_36
      · refine lv_aload_n hx hb dX8_count_28 rfl (lv_at hl 0 rfl) ?_
        refine va_get (D := (dC, dI)) (ci := 8) (v := .int (nI (qs))) (C := RX8) (T := TX8) (N := 35) hx hb hts uX8 hown hK hP 0 rfl rfl 8 (by decide) (hts _ kfX8_115) (fun _ h9 => h9) rfl dX8_count_29 ?_
        refine lv_goto (tgt := 36) hx hb dX8_count_32 (by decide) ?_
        subst hQ
        exact W.iret (v := (nI (qs))) hx hb hr (fun t9 h9 _ => ⟨_, rfl, show (nI (qs)) = (s_count ax fc qs w) from by (first | (rw [s_count, if_pos (by assumption)]) | (rw [s_count, if_neg (by assumption), if_pos (by assumption)]) | (rw [s_count, if_neg (by assumption), if_neg (by assumption), if_pos (by assumption)]) | (rw [s_count, if_neg (by assumption), if_neg (by assumption), if_neg (by assumption)]; rfl)), h9⟩) (fun q hq => by cases hq) dX8_count_36
    · refine lv_aload_n hx hb dX8_count_16 rfl (lv_at hl 0 rfl) ?_
      refine va_get (D := (dC, dI)) (ci := 8) (v := .int (nI (fc))) (C := RX8) (T := TX8) (N := 35) hx hb hts uX8 hown hK hP 0 rfl rfl 4 (by decide) (hts _ kfX8_104) (fun _ h9 => h9) rfl dX8_count_17 ?_
      refine lv_goto (tgt := 36) hx hb dX8_count_20 (by decide) ?_
      subst hQ
      exact W.iret (v := (nI (fc))) hx hb hr (fun t9 h9 _ => ⟨_, rfl, show (nI (fc)) = (s_count ax fc qs w) from by (first | (rw [s_count, if_pos (by assumption)]) | (rw [s_count, if_neg (by assumption), if_pos (by assumption)]) | (rw [s_count, if_neg (by assumption), if_neg (by assumption), if_pos (by assumption)]) | (rw [s_count, if_neg (by assumption), if_neg (by assumption), if_neg (by assumption)]; rfl)), h9⟩) (fun q hq => by cases hq) dX8_count_36
  · refine lv_aload_n hx hb dX8_count_4 rfl (lv_at hl 0 rfl) ?_
    refine va_get (D := (dC, dI)) (ci := 8) (v := .int (nI (ax))) (C := RX8) (T := TX8) (N := 35) hx hb hts uX8 hown hK hP 0 rfl rfl 0 (by decide) (hts _ kfX8_101) (fun _ h9 => h9) rfl dX8_count_5 ?_
    refine lv_goto (tgt := 36) hx hb dX8_count_8 (by decide) ?_
    subst hQ
    exact W.iret (v := (nI (ax))) hx hb hr (fun t9 h9 _ => ⟨_, rfl, show (nI (ax)) = (s_count ax fc qs w) from by (first | (rw [s_count, if_pos (by assumption)]) | (rw [s_count, if_neg (by assumption), if_pos (by assumption)]) | (rw [s_count, if_neg (by assumption), if_neg (by assumption), if_pos (by assumption)]) | (rw [s_count, if_neg (by assumption), if_neg (by assumption), if_neg (by assumption)]; rfl)), h9⟩) (fun q hq => by cases hq) dX8_count_36
abbrev rm_c_Model_question : Room := { frames := 1, cells := 0, slots := 0, locals := 22 }
set_option maxHeartbeats 4000000 in
set_option maxRecDepth 100000 in
theorem c_Model_question (l : Launch) (dC : Nat → ClassId) (dI : Nat → Nat → Nat) (cI cL cQ cZ : ClassId) (x0 : Nat) (ax : Nat) (z1 : Nat) (z2 : Nat) (z3 : Nat) (fc : Nat) (z5 : Nat) (z6 : Nat) (z7 : Nat) (qs : Nat) (z9 : Nat) (z10 : Nat) (z11 : Nat) (z12 : Nat) (z13 : Nat) (hd : Option Nat) (lg : Bool) (fcn : Nat) (z17 : Nat) (z18 : Nat) (z19 : Nat) (md : Nat) (z21 : Nat) (z22 : Nat) (z23 : Nat) (z24 : Nat) (hc : Nat) (z26 : Nat) (z27 : Nat) (z28 : Nat) (z29 : Nat) (z30 : Nat) (z31 : Nat) (sm : Bool) (z33 : Nat) (z34 : Nat) (qa : Nat → Nat) (qn : Nat → Nat) (x : Int32) (hqs : qs ≤ 6) : Met l yX8_question wkX8_question rm_c_Model_question (q_W (dC, dI) qCl (qT cI cL cQ cZ) [(x0, .inr (8, mO ax z1 z2 z3 fc z5 z6 z7 qs z9 z10 z11 z12 z13 hd lg fcn z17 z18 z19 md z21 z22 z23 z24 hc z26 z27 z28 z29 z30 z31 sm z33 z34)), (z9, .inl (cI, 6, .inl (nF qa))), (z10, .inl (cI, 6, .inl (nF qn)))] [.ref x0, .int (x)]) (va_Qi (fun (r : Int32) (u : Int32 × Nat × (Nat → Nat) × (Nat → Nat)) => (r = (u.1)) ∧ (s_quest x qs qa qn u.1 u.2.1 u.2.2.1 u.2.2.2)) (fun (u : Int32 × Nat × (Nat → Nat) × (Nat → Nat)) t => va_P (dC, dI) qCl [(x0, .inr (8, mO ax z1 z2 z3 fc z5 z6 z7 u.2.1 z9 z10 z11 z12 z13 hd lg fcn z17 z18 z19 md z21 z22 z23 z24 hc z26 z27 z28 z29 z30 z31 sm z33 z34)), (z9, .inl (cI, 6, .inl (nF u.2.2.1))), (z10, .inl (cI, 6, .inl (nF u.2.2.2)))] t.heap) (q_A [(x0, .inr (8, mO ax z1 z2 z3 fc z5 z6 z7 qs z9 z10 z11 z12 z13 hd lg fcn z17 z18 z19 md z21 z22 z23 z24 hc z26 z27 z28 z29 z30 z31 sm z33 z34)), (z9, .inl (cI, 6, .inl (nF qa))), (z10, .inl (cI, 6, .inl (nF qn)))])) 0 0 (q_A [(x0, .inr (8, mO ax z1 z2 z3 fc z5 z6 z7 qs z9 z10 z11 z12 z13 hd lg fcn z17 z18 z19 md z21 z22 z23 z24 hc z26 z27 z28 z29 z30 z31 sm z33 z34)), (z9, .inl (cI, 6, .inl (nF qa))), (z10, .inl (cI, 6, .inl (nF qn)))]) := by
  refine Met.ofW (cc := cX8_question) (maxL := 2) (ret := (some .int)) (by decide) rfl ?_
  intro p e s m args below meth c s₁ B hml hv
  obtain ⟨hargs, hP, hK, hD0⟩ := hv
  have hx := B.exec
  have hb := B.bytes
  have hr := B.returns
  have hts : ∀ w ∈ qW, w.before args s = true := fun w h => atoms_spec (ws := wkX8_question) B.pre w (List.mem_cons_of_mem _ h)
  have hown : s.vm.findClass RX8 = some m.cls := findClass_of_methodNamed B.named
  have hlocks := B.notSynchronized
  refine q_named (fun Q hQ => ?_)
  have hD : va_D (q_A [(x0, .inr (8, mO ax z1 z2 z3 fc z5 z6 z7 qs z9 z10 z11 z12 z13 hd lg fcn z17 z18 z19 md z21 z22 z23 z24 hc z26 z27 z28 z29 z30 z31 sm z33 z34)), (z9, .inl (cI, 6, .inl (nF qa))), (z10, .inl (cI, 6, .inl (nF qn)))]) [(x0, .inr (8, mO ax z1 z2 z3 fc z5 z6 z7 qs z9 z10 z11 z12 z13 hd lg fcn z17 z18 z19 md z21 z22 z23 z24 hc z26 z27 z28 z29 z30 z31 sm z33 z34)), (z9, .inl (cI, 6, .inl (nF qa))), (z10, .inl (cI, 6, .inl (nF qn)))] := ⟨hD0.1, fun k q h => ⟨k, q.2, h⟩⟩
  generalize hAe : q_A [(x0, .inr (8, mO ax z1 z2 z3 fc z5 z6 z7 qs z9 z10 z11 z12 z13 hd lg fcn z17 z18 z19 md z21 z22 z23 z24 hc z26 z27 z28 z29 z30 z31 sm z33 z34)), (z9, .inl (cI, 6, .inl (nF qa))), (z10, .inl (cI, 6, .inl (nF qn)))] = A at hD
  have hS : va_S A s.heap s.heap [] := va_S.rf
  refine q_entry hargs (Nat.le_of_ble_eq_true rfl) (fun ls hl => ?_)
  have hl : lv_has ls 2 [(0, .ref x0), (1, .int (x))] := hl
  obtain ⟨H, locs, eH, eL⟩ : ∃ (H : Heap) (locs : List Loc), s.heap = H ∧ ([] : List Loc) = locs := ⟨_, _, rfl, rfl⟩
  have hS : va_S A s.heap H locs := by rw [← eH, ← eL]; exact hS
  have hP : va_P (dC, dI) qCl [(x0, .inr (8, mO ax z1 z2 z3 fc z5 z6 z7 qs z9 z10 z11 z12 z13 hd lg fcn z17 z18 z19 md z21 z22 z23 z24 hc z26 z27 z28 z29 z30 z31 sm z33 z34)), (z9, .inl (cI, 6, .inl (nF qa))), (z10, .inl (cI, 6, .inl (nF qn)))] H := by rw [← eH]; exact hP
  refine W_at eH eL ?_
  refine lv_iload_n hx hb dX8_question_0 rfl (lv_at hl 1 rfl) ?_
  refine lv_iconst (v := (nI (0))) hx hb dX8_question_1 (by decide) ?_
  refine lv_iconst (v := (nI (2))) hx hb dX8_question_2 (by decide) ?_
  refine vp_callSi (va_Run.run (va_runS (As := [.int (x), .int (nI (0)), .int (nI (2))]) (rest := []) ⟨hx, hb, hml, hown, hts⟩ (c_Model_isIn l dC dI cI cL cQ cZ x (nI (0)) (nI (2)) ) (q_cwS 3 hts gkX8_isIn kmX8_93 ksX8_isIn kiX8 rfl rfl rfl (by decide +kernel) ⟨Nat.le_of_ble_eq_true rfl, Nat.le_of_ble_eq_true rfl⟩) (q_preS hK hP [] rfl) rfl rfl hl.1 rfl (lv_room (Nat.le_of_ble_eq_true rfl)) dX8_question_3 ⟨Nat.zero_le _, Nat.zero_le _⟩)) (fun r1 hr1 => ?_)
  subst hr1
  refine q_ifb_ne (b := m_in x (nI (0)) (nI (2))) (tgt := 11) hx hb dX8_question_6 (by decide) (fun c6_2 => ?_) (fun c6_2 => ?_)
  · refine lv_aload_n hx hb dX8_question_11 rfl (lv_at hl 0 rfl) ?_
    refine va_get (D := (dC, dI)) (ci := 8) (v := .int (nI (qs))) (C := RX8) (T := TX8) (N := 35) hx hb hts uX8 hown hK hP 0 rfl rfl 8 (by decide) (hts _ kfX8_115) (fun _ h9 => h9) rfl dX8_question_12 ?_
    refine lv_bipush (v := (nI (6))) hx hb dX8_question_15 (by decide) ?_
    refine q_icmp_ne (x := qs) (y := 6) (tgt := 23) hx hb dX8_question_17 (by decide) (by omega) (by omega) (fun c17_3 => ?_) (fun c17_3 => ?_)
    · obtain ⟨j9, hj9, ej9⟩ := m_in_t (n := 2) (by decide) (by assumption)
      have hl := lv_updv hl 1 rfl (show (.int (x) : Value) = .int (nI (j9)) from (congrArg Value.int ej9))
      have hl : lv_has ls 2 [(0, .ref x0), (1, .int (nI (j9)))] := hl
      refine lv_aload_n hx hb dX8_question_23 rfl (lv_at hl 0 rfl) ?_
      refine va_get (D := (dC, dI)) (ci := 8) (v := .ref z9) (C := RX8) (T := TX8) (N := 35) hx hb hts uX8 hown hK hP 0 rfl rfl 9 (by decide) (hts _ kfX8_28) (fun _ h9 => h9) rfl dX8_question_24 ?_
      refine lv_aload_n hx hb dX8_question_27 rfl (lv_at hl 0 rfl) ?_
      refine va_get (D := (dC, dI)) (ci := 8) (v := .int (nI (qs))) (C := RX8) (T := TX8) (N := 35) hx hb hts uX8 hown hK hP 0 rfl rfl 8 (by decide) (hts _ kfX8_115) (fun _ h9 => h9) rfl dX8_question_28 ?_
      refine lv_iload_n hx hb dX8_question_31 rfl (lv_at hl 1 rfl) ?_
      refine q_iastN hx hb hK hP hD hS 1 0 rfl rfl (j := qs) (x := j9) (by omega) (by omega) dX8_question_32 (fun H locs hP hD hS => ?_)
      have hP : va_P (dC, dI) qCl [(x0, .inr (8, mO ax z1 z2 z3 fc z5 z6 z7 qs z9 z10 z11 z12 z13 hd lg fcn z17 z18 z19 md z21 z22 z23 z24 hc z26 z27 z28 z29 z30 z31 sm z33 z34)), (z9, .inl (cI, 6, .inl (nF (va_up qa qs j9)))), (z10, .inl (cI, 6, .inl (nF qn)))] H := hP
      have hD : va_D A [(x0, .inr (8, mO ax z1 z2 z3 fc z5 z6 z7 qs z9 z10 z11 z12 z13 hd lg fcn z17 z18 z19 md z21 z22 z23 z24 hc z26 z27 z28 z29 z30 z31 sm z33 z34)), (z9, .inl (cI, 6, .inl (nF (va_up qa qs j9)))), (z10, .inl (cI, 6, .inl (nF qn)))] := hD
      refine lv_aload_n hx hb dX8_question_33 rfl (lv_at hl 0 rfl) ?_
      refine va_get (D := (dC, dI)) (ci := 8) (v := .ref z10) (C := RX8) (T := TX8) (N := 35) hx hb hts uX8 hown hK hP 0 rfl rfl 10 (by decide) (hts _ kfX8_31) (fun _ h9 => h9) rfl dX8_question_34 ?_
      refine lv_aload_n hx hb dX8_question_37 rfl (lv_at hl 0 rfl) ?_
      refine va_get (D := (dC, dI)) (ci := 8) (v := .int (nI (qs))) (C := RX8) (T := TX8) (N := 35) hx hb hts uX8 hown hK hP 0 rfl rfl 8 (by decide) (hts _ kfX8_115) (fun _ h9 => h9) rfl dX8_question_38 ?_
      refine lv_iconst (v := (nI (0))) hx hb dX8_question_41 (by decide) ?_
      refine q_iastN hx hb hK hP hD hS 2 0 rfl rfl (j := qs) (x := 0) (by omega) (by omega) dX8_question_42 (fun H locs hP hD hS => ?_)
      have hP : va_P (dC, dI) qCl [(x0, .inr (8, mO ax z1 z2 z3 fc z5 z6 z7 qs z9 z10 z11 z12 z13 hd lg fcn z17 z18 z19 md z21 z22 z23 z24 hc z26 z27 z28 z29 z30 z31 sm z33 z34)), (z9, .inl (cI, 6, .inl (nF (va_up qa qs j9)))), (z10, .inl (cI, 6, .inl (nF (va_up qn qs 0))))] H := hP
      have hD : va_D A [(x0, .inr (8, mO ax z1 z2 z3 fc z5 z6 z7 qs z9 z10 z11 z12 z13 hd lg fcn z17 z18 z19 md z21 z22 z23 z24 hc z26 z27 z28 z29 z30 z31 sm z33 z34)), (z9, .inl (cI, 6, .inl (nF (va_up qa qs j9)))), (z10, .inl (cI, 6, .inl (nF (va_up qn qs 0))))] := hD
      refine lv_aload_n hx hb dX8_question_43 rfl (lv_at hl 0 rfl) ?_
      refine lv_dup hx hb dX8_question_44 rfl ?_
      refine va_get (D := (dC, dI)) (ci := 8) (v := .int (nI (qs))) (C := RX8) (T := TX8) (N := 35) hx hb hts uX8 hown hK hP 0 rfl rfl 8 (by decide) (hts _ kfX8_115) (fun _ h9 => h9) rfl dX8_question_45 ?_
      refine lv_iconst (v := (nI (1))) hx hb dX8_question_48 (by decide) ?_
      refine q_iadd (x := qs) (y := 1) hx hb dX8_question_49 ?_
      refine va_put (D := (dC, dI)) (ci := 8) (v := .int (nI (qs + 1))) (ty := .int) (C := RX8) (T := TX8) (N := 35) hx hb hts uX8 tyX8 tyX8_ok nmX8 hown hK hP hD hS 0 rfl rfl 8 (by decide) (hts _ kfX8_115) (fun _ h9 => h9) rfl (by decide +kernel) (rfl) (rfl) (Nat.le_of_ble_eq_true rfl) dX8_question_50 (fun H locs hP hD hS => ?_)
      have hP : va_P (dC, dI) qCl [(x0, .inr (8, mO ax z1 z2 z3 fc z5 z6 z7 (qs + 1) z9 z10 z11 z12 z13 hd lg fcn z17 z18 z19 md z21 z22 z23 z24 hc z26 z27 z28 z29 z30 z31 sm z33 z34)), (z9, .inl (cI, 6, .inl (nF (va_up qa qs j9)))), (z10, .inl (cI, 6, .inl (nF (va_up qn qs 0))))] H := hP
      have hD : va_D A [(x0, .inr (8, mO ax z1 z2 z3 fc z5 z6 z7 (qs + 1) z9 z10 z11 z12 z13 hd lg fcn z17 z18 z19 md z21 z22 z23 z24 hc z26 z27 z28 z29 z30 z31 sm z33 z34)), (z9, .inl (cI, 6, .inl (nF (va_up qa qs j9)))), (z10, .inl (cI, 6, .inl (nF (va_up qn qs 0))))] := hD
      refine lv_aload_n hx hb dX8_question_53 rfl (lv_at hl 0 rfl) ?_
      refine va_get (D := (dC, dI)) (ci := 8) (v := .int (nI (qs + 1))) (C := RX8) (T := TX8) (N := 35) hx hb hts uX8 hown hK hP 0 rfl rfl 8 (by decide) (hts _ kfX8_115) (fun _ h9 => h9) rfl dX8_question_54 ?_
      refine lv_iconst (v := (nI (1))) hx hb dX8_question_57 (by decide) ?_
      refine q_isub (x := qs + 1) (y := 1) hx hb (by omega) dX8_question_58 ?_
      refine q_top (show (nI ((qs + 1) - 1)) = (nI (qs)) from (congrArg nI (by omega))) ?_
      subst hQ
      subst hAe
      have hP9 := hP.sub (ws' := [(x0, .inr (8, mO ax z1 z2 z3 fc z5 z6 z7 (qs + 1) z9 z10 z11 z12 z13 hd lg fcn z17 z18 z19 md z21 z22 z23 z24 hc z26 z27 z28 z29 z30 z31 sm z33 z34)), (z9, .inl (cI, 6, .inl (nF (va_up qa qs j9)))), (z10, .inl (cI, 6, .inl (nF (va_up qn qs 0))))]) [0, 1, 2] rfl
      exact W.iret (v := (nI (qs))) hx hb hr (fun t9 h9 _ => ⟨⟨(nI (qs)), (nI (qs), qs + 1, va_up qa qs j9, va_up qn qs 0), rfl, ⟨rfl, (show s_quest x qs qa qn (nI (qs)) (qs + 1) (va_up qa qs j9) (va_up qn qs 0) from by (exact Or.inr (Or.inr ⟨by assumption, j9, hj9, ej9, rfl, rfl, rfl, rfl⟩)))⟩, by show va_P _ _ _ t9.heap; rw [h9]; exact hP9⟩, hS.F h9⟩) hS.2.2 dX8_question_59
    · refine lv_bipush (v := (-2)) hx hb dX8_question_20 (by decide) ?_
      subst hQ
      subst hAe
      have hP9 := hP.sub (ws' := [(x0, .inr (8, mO ax z1 z2 z3 fc z5 z6 z7 qs z9 z10 z11 z12 z13 hd lg fcn z17 z18 z19 md z21 z22 z23 z24 hc z26 z27 z28 z29 z30 z31 sm z33 z34)), (z9, .inl (cI, 6, .inl (nF qa))), (z10, .inl (cI, 6, .inl (nF qn)))]) [0, 1, 2] rfl
      exact W.iret (v := (-2)) hx hb hr (fun t9 h9 _ => ⟨⟨(-2), (-2, qs, qa, qn), rfl, ⟨rfl, (show s_quest x qs qa qn (-2) qs qa qn from by (exact Or.inr (Or.inl ⟨by assumption, by assumption, rfl, rfl, rfl, rfl⟩)))⟩, by show va_P _ _ _ t9.heap; rw [h9]; exact hP9⟩, hS.F h9⟩) hS.2.2 dX8_question_22
  · refine lv_iconst (v := (oI (none))) hx hb dX8_question_9 (by decide) ?_
    subst hQ
    subst hAe
    have hP9 := hP.sub (ws' := [(x0, .inr (8, mO ax z1 z2 z3 fc z5 z6 z7 qs z9 z10 z11 z12 z13 hd lg fcn z17 z18 z19 md z21 z22 z23 z24 hc z26 z27 z28 z29 z30 z31 sm z33 z34)), (z9, .inl (cI, 6, .inl (nF qa))), (z10, .inl (cI, 6, .inl (nF qn)))]) [0, 1, 2] rfl
    exact W.iret (v := (oI (none))) hx hb hr (fun t9 h9 _ => ⟨⟨(oI (none)), (oI (none), qs, qa, qn), rfl, ⟨rfl, (show s_quest x qs qa qn (oI (none)) qs qa qn from by (exact Or.inl ⟨by assumption, rfl, rfl, rfl, rfl⟩))⟩, by show va_P _ _ _ t9.heap; rw [h9]; exact hP9⟩, hS.F h9⟩) hS.2.2 dX8_question_10
abbrev rm_c_Model_axiom : Room := { frames := 2, cells := 0, slots := 0, locals := 42 }
set_option maxHeartbeats 4000000 in
set_option maxRecDepth 100000 in
theorem c_Model_axiom (l : Launch) (dC : Nat → ClassId) (dI : Nat → Nat → Nat) (cI cL cQ cZ : ClassId) (x0 : Nat) (ax : Nat) (z1 : Nat) (z2 : Nat) (z3 : Nat) (fc : Nat) (z5 : Nat) (z6 : Nat) (z7 : Nat) (qs : Nat) (z9 : Nat) (z10 : Nat) (z11 : Nat) (z12 : Nat) (z13 : Nat) (hd : Option Nat) (lg : Bool) (fcn : Nat) (z17 : Nat) (z18 : Nat) (z19 : Nat) (md : Nat) (z21 : Nat) (z22 : Nat) (z23 : Nat) (z24 : Nat) (hc : Nat) (z26 : Nat) (z27 : Nat) (z28 : Nat) (z29 : Nat) (z30 : Nat) (z31 : Nat) (sm : Bool) (z33 : Nat) (z34 : Nat) (kd : Nat → Nat) (lf : Nat → Nat) (rg : Nat → Nat) (k : Int32) (a : Int32) (b : Int32) (hax : ax ≤ 16) : Met l yX8_axiom wkX8_axiom rm_c_Model_axiom (q_W (dC, dI) qCl (qT cI cL cQ cZ) [(x0, .inr (8, mO ax z1 z2 z3 fc z5 z6 z7 qs z9 z10 z11 z12 z13 hd lg fcn z17 z18 z19 md z21 z22 z23 z24 hc z26 z27 z28 z29 z30 z31 sm z33 z34)), (z1, .inl (cI, 16, .inl (nF kd))), (z2, .inl (cI, 16, .inl (nF lf))), (z3, .inl (cI, 16, .inl (nF rg)))] [.ref x0, .int (k), .int (a), .int (b)]) (va_Qi (fun (r : Int32) (u : Int32 × Nat × (Nat → Nat) × (Nat → Nat) × (Nat → Nat) × (Option Nat)) => (r = (u.1)) ∧ (s_axm (m_axg k a b) k a b ax kd lf rg hd u.1 u.2.1 u.2.2.1 u.2.2.2.1 u.2.2.2.2.1 u.2.2.2.2.2)) (fun (u : Int32 × Nat × (Nat → Nat) × (Nat → Nat) × (Nat → Nat) × (Option Nat)) t => va_P (dC, dI) qCl [(x0, .inr (8, mO u.2.1 z1 z2 z3 fc z5 z6 z7 qs z9 z10 z11 z12 z13 u.2.2.2.2.2 lg fcn z17 z18 z19 md z21 z22 z23 z24 hc z26 z27 z28 z29 z30 z31 sm z33 z34)), (z1, .inl (cI, 16, .inl (nF u.2.2.1))), (z2, .inl (cI, 16, .inl (nF u.2.2.2.1))), (z3, .inl (cI, 16, .inl (nF u.2.2.2.2.1)))] t.heap) (q_A [(x0, .inr (8, mO ax z1 z2 z3 fc z5 z6 z7 qs z9 z10 z11 z12 z13 hd lg fcn z17 z18 z19 md z21 z22 z23 z24 hc z26 z27 z28 z29 z30 z31 sm z33 z34)), (z1, .inl (cI, 16, .inl (nF kd))), (z2, .inl (cI, 16, .inl (nF lf))), (z3, .inl (cI, 16, .inl (nF rg)))])) 0 0 (q_A [(x0, .inr (8, mO ax z1 z2 z3 fc z5 z6 z7 qs z9 z10 z11 z12 z13 hd lg fcn z17 z18 z19 md z21 z22 z23 z24 hc z26 z27 z28 z29 z30 z31 sm z33 z34)), (z1, .inl (cI, 16, .inl (nF kd))), (z2, .inl (cI, 16, .inl (nF lf))), (z3, .inl (cI, 16, .inl (nF rg)))]) := by
  refine Met.ofW (cc := cX8_axiom) (maxL := 5) (ret := (some .int)) (by decide) rfl ?_
  intro p e s m args below meth c s₁ B hml hv
  obtain ⟨hargs, hP, hK, hD0⟩ := hv
  have hx := B.exec
  have hb := B.bytes
  have hr := B.returns
  have hts : ∀ w ∈ qW, w.before args s = true := fun w h => atoms_spec (ws := wkX8_axiom) B.pre w (List.mem_cons_of_mem _ h)
  have hown : s.vm.findClass RX8 = some m.cls := findClass_of_methodNamed B.named
  have hlocks := B.notSynchronized
  refine q_named (fun Q hQ => ?_)
  have hD : va_D (q_A [(x0, .inr (8, mO ax z1 z2 z3 fc z5 z6 z7 qs z9 z10 z11 z12 z13 hd lg fcn z17 z18 z19 md z21 z22 z23 z24 hc z26 z27 z28 z29 z30 z31 sm z33 z34)), (z1, .inl (cI, 16, .inl (nF kd))), (z2, .inl (cI, 16, .inl (nF lf))), (z3, .inl (cI, 16, .inl (nF rg)))]) [(x0, .inr (8, mO ax z1 z2 z3 fc z5 z6 z7 qs z9 z10 z11 z12 z13 hd lg fcn z17 z18 z19 md z21 z22 z23 z24 hc z26 z27 z28 z29 z30 z31 sm z33 z34)), (z1, .inl (cI, 16, .inl (nF kd))), (z2, .inl (cI, 16, .inl (nF lf))), (z3, .inl (cI, 16, .inl (nF rg)))] := ⟨hD0.1, fun k q h => ⟨k, q.2, h⟩⟩
  generalize hAe : q_A [(x0, .inr (8, mO ax z1 z2 z3 fc z5 z6 z7 qs z9 z10 z11 z12 z13 hd lg fcn z17 z18 z19 md z21 z22 z23 z24 hc z26 z27 z28 z29 z30 z31 sm z33 z34)), (z1, .inl (cI, 16, .inl (nF kd))), (z2, .inl (cI, 16, .inl (nF lf))), (z3, .inl (cI, 16, .inl (nF rg)))] = A at hD
  have hS : va_S A s.heap s.heap [] := va_S.rf
  refine q_entry hargs (Nat.le_of_ble_eq_true rfl) (fun ls hl => ?_)
  have hl : lv_has ls 5 [(0, .ref x0), (1, .int (k)), (2, .int (a)), (3, .int (b))] := hl
  obtain ⟨H, locs, eH, eL⟩ : ∃ (H : Heap) (locs : List Loc), s.heap = H ∧ ([] : List Loc) = locs := ⟨_, _, rfl, rfl⟩
  have hS : va_S A s.heap H locs := by rw [← eH, ← eL]; exact hS
  have hP : va_P (dC, dI) qCl [(x0, .inr (8, mO ax z1 z2 z3 fc z5 z6 z7 qs z9 z10 z11 z12 z13 hd lg fcn z17 z18 z19 md z21 z22 z23 z24 hc z26 z27 z28 z29 z30 z31 sm z33 z34)), (z1, .inl (cI, 16, .inl (nF kd))), (z2, .inl (cI, 16, .inl (nF lf))), (z3, .inl (cI, 16, .inl (nF rg)))] H := by rw [← eH]; exact hP
  refine W_at eH eL ?_
  have L66 : ∀ (gd : Bool) (ls : Array Slot) (H : Heap) (locs : List Loc), (gd = m_axg k a b) → lv_has ls 5 [(0, .ref x0), (1, .int (k)), (2, .int (a)), (3, .int (b))] → va_P (dC, dI) qCl [(x0, .inr (8, mO ax z1 z2 z3 fc z5 z6 z7 qs z9 z10 z11 z12 z13 hd lg fcn z17 z18 z19 md z21 z22 z23 z24 hc z26 z27 z28 z29 z30 z31 sm z33 z34)), (z1, .inl (cI, 16, .inl (nF kd))), (z2, .inl (cI, 16, .inl (nF lf))), (z3, .inl (cI, 16, .inl (nF rg)))] H → va_D A [(x0, .inr (8, mO ax z1 z2 z3 fc z5 z6 z7 qs z9 z10 z11 z12 z13 hd lg fcn z17 z18 z19 md z21 z22 z23 z24 hc z26 z27 z28 z29 z30 z31 sm z33 z34)), (z1, .inl (cI, 16, .inl (nF kd))), (z2, .inl (cI, 16, .inl (nF lf))), (z3, .inl (cI, 16, .inl (nF rg)))] → va_S A s.heap H locs → W p l e (headSpec wkX8_axiom rm_c_Model_axiom).room s m args below meth c H locs 0 0 Q (F0 m 66 ls [.int (bI (gd))]) := by
    intro gd ls H locs hgd hl hP hD hS
    refine lv_istore (lv' := [(4, .int (bI (gd))), (0, .ref x0), (1, .int (k)), (2, .int (a)), (3, .int (b))]) hx hb dX8_axiom_66 hl (by decide) rfl (fun ls hl => ?_)
    refine lv_iload hx hb dX8_axiom_68 (lv_at hl 0 rfl) ?_
    refine q_ifb_ne (b := gd) (tgt := 75) hx hb dX8_axiom_70 (by decide) (fun c70_1 => ?_) (fun c70_1 => ?_)
    · refine lv_aload_n hx hb dX8_axiom_75 rfl (lv_at hl 1 rfl) ?_
      refine va_get (D := (dC, dI)) (ci := 8) (v := .int (nI (ax))) (C := RX8) (T := TX8) (N := 35) hx hb hts uX8 hown hK hP 0 rfl rfl 0 (by decide) (hts _ kfX8_101) (fun _ h9 => h9) rfl dX8_axiom_76 ?_
      refine lv_bipush (v := (nI (16))) hx hb dX8_axiom_79 (by decide) ?_
      refine q_icmp_ne (x := ax) (y := 16) (tgt := 87) hx hb dX8_axiom_81 (by decide) (by omega) (by omega) (fun c81_2 => ?_) (fun c81_2 => ?_)
      · obtain ⟨k9, a9, b9, hn9, ek9, ea9, eb9, hla, hlb⟩ := m_axg_t (hgd.symm.trans (by assumption))
        have hl := lv_updv hl 2 rfl (show (.int (k) : Value) = .int (nI (k9)) from (congrArg Value.int ek9))
        have hl : lv_has ls 5 [(4, .int (bI (gd))), (0, .ref x0), (1, .int (nI (k9))), (2, .int (a)), (3, .int (b))] := hl
        have hl := lv_updv hl 3 rfl (show (.int (a) : Value) = .int (nI (a9)) from (congrArg Value.int ea9))
        have hl : lv_has ls 5 [(4, .int (bI (gd))), (0, .ref x0), (1, .int (nI (k9))), (2, .int (nI (a9))), (3, .int (b))] := hl
        have hl := lv_updv hl 4 rfl (show (.int (b) : Value) = .int (nI (b9)) from (congrArg Value.int eb9))
        have hl : lv_has ls 5 [(4, .int (bI (gd))), (0, .ref x0), (1, .int (nI (k9))), (2, .int (nI (a9))), (3, .int (nI (b9)))] := hl
        refine lv_aload_n hx hb dX8_axiom_87 rfl (lv_at hl 1 rfl) ?_
        refine va_get (D := (dC, dI)) (ci := 8) (v := .ref z1) (C := RX8) (T := TX8) (N := 35) hx hb hts uX8 hown hK hP 0 rfl rfl 1 (by decide) (hts _ kfX8_7) (fun _ h9 => h9) rfl dX8_axiom_88 ?_
        refine lv_aload_n hx hb dX8_axiom_91 rfl (lv_at hl 1 rfl) ?_
        refine va_get (D := (dC, dI)) (ci := 8) (v := .int (nI (ax))) (C := RX8) (T := TX8) (N := 35) hx hb hts uX8 hown hK hP 0 rfl rfl 0 (by decide) (hts _ kfX8_101) (fun _ h9 => h9) rfl dX8_axiom_92 ?_
        refine lv_iload_n hx hb dX8_axiom_95 rfl (lv_at hl 2 rfl) ?_
        refine q_iastN hx hb hK hP hD hS 1 0 rfl rfl (j := ax) (x := k9) (by omega) (by omega) dX8_axiom_96 (fun H locs hP hD hS => ?_)
        have hP : va_P (dC, dI) qCl [(x0, .inr (8, mO ax z1 z2 z3 fc z5 z6 z7 qs z9 z10 z11 z12 z13 hd lg fcn z17 z18 z19 md z21 z22 z23 z24 hc z26 z27 z28 z29 z30 z31 sm z33 z34)), (z1, .inl (cI, 16, .inl (nF (va_up kd ax k9)))), (z2, .inl (cI, 16, .inl (nF lf))), (z3, .inl (cI, 16, .inl (nF rg)))] H := hP
        have hD : va_D A [(x0, .inr (8, mO ax z1 z2 z3 fc z5 z6 z7 qs z9 z10 z11 z12 z13 hd lg fcn z17 z18 z19 md z21 z22 z23 z24 hc z26 z27 z28 z29 z30 z31 sm z33 z34)), (z1, .inl (cI, 16, .inl (nF (va_up kd ax k9)))), (z2, .inl (cI, 16, .inl (nF lf))), (z3, .inl (cI, 16, .inl (nF rg)))] := hD
        refine lv_aload_n hx hb dX8_axiom_97 rfl (lv_at hl 1 rfl) ?_
        refine va_get (D := (dC, dI)) (ci := 8) (v := .ref z2) (C := RX8) (T := TX8) (N := 35) hx hb hts uX8 hown hK hP 0 rfl rfl 2 (by decide) (hts _ kfX8_13) (fun _ h9 => h9) rfl dX8_axiom_98 ?_
        refine lv_aload_n hx hb dX8_axiom_101 rfl (lv_at hl 1 rfl) ?_
        refine va_get (D := (dC, dI)) (ci := 8) (v := .int (nI (ax))) (C := RX8) (T := TX8) (N := 35) hx hb hts uX8 hown hK hP 0 rfl rfl 0 (by decide) (hts _ kfX8_101) (fun _ h9 => h9) rfl dX8_axiom_102 ?_
        refine lv_iload_n hx hb dX8_axiom_105 rfl (lv_at hl 3 rfl) ?_
        refine q_iastN hx hb hK hP hD hS 2 0 rfl rfl (j := ax) (x := a9) (by omega) (by omega) dX8_axiom_106 (fun H locs hP hD hS => ?_)
        have hP : va_P (dC, dI) qCl [(x0, .inr (8, mO ax z1 z2 z3 fc z5 z6 z7 qs z9 z10 z11 z12 z13 hd lg fcn z17 z18 z19 md z21 z22 z23 z24 hc z26 z27 z28 z29 z30 z31 sm z33 z34)), (z1, .inl (cI, 16, .inl (nF (va_up kd ax k9)))), (z2, .inl (cI, 16, .inl (nF (va_up lf ax a9)))), (z3, .inl (cI, 16, .inl (nF rg)))] H := hP
        have hD : va_D A [(x0, .inr (8, mO ax z1 z2 z3 fc z5 z6 z7 qs z9 z10 z11 z12 z13 hd lg fcn z17 z18 z19 md z21 z22 z23 z24 hc z26 z27 z28 z29 z30 z31 sm z33 z34)), (z1, .inl (cI, 16, .inl (nF (va_up kd ax k9)))), (z2, .inl (cI, 16, .inl (nF (va_up lf ax a9)))), (z3, .inl (cI, 16, .inl (nF rg)))] := hD
        refine lv_aload_n hx hb dX8_axiom_107 rfl (lv_at hl 1 rfl) ?_
        refine va_get (D := (dC, dI)) (ci := 8) (v := .ref z3) (C := RX8) (T := TX8) (N := 35) hx hb hts uX8 hown hK hP 0 rfl rfl 3 (by decide) (hts _ kfX8_16) (fun _ h9 => h9) rfl dX8_axiom_108 ?_
        refine lv_aload_n hx hb dX8_axiom_111 rfl (lv_at hl 1 rfl) ?_
        refine va_get (D := (dC, dI)) (ci := 8) (v := .int (nI (ax))) (C := RX8) (T := TX8) (N := 35) hx hb hts uX8 hown hK hP 0 rfl rfl 0 (by decide) (hts _ kfX8_101) (fun _ h9 => h9) rfl dX8_axiom_112 ?_
        refine lv_iload_n hx hb dX8_axiom_115 rfl (lv_at hl 4 rfl) ?_
        refine q_iastN hx hb hK hP hD hS 3 0 rfl rfl (j := ax) (x := b9) (by omega) (by omega) dX8_axiom_116 (fun H locs hP hD hS => ?_)
        have hP : va_P (dC, dI) qCl [(x0, .inr (8, mO ax z1 z2 z3 fc z5 z6 z7 qs z9 z10 z11 z12 z13 hd lg fcn z17 z18 z19 md z21 z22 z23 z24 hc z26 z27 z28 z29 z30 z31 sm z33 z34)), (z1, .inl (cI, 16, .inl (nF (va_up kd ax k9)))), (z2, .inl (cI, 16, .inl (nF (va_up lf ax a9)))), (z3, .inl (cI, 16, .inl (nF (va_up rg ax b9))))] H := hP
        have hD : va_D A [(x0, .inr (8, mO ax z1 z2 z3 fc z5 z6 z7 qs z9 z10 z11 z12 z13 hd lg fcn z17 z18 z19 md z21 z22 z23 z24 hc z26 z27 z28 z29 z30 z31 sm z33 z34)), (z1, .inl (cI, 16, .inl (nF (va_up kd ax k9)))), (z2, .inl (cI, 16, .inl (nF (va_up lf ax a9)))), (z3, .inl (cI, 16, .inl (nF (va_up rg ax b9))))] := hD
        refine lv_aload_n hx hb dX8_axiom_117 rfl (lv_at hl 1 rfl) ?_
        refine lv_dup hx hb dX8_axiom_118 rfl ?_
        refine va_get (D := (dC, dI)) (ci := 8) (v := .int (nI (ax))) (C := RX8) (T := TX8) (N := 35) hx hb hts uX8 hown hK hP 0 rfl rfl 0 (by decide) (hts _ kfX8_101) (fun _ h9 => h9) rfl dX8_axiom_119 ?_
        refine lv_iconst (v := (nI (1))) hx hb dX8_axiom_122 (by decide) ?_
        refine q_iadd (x := ax) (y := 1) hx hb dX8_axiom_123 ?_
        refine va_put (D := (dC, dI)) (ci := 8) (v := .int (nI (ax + 1))) (ty := .int) (C := RX8) (T := TX8) (N := 35) hx hb hts uX8 tyX8 tyX8_ok nmX8 hown hK hP hD hS 0 rfl rfl 0 (by decide) (hts _ kfX8_101) (fun _ h9 => h9) rfl (by decide +kernel) (rfl) (rfl) (Nat.le_of_ble_eq_true rfl) dX8_axiom_124 (fun H locs hP hD hS => ?_)
        have hP : va_P (dC, dI) qCl [(x0, .inr (8, mO (ax + 1) z1 z2 z3 fc z5 z6 z7 qs z9 z10 z11 z12 z13 hd lg fcn z17 z18 z19 md z21 z22 z23 z24 hc z26 z27 z28 z29 z30 z31 sm z33 z34)), (z1, .inl (cI, 16, .inl (nF (va_up kd ax k9)))), (z2, .inl (cI, 16, .inl (nF (va_up lf ax a9)))), (z3, .inl (cI, 16, .inl (nF (va_up rg ax b9))))] H := hP
        have hD : va_D A [(x0, .inr (8, mO (ax + 1) z1 z2 z3 fc z5 z6 z7 qs z9 z10 z11 z12 z13 hd lg fcn z17 z18 z19 md z21 z22 z23 z24 hc z26 z27 z28 z29 z30 z31 sm z33 z34)), (z1, .inl (cI, 16, .inl (nF (va_up kd ax k9)))), (z2, .inl (cI, 16, .inl (nF (va_up lf ax a9)))), (z3, .inl (cI, 16, .inl (nF (va_up rg ax b9))))] := hD
        refine lv_aload_n hx hb dX8_axiom_127 rfl (lv_at hl 1 rfl) ?_
        refine lv_iconst (v := (oI (none))) hx hb dX8_axiom_128 (by decide) ?_
        refine va_put (D := (dC, dI)) (ci := 8) (v := .int (oI (none))) (ty := .int) (C := RX8) (T := TX8) (N := 35) hx hb hts uX8 tyX8 tyX8_ok nmX8 hown hK hP hD hS 0 rfl rfl 14 (by decide) (hts _ kfX8_43) (fun _ h9 => h9) rfl (by decide +kernel) (rfl) (rfl) (Nat.le_of_ble_eq_true rfl) dX8_axiom_129 (fun H locs hP hD hS => ?_)
        have hP : va_P (dC, dI) qCl [(x0, .inr (8, mO (ax + 1) z1 z2 z3 fc z5 z6 z7 qs z9 z10 z11 z12 z13 none lg fcn z17 z18 z19 md z21 z22 z23 z24 hc z26 z27 z28 z29 z30 z31 sm z33 z34)), (z1, .inl (cI, 16, .inl (nF (va_up kd ax k9)))), (z2, .inl (cI, 16, .inl (nF (va_up lf ax a9)))), (z3, .inl (cI, 16, .inl (nF (va_up rg ax b9))))] H := hP
        have hD : va_D A [(x0, .inr (8, mO (ax + 1) z1 z2 z3 fc z5 z6 z7 qs z9 z10 z11 z12 z13 none lg fcn z17 z18 z19 md z21 z22 z23 z24 hc z26 z27 z28 z29 z30 z31 sm z33 z34)), (z1, .inl (cI, 16, .inl (nF (va_up kd ax k9)))), (z2, .inl (cI, 16, .inl (nF (va_up lf ax a9)))), (z3, .inl (cI, 16, .inl (nF (va_up rg ax b9))))] := hD
        refine lv_aload_n hx hb dX8_axiom_132 rfl (lv_at hl 1 rfl) ?_
        refine va_get (D := (dC, dI)) (ci := 8) (v := .int (nI (ax + 1))) (C := RX8) (T := TX8) (N := 35) hx hb hts uX8 hown hK hP 0 rfl rfl 0 (by decide) (hts _ kfX8_101) (fun _ h9 => h9) rfl dX8_axiom_133 ?_
        refine lv_iconst (v := (nI (1))) hx hb dX8_axiom_136 (by decide) ?_
        refine q_isub (x := ax + 1) (y := 1) hx hb (by omega) dX8_axiom_137 ?_
        refine q_top (show (nI ((ax + 1) - 1)) = (nI (ax)) from (congrArg nI (by omega))) ?_
        subst hQ
        subst hAe
        have hP9 := hP.sub (ws' := [(x0, .inr (8, mO (ax + 1) z1 z2 z3 fc z5 z6 z7 qs z9 z10 z11 z12 z13 none lg fcn z17 z18 z19 md z21 z22 z23 z24 hc z26 z27 z28 z29 z30 z31 sm z33 z34)), (z1, .inl (cI, 16, .inl (nF (va_up kd ax k9)))), (z2, .inl (cI, 16, .inl (nF (va_up lf ax a9)))), (z3, .inl (cI, 16, .inl (nF (va_up rg ax b9))))]) [0, 1, 2, 3] rfl
        exact W.iret (v := (nI (ax))) hx hb hr (fun t9 h9 _ => ⟨⟨(nI (ax)), (nI (ax), ax + 1, va_up kd ax k9, va_up lf ax a9, va_up rg ax b9, none), rfl, ⟨rfl, (show s_axm (m_axg k a b) k a b ax kd lf rg hd (nI (ax)) (ax + 1) (va_up kd ax k9) (va_up lf ax a9) (va_up rg ax b9) none from by (exact Or.inr (Or.inr ⟨hgd.symm.trans (by assumption), by assumption, k9, a9, b9, hn9, ek9, ea9, eb9, rfl, rfl, rfl, rfl, rfl, rfl⟩)))⟩, by show va_P _ _ _ t9.heap; rw [h9]; exact hP9⟩, hS.F h9⟩) hS.2.2 dX8_axiom_138
      · refine lv_bipush (v := (-2)) hx hb dX8_axiom_84 (by decide) ?_
        subst hQ
        subst hAe
        have hP9 := hP.sub (ws' := [(x0, .inr (8, mO ax z1 z2 z3 fc z5 z6 z7 qs z9 z10 z11 z12 z13 hd lg fcn z17 z18 z19 md z21 z22 z23 z24 hc z26 z27 z28 z29 z30 z31 sm z33 z34)), (z1, .inl (cI, 16, .inl (nF kd))), (z2, .inl (cI, 16, .inl (nF lf))), (z3, .inl (cI, 16, .inl (nF rg)))]) [0, 1, 2, 3] rfl
        exact W.iret (v := (-2)) hx hb hr (fun t9 h9 _ => ⟨⟨(-2), (-2, ax, kd, lf, rg, hd), rfl, ⟨rfl, (show s_axm (m_axg k a b) k a b ax kd lf rg hd (-2) ax kd lf rg hd from by (exact Or.inr (Or.inl ⟨hgd.symm.trans (by assumption), by assumption, rfl, rfl, rfl, rfl, rfl, rfl⟩)))⟩, by show va_P _ _ _ t9.heap; rw [h9]; exact hP9⟩, hS.F h9⟩) hS.2.2 dX8_axiom_86
    · refine lv_iconst (v := (oI (none))) hx hb dX8_axiom_73 (by decide) ?_
      subst hQ
      subst hAe
      have hP9 := hP.sub (ws' := [(x0, .inr (8, mO ax z1 z2 z3 fc z5 z6 z7 qs z9 z10 z11 z12 z13 hd lg fcn z17 z18 z19 md z21 z22 z23 z24 hc z26 z27 z28 z29 z30 z31 sm z33 z34)), (z1, .inl (cI, 16, .inl (nF kd))), (z2, .inl (cI, 16, .inl (nF lf))), (z3, .inl (cI, 16, .inl (nF rg)))]) [0, 1, 2, 3] rfl
      exact W.iret (v := (oI (none))) hx hb hr (fun t9 h9 _ => ⟨⟨(oI (none)), (oI (none), ax, kd, lf, rg, hd), rfl, ⟨rfl, (show s_axm (m_axg k a b) k a b ax kd lf rg hd (oI (none)) ax kd lf rg hd from by (exact Or.inl ⟨hgd.symm.trans (by assumption), rfl, rfl, rfl, rfl, rfl, rfl⟩))⟩, by show va_P _ _ _ t9.heap; rw [h9]; exact hP9⟩, hS.F h9⟩) hS.2.2 dX8_axiom_74
  refine lv_iload_n hx hb dX8_axiom_0 rfl (lv_at hl 1 rfl) ?_
  refine lv_if_eq (tgt := 9) hx hb dX8_axiom_1 (by decide) (fun c1_3 => ?_) (fun c1_3 => ?_)
  · refine lv_iload_n hx hb dX8_axiom_9 rfl (lv_at hl 2 rfl) ?_
    refine vp_callSi (va_Run.run (va_runS (As := [.int (a)]) (rest := []) ⟨hx, hb, hml, hown, hts⟩ (c_Model_isSort l dC dI cI cL cQ cZ a ) (q_cwS 1 hts gkX8_isSort kmX8_97 ksX8_isSort kiX8 rfl rfl rfl (by decide +kernel) ⟨Nat.le_of_ble_eq_true rfl, Nat.le_of_ble_eq_true rfl⟩) (q_preS hK hP [] rfl) rfl rfl hl.1 rfl (lv_room (Nat.le_of_ble_eq_true rfl)) dX8_axiom_10 ⟨Nat.zero_le _, Nat.zero_le _⟩)) (fun r4 hr4 => ?_)
    subst hr4
    refine q_ifb_eq (b := m_sort a) (tgt := 27) hx hb dX8_axiom_13 (by decide) (fun c13_5 => ?_) (fun c13_5 => ?_)
    · refine lv_iconst (v := (nI (0))) hx hb dX8_axiom_27 (by decide) ?_
      refine lv_goto (tgt := 66) hx hb dX8_axiom_28 (by decide) ?_
      exact L66 false ls _ _ (show false = m_axg k a b from by (unfold m_axg; split <;> (try split) <;> simp_all)) (lv_sub hl [0, 1, 2, 3] rfl) (hP.sub [0, 1, 2, 3] rfl) (hD.sub [0, 1, 2, 3] (by decide) rfl) hS
    · refine lv_iload_n hx hb dX8_axiom_16 rfl (lv_at hl 3 rfl) ?_
      refine vp_callSi (va_Run.run (va_runS (As := [.int (b)]) (rest := []) ⟨hx, hb, hml, hown, hts⟩ (c_Model_isSort l dC dI cI cL cQ cZ b ) (q_cwS 1 hts gkX8_isSort kmX8_97 ksX8_isSort kiX8 rfl rfl rfl (by decide +kernel) ⟨Nat.le_of_ble_eq_true rfl, Nat.le_of_ble_eq_true rfl⟩) (q_preS hK hP [] rfl) rfl rfl hl.1 rfl (lv_room (Nat.le_of_ble_eq_true rfl)) dX8_axiom_17 ⟨Nat.zero_le _, Nat.zero_le _⟩)) (fun r6 hr6 => ?_)
      subst hr6
      refine q_ifb_eq (b := m_sort b) (tgt := 27) hx hb dX8_axiom_20 (by decide) (fun c20_7 => ?_) (fun c20_7 => ?_)
      · refine lv_iconst (v := (nI (0))) hx hb dX8_axiom_27 (by decide) ?_
        refine lv_goto (tgt := 66) hx hb dX8_axiom_28 (by decide) ?_
        exact L66 false ls _ _ (show false = m_axg k a b from by (unfold m_axg; split <;> (try split) <;> simp_all)) (lv_sub hl [0, 1, 2, 3] rfl) (hP.sub [0, 1, 2, 3] rfl) (hD.sub [0, 1, 2, 3] (by decide) rfl) hS
      · refine lv_iconst (v := (nI (1))) hx hb dX8_axiom_23 (by decide) ?_
        refine lv_goto (tgt := 66) hx hb dX8_axiom_24 (by decide) ?_
        exact L66 true ls _ _ (show true = m_axg k a b from by (unfold m_axg; split <;> (try split) <;> simp_all)) (lv_sub hl [0, 1, 2, 3] rfl) (hP.sub [0, 1, 2, 3] rfl) (hD.sub [0, 1, 2, 3] (by decide) rfl) hS
  · refine lv_iload_n hx hb dX8_axiom_4 rfl (lv_at hl 1 rfl) ?_
    refine lv_iconst (v := (nI (2))) hx hb dX8_axiom_5 (by decide) ?_
    refine lv_icmp_ne (tgt := 31) hx hb dX8_axiom_6 (by decide) (fun c6_8 => ?_) (fun c6_8 => ?_)
    · refine lv_iload_n hx hb dX8_axiom_31 rfl (lv_at hl 1 rfl) ?_
      refine lv_iconst (v := (nI (1))) hx hb dX8_axiom_32 (by decide) ?_
      refine lv_icmp_eq (tgt := 41) hx hb dX8_axiom_33 (by decide) (fun c33_9 => ?_) (fun c33_9 => ?_)
      · refine lv_iload_n hx hb dX8_axiom_41 rfl (lv_at hl 2 rfl) ?_
        refine lv_iconst (v := (nI (0))) hx hb dX8_axiom_42 (by decide) ?_
        refine lv_bipush (v := (nI (15))) hx hb dX8_axiom_43 (by decide) ?_
        refine vp_callSi (va_Run.run (va_runS (As := [.int (a), .int (nI (0)), .int (nI (15))]) (rest := []) ⟨hx, hb, hml, hown, hts⟩ (c_Model_isIn l dC dI cI cL cQ cZ a (nI (0)) (nI (15)) ) (q_cwS 3 hts gkX8_isIn kmX8_93 ksX8_isIn kiX8 rfl rfl rfl (by decide +kernel) ⟨Nat.le_of_ble_eq_true rfl, Nat.le_of_ble_eq_true rfl⟩) (q_preS hK hP [] rfl) rfl rfl hl.1 rfl (lv_room (Nat.le_of_ble_eq_true rfl)) dX8_axiom_45 ⟨Nat.zero_le _, Nat.zero_le _⟩)) (fun r10 hr10 => ?_)
        subst hr10
        refine q_ifb_eq (b := m_in a (nI (0)) (nI (15))) (tgt := 65) hx hb dX8_axiom_48 (by decide) (fun c48_11 => ?_) (fun c48_11 => ?_)
        · refine lv_iconst (v := (nI (0))) hx hb dX8_axiom_65 (by decide) ?_
          exact L66 false ls _ _ (show false = m_axg k a b from by (unfold m_axg; split <;> (try split) <;> simp_all)) (lv_sub hl [0, 1, 2, 3] rfl) (hP.sub [0, 1, 2, 3] rfl) (hD.sub [0, 1, 2, 3] (by decide) rfl) hS
        · refine lv_iload_n hx hb dX8_axiom_51 rfl (lv_at hl 3 rfl) ?_
          refine lv_iconst (v := (nI (0))) hx hb dX8_axiom_52 (by decide) ?_
          refine lv_bipush (v := (nI (15))) hx hb dX8_axiom_53 (by decide) ?_
          refine vp_callSi (va_Run.run (va_runS (As := [.int (b), .int (nI (0)), .int (nI (15))]) (rest := []) ⟨hx, hb, hml, hown, hts⟩ (c_Model_isIn l dC dI cI cL cQ cZ b (nI (0)) (nI (15)) ) (q_cwS 3 hts gkX8_isIn kmX8_93 ksX8_isIn kiX8 rfl rfl rfl (by decide +kernel) ⟨Nat.le_of_ble_eq_true rfl, Nat.le_of_ble_eq_true rfl⟩) (q_preS hK hP [] rfl) rfl rfl hl.1 rfl (lv_room (Nat.le_of_ble_eq_true rfl)) dX8_axiom_55 ⟨Nat.zero_le _, Nat.zero_le _⟩)) (fun r12 hr12 => ?_)
          subst hr12
          refine q_ifb_eq (b := m_in b (nI (0)) (nI (15))) (tgt := 65) hx hb dX8_axiom_58 (by decide) (fun c58_13 => ?_) (fun c58_13 => ?_)
          · refine lv_iconst (v := (nI (0))) hx hb dX8_axiom_65 (by decide) ?_
            exact L66 false ls _ _ (show false = m_axg k a b from by (unfold m_axg; split <;> (try split) <;> simp_all)) (lv_sub hl [0, 1, 2, 3] rfl) (hP.sub [0, 1, 2, 3] rfl) (hD.sub [0, 1, 2, 3] (by decide) rfl) hS
          · refine lv_iconst (v := (nI (1))) hx hb dX8_axiom_61 (by decide) ?_
            refine lv_goto (tgt := 66) hx hb dX8_axiom_62 (by decide) ?_
            exact L66 true ls _ _ (show true = m_axg k a b from by (unfold m_axg; split <;> (try split) <;> simp_all)) (lv_sub hl [0, 1, 2, 3] rfl) (hP.sub [0, 1, 2, 3] rfl) (hD.sub [0, 1, 2, 3] (by decide) rfl) hS
      · refine lv_iload_n hx hb dX8_axiom_36 rfl (lv_at hl 1 rfl) ?_
        refine lv_iconst (v := (nI (3))) hx hb dX8_axiom_37 (by decide) ?_
        refine lv_icmp_ne (tgt := 65) hx hb dX8_axiom_38 (by decide) (fun c38_14 => ?_) (fun c38_14 => ?_)
        · refine lv_iconst (v := (nI (0))) hx hb dX8_axiom_65 (by decide) ?_
          exact L66 false ls _ _ (show false = m_axg k a b from by (unfold m_axg; split <;> (try split) <;> simp_all)) (lv_sub hl [0, 1, 2, 3] rfl) (hP.sub [0, 1, 2, 3] rfl) (hD.sub [0, 1, 2, 3] (by decide) rfl) hS
        · refine lv_iload_n hx hb dX8_axiom_41 rfl (lv_at hl 2 rfl) ?_
          refine lv_iconst (v := (nI (0))) hx hb dX8_axiom_42 (by decide) ?_
          refine lv_bipush (v := (nI (15))) hx hb dX8_axiom_43 (by decide) ?_
          refine vp_callSi (va_Run.run (va_runS (As := [.int (a), .int (nI (0)), .int (nI (15))]) (rest := []) ⟨hx, hb, hml, hown, hts⟩ (c_Model_isIn l dC dI cI cL cQ cZ a (nI (0)) (nI (15)) ) (q_cwS 3 hts gkX8_isIn kmX8_93 ksX8_isIn kiX8 rfl rfl rfl (by decide +kernel) ⟨Nat.le_of_ble_eq_true rfl, Nat.le_of_ble_eq_true rfl⟩) (q_preS hK hP [] rfl) rfl rfl hl.1 rfl (lv_room (Nat.le_of_ble_eq_true rfl)) dX8_axiom_45 ⟨Nat.zero_le _, Nat.zero_le _⟩)) (fun r15 hr15 => ?_)
          subst hr15
          refine q_ifb_eq (b := m_in a (nI (0)) (nI (15))) (tgt := 65) hx hb dX8_axiom_48 (by decide) (fun c48_16 => ?_) (fun c48_16 => ?_)
          · refine lv_iconst (v := (nI (0))) hx hb dX8_axiom_65 (by decide) ?_
            exact L66 false ls _ _ (show false = m_axg k a b from by (unfold m_axg; split <;> (try split) <;> simp_all)) (lv_sub hl [0, 1, 2, 3] rfl) (hP.sub [0, 1, 2, 3] rfl) (hD.sub [0, 1, 2, 3] (by decide) rfl) hS
          · refine lv_iload_n hx hb dX8_axiom_51 rfl (lv_at hl 3 rfl) ?_
            refine lv_iconst (v := (nI (0))) hx hb dX8_axiom_52 (by decide) ?_
            refine lv_bipush (v := (nI (15))) hx hb dX8_axiom_53 (by decide) ?_
            refine vp_callSi (va_Run.run (va_runS (As := [.int (b), .int (nI (0)), .int (nI (15))]) (rest := []) ⟨hx, hb, hml, hown, hts⟩ (c_Model_isIn l dC dI cI cL cQ cZ b (nI (0)) (nI (15)) ) (q_cwS 3 hts gkX8_isIn kmX8_93 ksX8_isIn kiX8 rfl rfl rfl (by decide +kernel) ⟨Nat.le_of_ble_eq_true rfl, Nat.le_of_ble_eq_true rfl⟩) (q_preS hK hP [] rfl) rfl rfl hl.1 rfl (lv_room (Nat.le_of_ble_eq_true rfl)) dX8_axiom_55 ⟨Nat.zero_le _, Nat.zero_le _⟩)) (fun r17 hr17 => ?_)
            subst hr17
            refine q_ifb_eq (b := m_in b (nI (0)) (nI (15))) (tgt := 65) hx hb dX8_axiom_58 (by decide) (fun c58_18 => ?_) (fun c58_18 => ?_)
            · refine lv_iconst (v := (nI (0))) hx hb dX8_axiom_65 (by decide) ?_
              exact L66 false ls _ _ (show false = m_axg k a b from by (unfold m_axg; split <;> (try split) <;> simp_all)) (lv_sub hl [0, 1, 2, 3] rfl) (hP.sub [0, 1, 2, 3] rfl) (hD.sub [0, 1, 2, 3] (by decide) rfl) hS
            · refine lv_iconst (v := (nI (1))) hx hb dX8_axiom_61 (by decide) ?_
              refine lv_goto (tgt := 66) hx hb dX8_axiom_62 (by decide) ?_
              exact L66 true ls _ _ (show true = m_axg k a b from by (unfold m_axg; split <;> (try split) <;> simp_all)) (lv_sub hl [0, 1, 2, 3] rfl) (hP.sub [0, 1, 2, 3] rfl) (hD.sub [0, 1, 2, 3] (by decide) rfl) hS
    · refine lv_iload_n hx hb dX8_axiom_9 rfl (lv_at hl 2 rfl) ?_
      refine vp_callSi (va_Run.run (va_runS (As := [.int (a)]) (rest := []) ⟨hx, hb, hml, hown, hts⟩ (c_Model_isSort l dC dI cI cL cQ cZ a ) (q_cwS 1 hts gkX8_isSort kmX8_97 ksX8_isSort kiX8 rfl rfl rfl (by decide +kernel) ⟨Nat.le_of_ble_eq_true rfl, Nat.le_of_ble_eq_true rfl⟩) (q_preS hK hP [] rfl) rfl rfl hl.1 rfl (lv_room (Nat.le_of_ble_eq_true rfl)) dX8_axiom_10 ⟨Nat.zero_le _, Nat.zero_le _⟩)) (fun r19 hr19 => ?_)
      subst hr19
      refine q_ifb_eq (b := m_sort a) (tgt := 27) hx hb dX8_axiom_13 (by decide) (fun c13_20 => ?_) (fun c13_20 => ?_)
      · refine lv_iconst (v := (nI (0))) hx hb dX8_axiom_27 (by decide) ?_
        refine lv_goto (tgt := 66) hx hb dX8_axiom_28 (by decide) ?_
        exact L66 false ls _ _ (show false = m_axg k a b from by (unfold m_axg; split <;> (try split) <;> simp_all)) (lv_sub hl [0, 1, 2, 3] rfl) (hP.sub [0, 1, 2, 3] rfl) (hD.sub [0, 1, 2, 3] (by decide) rfl) hS
      · refine lv_iload_n hx hb dX8_axiom_16 rfl (lv_at hl 3 rfl) ?_
        refine vp_callSi (va_Run.run (va_runS (As := [.int (b)]) (rest := []) ⟨hx, hb, hml, hown, hts⟩ (c_Model_isSort l dC dI cI cL cQ cZ b ) (q_cwS 1 hts gkX8_isSort kmX8_97 ksX8_isSort kiX8 rfl rfl rfl (by decide +kernel) ⟨Nat.le_of_ble_eq_true rfl, Nat.le_of_ble_eq_true rfl⟩) (q_preS hK hP [] rfl) rfl rfl hl.1 rfl (lv_room (Nat.le_of_ble_eq_true rfl)) dX8_axiom_17 ⟨Nat.zero_le _, Nat.zero_le _⟩)) (fun r21 hr21 => ?_)
        subst hr21
        refine q_ifb_eq (b := m_sort b) (tgt := 27) hx hb dX8_axiom_20 (by decide) (fun c20_22 => ?_) (fun c20_22 => ?_)
        · refine lv_iconst (v := (nI (0))) hx hb dX8_axiom_27 (by decide) ?_
          refine lv_goto (tgt := 66) hx hb dX8_axiom_28 (by decide) ?_
          exact L66 false ls _ _ (show false = m_axg k a b from by (unfold m_axg; split <;> (try split) <;> simp_all)) (lv_sub hl [0, 1, 2, 3] rfl) (hP.sub [0, 1, 2, 3] rfl) (hD.sub [0, 1, 2, 3] (by decide) rfl) hS
        · refine lv_iconst (v := (nI (1))) hx hb dX8_axiom_23 (by decide) ?_
          refine lv_goto (tgt := 66) hx hb dX8_axiom_24 (by decide) ?_
          exact L66 true ls _ _ (show true = m_axg k a b from by (unfold m_axg; split <;> (try split) <;> simp_all)) (lv_sub hl [0, 1, 2, 3] rfl) (hP.sub [0, 1, 2, 3] rfl) (hD.sub [0, 1, 2, 3] (by decide) rfl) hS
