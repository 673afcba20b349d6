def m_atg (qs : Nat) (q : Int32) (ro : Bool) (x a b : Int32) : Bool := m_in q (nI 0) (nI qs - nI 1) && m_in a (nI 0) (nI 7) && (if ro = true then m_in x (nI 0) (nI 7) && m_in b (nI 0) (nI 7) else m_in x (nI 0) (nI 9))
def m_atx (ro : Bool) (x b : Int32) (X Y : Nat) : Prop := (ro = true ∧ ∃ x' b' : Nat, x' < 8 ∧ b' < 8 ∧ x = nI x' ∧ b = nI b' ∧ X = 32 + x' ∧ Y = b') ∨ (ro = false ∧ ∃ x' : Nat, x' < 10 ∧ x = nI x' ∧ X = x' ∧ Y = 7)
theorem m_atg_q {qs : Nat} {q : Int32} {ro : Bool} {x a b : Int32} (hq : qs ≤ 6) (h : m_atg qs q ro x a b = true) : ∃ q' a' : Nat, q' < qs ∧ a' < 8 ∧ q = nI q' ∧ a = nI a' := by
  unfold m_atg at h
  rw [Bool.and_eq_true, Bool.and_eq_true] at h
  obtain ⟨a', h1, e1⟩ := m_in_t (by decide) h.1.2
  have h2 := h.1.1
  by_cases h0 : qs = 0
  · subst h0
    have h3 := of_decide_eq_true h2
    have h4 : nI 0 - nI 1 < q := by
      rw [Int32.lt_iff_toInt_lt]
      have h5 : (0 : Int) ≤ q.toInt := by
        have := Int32.not_lt.mp h3.1
        rw [Int32.le_iff_toInt_le, nI_toInt (by decide)] at this
        exact this
      have : (nI 0 - nI 1).toInt = -1 := by decide
      omega
    exact absurd h4 h3.2
  · rw [pk_sub (by omega)] at h2
    obtain ⟨q', h3, e3⟩ := m_in_t (by omega) h2
    exact ⟨q', a', by omega, by omega, e3, e1⟩
theorem m_atg_r {qs : Nat} {q : Int32} {ro : Bool} {x a b : Int32} (h : m_atg qs q ro x a b = true) (hr : ro = true) : ∃ x' b' : Nat, x' < 8 ∧ b' < 8 ∧ x = nI x' ∧ b = nI b' := by
  unfold m_atg at h
  rw [if_pos hr, Bool.and_eq_true, Bool.and_eq_true] at h
  have h := h.2
  rw [Bool.and_eq_true] at h
  obtain ⟨x', h1, e1⟩ := m_in_t (by decide) h.1
  obtain ⟨b', h2, e2⟩ := m_in_t (by decide) h.2
  exact ⟨x', b', by omega, by omega, e1, e2⟩
theorem m_atg_c {qs : Nat} {q : Int32} {ro : Bool} {x a b : Int32} (h : m_atg qs q ro x a b = true) (hr : ro = false) : ∃ x' : Nat, x' < 10 ∧ x = nI x' := by
  unfold m_atg at h
  rw [if_neg (by rw [hr]; decide), Bool.and_eq_true] at h
  obtain ⟨x', h1, e1⟩ := m_in_t (by decide) h.2
  exact ⟨x', by omega, e1⟩
def m_is3 (qx qy qz : Nat → Nat) (X A Y j : Nat) : Prop := qx j = X ∧ qy j = A ∧ qz j = Y
def m_no3 (qx qy qz : Nat → Nat) (X A Y lo hi : Nat) : Prop := ∀ j, lo ≤ j → j < hi → ¬ m_is3 qx qy qz X A Y j
theorem m_no3_s {qx qy qz : Nat → Nat} {X A Y lo hi : Nat} (h : m_no3 qx qy qz X A Y lo hi) (h2 : ¬ m_is3 qx qy qz X A Y hi) : m_no3 qx qy qz X A Y lo (hi + 1) := by
  intro j h3 h4
  by_cases hj : j = hi
  · rw [hj]; exact h2
  · exact h j h3 (by omega)
def s_atm (qs : Nat) (q : Int32) (ro : Bool) (x a b : Int32) (qn qx qy qz : Nat → Nat) (hd : Option Nat) (r : Int32) (qn1 qx1 qy1 qz1 : Nat → Nat) (hd1 : Option Nat) : Prop :=
  (m_atg qs q ro x a b = false ∧ r = -1 ∧ qn1 = qn ∧ qx1 = qx ∧ qy1 = qy ∧ qz1 = qz ∧ hd1 = hd) ∨
  (m_atg qs q ro x a b = true ∧ ∃ q' A X Y : Nat, q' < qs ∧ q = nI q' ∧ A < 8 ∧ a = nI A ∧ m_atx ro x b X Y ∧
    ((¬ m_no3 qx qy qz X A Y (4 * q') (4 * q' + qn q') ∧ r = nI (qn q') ∧ qn1 = qn ∧ qx1 = qx ∧ qy1 = qy ∧ qz1 = qz ∧ hd1 = hd) ∨
     (m_no3 qx qy qz X A Y (4 * q') (4 * q' + qn q') ∧ qn q' = 4 ∧ r = -2 ∧ qn1 = qn ∧ qx1 = qx ∧ qy1 = qy ∧ qz1 = qz ∧ hd1 = hd) ∨
     (m_no3 qx qy qz X A Y (4 * q') (4 * q' + qn q') ∧ qn q' ≠ 4 ∧ r = nI (qn q' + 1) ∧ qn1 = va_up qn q' (qn q' + 1) ∧ qx1 = va_up qx (4 * q' + qn q') X ∧ qy1 = va_up qy (4 * q' + qn q') A ∧ qz1 = va_up qz (4 * q' + qn q') Y ∧ hd1 = none)))
abbrev cX8_atom : ByteArray := prog_10_method_11_code
def yX8_atom : MethodName := ⟨RX8, "atom", "(IZIII)I"⟩
def wkX8_atom : List Cond := .code yX8_atom cX8_atom 10 (some .int) :: qW
set_option maxRecDepth 40000 in
theorem gkX8_atom : GoodIn qW wkX8_atom := q_good (qw 709 rfl rfl)
set_option maxRecDepth 40000 in
theorem knX8_atom : Cond.instanceMethod yX8_atom ∈ qW := qw 707 rfl rfl
set_option maxRecDepth 40000 in
theorem klX8_atom : Cond.selects RX8 yX8_atom yX8_atom ∈ qW := qw 708 rfl rfl
theorem dX8_atom_0 : decode cX8_atom 0 = .ok (.iload_n 1, 1) := by decide +kernel
theorem dX8_atom_1 : decode cX8_atom 1 = .ok (.iconst 0, 1) := by decide +kernel
theorem dX8_atom_2 : decode cX8_atom 2 = .ok (.aload_n 0, 1) := by decide +kernel
theorem dX8_atom_3 : decode cX8_atom 3 = .ok (.getfield 115, 3) := by decide +kernel
theorem dX8_atom_6 : decode cX8_atom 6 = .ok (.iconst 1, 1) := by decide +kernel
theorem dX8_atom_7 : decode cX8_atom 7 = .ok (.isub, 1) := by decide +kernel
theorem dX8_atom_8 : decode cX8_atom 8 = .ok (.invokestatic 93, 3) := by decide +kernel
theorem dX8_atom_11 : decode cX8_atom 11 = .ok (.ifCond .eq 56, 3) := by decide +kernel
theorem dX8_atom_14 : decode cX8_atom 14 = .ok (.iload 4, 2) := by decide +kernel
theorem dX8_atom_16 : decode cX8_atom 16 = .ok (.iconst 0, 1) := by decide +kernel
theorem dX8_atom_17 : decode cX8_atom 17 = .ok (.bipush 7, 2) := by decide +kernel
theorem dX8_atom_19 : decode cX8_atom 19 = .ok (.invokestatic 93, 3) := by decide +kernel
theorem dX8_atom_22 : decode cX8_atom 22 = .ok (.ifCond .eq 45, 3) := by decide +kernel
theorem dX8_atom_25 : decode cX8_atom 25 = .ok (.iload_n 2, 1) := by decide +kernel
theorem dX8_atom_26 : decode cX8_atom 26 = .ok (.ifCond .eq 27, 3) := by decide +kernel
theorem dX8_atom_29 : decode cX8_atom 29 = .ok (.iload_n 3, 1) := by decide +kernel
theorem dX8_atom_30 : decode cX8_atom 30 = .ok (.iconst 0, 1) := by decide +kernel
theorem dX8_atom_31 : decode cX8_atom 31 = .ok (.bipush 7, 2) := by decide +kernel
theorem dX8_atom_33 : decode cX8_atom 33 = .ok (.invokestatic 93, 3) := by decide +kernel
theorem dX8_atom_36 : decode cX8_atom 36 = .ok (.ifCond .eq 31, 3) := by decide +kernel
theorem dX8_atom_39 : decode cX8_atom 39 = .ok (.iload 5, 2) := by decide +kernel
theorem dX8_atom_41 : decode cX8_atom 41 = .ok (.iconst 0, 1) := by decide +kernel
theorem dX8_atom_42 : decode cX8_atom 42 = .ok (.bipush 7, 2) := by decide +kernel
theorem dX8_atom_44 : decode cX8_atom 44 = .ok (.invokestatic 93, 3) := by decide +kernel
theorem dX8_atom_47 : decode cX8_atom 47 = .ok (.ifCond .eq 20, 3) := by decide +kernel
theorem dX8_atom_50 : decode cX8_atom 50 = .ok (.goto 13, 3) := by decide +kernel
theorem dX8_atom_53 : decode cX8_atom 53 = .ok (.iload_n 3, 1) := by decide +kernel
theorem dX8_atom_54 : decode cX8_atom 54 = .ok (.iconst 0, 1) := by decide +kernel
theorem dX8_atom_55 : decode cX8_atom 55 = .ok (.bipush 9, 2) := by decide +kernel
theorem dX8_atom_57 : decode cX8_atom 57 = .ok (.invokestatic 93, 3) := by decide +kernel
theorem dX8_atom_60 : decode cX8_atom 60 = .ok (.ifCond .eq 7, 3) := by decide +kernel
theorem dX8_atom_63 : decode cX8_atom 63 = .ok (.iconst 1, 1) := by decide +kernel
theorem dX8_atom_64 : decode cX8_atom 64 = .ok (.goto 4, 3) := by decide +kernel
theorem dX8_atom_67 : decode cX8_atom 67 = .ok (.iconst 0, 1) := by decide +kernel
theorem dX8_atom_68 : decode cX8_atom 68 = .ok (.istore 6, 2) := by decide +kernel
theorem dX8_atom_70 : decode cX8_atom 70 = .ok (.iload 6, 2) := by decide +kernel
theorem dX8_atom_72 : decode cX8_atom 72 = .ok (.ifCond .ne 5, 3) := by decide +kernel
theorem dX8_atom_75 : decode cX8_atom 75 = .ok (.iconst (-1), 1) := by decide +kernel
theorem dX8_atom_76 : decode cX8_atom 76 = .ok (.ireturn, 1) := by decide +kernel
theorem dX8_atom_77 : decode cX8_atom 77 = .ok (.iload_n 2, 1) := by decide +kernel
theorem dX8_atom_78 : decode cX8_atom 78 = .ok (.ifCond .eq 10, 3) := by decide +kernel
theorem dX8_atom_81 : decode cX8_atom 81 = .ok (.bipush 32, 2) := by decide +kernel
theorem dX8_atom_83 : decode cX8_atom 83 = .ok (.iload_n 3, 1) := by decide +kernel
theorem dX8_atom_84 : decode cX8_atom 84 = .ok (.iadd, 1) := by decide +kernel
theorem dX8_atom_85 : decode cX8_atom 85 = .ok (.goto 4, 3) := by decide +kernel
theorem dX8_atom_88 : decode cX8_atom 88 = .ok (.iload_n 3, 1) := by decide +kernel
theorem dX8_atom_89 : decode cX8_atom 89 = .ok (.istore 7, 2) := by decide +kernel
theorem dX8_atom_91 : decode cX8_atom 91 = .ok (.iload_n 2, 1) := by decide +kernel
theorem dX8_atom_92 : decode cX8_atom 92 = .ok (.ifCond .eq 8, 3) := by decide +kernel
theorem dX8_atom_95 : decode cX8_atom 95 = .ok (.iload 5, 2) := by decide +kernel
theorem dX8_atom_97 : decode cX8_atom 97 = .ok (.goto 5, 3) := by decide +kernel
theorem dX8_atom_100 : decode cX8_atom 100 = .ok (.bipush 7, 2) := by decide +kernel
theorem dX8_atom_102 : decode cX8_atom 102 = .ok (.istore 8, 2) := by decide +kernel
theorem dX8_atom_104 : decode cX8_atom 104 = .ok (.iconst 4, 1) := by decide +kernel
theorem dX8_atom_105 : decode cX8_atom 105 = .ok (.iload_n 1, 1) := by decide +kernel
theorem dX8_atom_106 : decode cX8_atom 106 = .ok (.imul, 1) := by decide +kernel
theorem dX8_atom_107 : decode cX8_atom 107 = .ok (.istore 9, 2) := by decide +kernel
theorem dX8_atom_109 : decode cX8_atom 109 = .ok (.iload 9, 2) := by decide +kernel
theorem dX8_atom_111 : decode cX8_atom 111 = .ok (.iconst 4, 1) := by decide +kernel
theorem dX8_atom_112 : decode cX8_atom 112 = .ok (.iload_n 1, 1) := by decide +kernel
theorem dX8_atom_113 : decode cX8_atom 113 = .ok (.imul, 1) := by decide +kernel
theorem dX8_atom_114 : decode cX8_atom 114 = .ok (.aload_n 0, 1) := by decide +kernel
theorem dX8_atom_115 : decode cX8_atom 115 = .ok (.getfield 31, 3) := by decide +kernel
theorem dX8_atom_118 : decode cX8_atom 118 = .ok (.iload_n 1, 1) := by decide +kernel
theorem dX8_atom_119 : decode cX8_atom 119 = .ok (.iaload, 1) := by decide +kernel
theorem dX8_atom_120 : decode cX8_atom 120 = .ok (.iadd, 1) := by decide +kernel
theorem dX8_atom_121 : decode cX8_atom 121 = .ok (.if_icmp .ge 52, 3) := by decide +kernel
theorem dX8_atom_124 : decode cX8_atom 124 = .ok (.aload_n 0, 1) := by decide +kernel
theorem dX8_atom_125 : decode cX8_atom 125 = .ok (.getfield 34, 3) := by decide +kernel
theorem dX8_atom_128 : decode cX8_atom 128 = .ok (.iload 9, 2) := by decide +kernel
theorem dX8_atom_130 : decode cX8_atom 130 = .ok (.iaload, 1) := by decide +kernel
theorem dX8_atom_131 : decode cX8_atom 131 = .ok (.iload 7, 2) := by decide +kernel
theorem dX8_atom_133 : decode cX8_atom 133 = .ok (.if_icmp .ne 34, 3) := by decide +kernel
theorem dX8_atom_136 : decode cX8_atom 136 = .ok (.aload_n 0, 1) := by decide +kernel
theorem dX8_atom_137 : decode cX8_atom 137 = .ok (.getfield 37, 3) := by decide +kernel
theorem dX8_atom_140 : decode cX8_atom 140 = .ok (.iload 9, 2) := by decide +kernel
theorem dX8_atom_142 : decode cX8_atom 142 = .ok (.iaload, 1) := by decide +kernel
theorem dX8_atom_143 : decode cX8_atom 143 = .ok (.iload 4, 2) := by decide +kernel
theorem dX8_atom_145 : decode cX8_atom 145 = .ok (.if_icmp .ne 22, 3) := by decide +kernel
theorem dX8_atom_148 : decode cX8_atom 148 = .ok (.aload_n 0, 1) := by decide +kernel
theorem dX8_atom_149 : decode cX8_atom 149 = .ok (.getfield 40, 3) := by decide +kernel
theorem dX8_atom_152 : decode cX8_atom 152 = .ok (.iload 9, 2) := by decide +kernel
theorem dX8_atom_154 : decode cX8_atom 154 = .ok (.iaload, 1) := by decide +kernel
theorem dX8_atom_155 : decode cX8_atom 155 = .ok (.iload 8, 2) := by decide +kernel
theorem dX8_atom_157 : decode cX8_atom 157 = .ok (.if_icmp .ne 10, 3) := by decide +kernel
theorem dX8_atom_160 : decode cX8_atom 160 = .ok (.aload_n 0, 1) := by decide +kernel
theorem dX8_atom_161 : decode cX8_atom 161 = .ok (.getfield 31, 3) := by decide +kernel
theorem dX8_atom_164 : decode cX8_atom 164 = .ok (.iload_n 1, 1) := by decide +kernel
theorem dX8_atom_165 : decode cX8_atom 165 = .ok (.iaload, 1) := by decide +kernel
theorem dX8_atom_166 : decode cX8_atom 166 = .ok (.ireturn, 1) := by decide +kernel
theorem dX8_atom_167 : decode cX8_atom 167 = .ok (.iinc 9 1, 3) := by decide +kernel
theorem dX8_atom_170 : decode cX8_atom 170 = .ok (.goto (-61), 3) := by decide +kernel
theorem dX8_atom_173 : decode cX8_atom 173 = .ok (.aload_n 0, 1) := by decide +kernel
theorem dX8_atom_174 : decode cX8_atom 174 = .ok (.getfield 31, 3) := by decide +kernel
theorem dX8_atom_177 : decode cX8_atom 177 = .ok (.iload_n 1, 1) := by decide +kernel
theorem dX8_atom_178 : decode cX8_atom 178 = .ok (.iaload, 1) := by decide +kernel
theorem dX8_atom_179 : decode cX8_atom 179 = .ok (.iconst 4, 1) := by decide +kernel
theorem dX8_atom_180 : decode cX8_atom 180 = .ok (.if_icmp .ne 6, 3) := by decide +kernel
theorem dX8_atom_183 : decode cX8_atom 183 = .ok (.bipush (-2), 2) := by decide +kernel
theorem dX8_atom_185 : decode cX8_atom 185 = .ok (.ireturn, 1) := by decide +kernel
theorem dX8_atom_186 : decode cX8_atom 186 = .ok (.iconst 4, 1) := by decide +kernel
theorem dX8_atom_187 : decode cX8_atom 187 = .ok (.iload_n 1, 1) := by decide +kernel
theorem dX8_atom_188 : decode cX8_atom 188 = .ok (.imul, 1) := by decide +kernel
theorem dX8_atom_189 : decode cX8_atom 189 = .ok (.aload_n 0, 1) := by decide +kernel
theorem dX8_atom_190 : decode cX8_atom 190 = .ok (.getfield 31, 3) := by decide +kernel
theorem dX8_atom_193 : decode cX8_atom 193 = .ok (.iload_n 1, 1) := by decide +kernel
theorem dX8_atom_194 : decode cX8_atom 194 = .ok (.iaload, 1) := by decide +kernel
theorem dX8_atom_195 : decode cX8_atom 195 = .ok (.iadd, 1) := by decide +kernel
theorem dX8_atom_196 : decode cX8_atom 196 = .ok (.istore 9, 2) := by decide +kernel
theorem dX8_atom_198 : decode cX8_atom 198 = .ok (.aload_n 0, 1) := by decide +kernel
theorem dX8_atom_199 : decode cX8_atom 199 = .ok (.getfield 34, 3) := by decide +kernel
theorem dX8_atom_202 : decode cX8_atom 202 = .ok (.iload 9, 2) := by decide +kernel
theorem dX8_atom_204 : decode cX8_atom 204 = .ok (.iload 7, 2) := by decide +kernel
theorem dX8_atom_206 : decode cX8_atom 206 = .ok (.iastore, 1) := by decide +kernel
theorem dX8_atom_207 : decode cX8_atom 207 = .ok (.aload_n 0, 1) := by decide +kernel
theorem dX8_atom_208 : decode cX8_atom 208 = .ok (.getfield 37, 3) := by decide +kernel
theorem dX8_atom_211 : decode cX8_atom 211 = .ok (.iload 9, 2) := by decide +kernel
theorem dX8_atom_213 : decode cX8_atom 213 = .ok (.iload 4, 2) := by decide +kernel
theorem dX8_atom_215 : decode cX8_atom 215 = .ok (.iastore, 1) := by decide +kernel
theorem dX8_atom_216 : decode cX8_atom 216 = .ok (.aload_n 0, 1) := by decide +kernel
theorem dX8_atom_217 : decode cX8_atom 217 = .ok (.getfield 40, 3) := by decide +kernel
theorem dX8_atom_220 : decode cX8_atom 220 = .ok (.iload 9, 2) := by decide +kernel
theorem dX8_atom_222 : decode cX8_atom 222 = .ok (.iload 8, 2) := by decide +kernel
theorem dX8_atom_224 : decode cX8_atom 224 = .ok (.iastore, 1) := by decide +kernel
theorem dX8_atom_225 : decode cX8_atom 225 = .ok (.aload_n 0, 1) := by decide +kernel
theorem dX8_atom_226 : decode cX8_atom 226 = .ok (.getfield 31, 3) := by decide +kernel
theorem dX8_atom_229 : decode cX8_atom 229 = .ok (.iload_n 1, 1) := by decide +kernel
theorem dX8_atom_230 : decode cX8_atom 230 = .ok (.dup2, 1) := by decide +kernel
theorem dX8_atom_231 : decode cX8_atom 231 = .ok (.iaload, 1) := by decide +kernel
theorem dX8_atom_232 : decode cX8_atom 232 = .ok (.iconst 1, 1) := by decide +kernel
theorem dX8_atom_233 : decode cX8_atom 233 = .ok (.iadd, 1) := by decide +kernel
theorem dX8_atom_234 : decode cX8_atom 234 = .ok (.iastore, 1) := by decide +kernel
theorem dX8_atom_235 : decode cX8_atom 235 = .ok (.aload_n 0, 1) := by decide +kernel
theorem dX8_atom_236 : decode cX8_atom 236 = .ok (.iconst (-1), 1) := by decide +kernel
theorem dX8_atom_237 : decode cX8_atom 237 = .ok (.putfield 43, 3) := by decide +kernel
theorem dX8_atom_240 : decode cX8_atom 240 = .ok (.aload_n 0, 1) := by decide +kernel
theorem dX8_atom_241 : decode cX8_atom 241 = .ok (.getfield 31, 3) := by decide +kernel
theorem dX8_atom_244 : decode cX8_atom 244 = .ok (.iload_n 1, 1) := by decide +kernel
theorem dX8_atom_245 : decode cX8_atom 245 = .ok (.iaload, 1) := by decide +kernel
theorem dX8_atom_246 : decode cX8_atom 246 = .ok (.ireturn, 1) := by decide +kernel
set_option maxRecDepth 40000 in
theorem kfX8_34 : Cond.fieldLink RX8 34 "QlRewriteModel" "atomNames" "[I" ∈ qW := qw 581 rfl rfl
set_option maxRecDepth 40000 in
theorem kfX8_37 : Cond.fieldLink RX8 37 "QlRewriteModel" "atomFirsts" "[I" ∈ qW := qw 582 rfl rfl
set_option maxRecDepth 40000 in
theorem kfX8_40 : Cond.fieldLink RX8 40 "QlRewriteModel" "atomSeconds" "[I" ∈ qW := qw 583 rfl rfl
abbrev rm_c_Model_atom : Room := { frames := 1, cells := 0, slots := 0, locals := 22 }
set_option maxHeartbeats 4000000 in
set_option maxRecDepth 100000 in
theorem c_Model_atom (l : Launch) (dC : Nat → ClassId) (dI : Nat → Nat → Nat) (cI cL cQ cZ : ClassId) (x0 : Nat) (ax : Nat) (z1 : Nat) (z2 : Nat) (z3 : Nat) (fc : Nat) (z5 : Nat) (z6 : Nat) (z7 : Nat) (qs : Nat) (z9 : Nat) (z10 : Nat) (z11 : Nat) (z12 : Nat) (z13 : Nat) (hd : Option Nat) (lg : Bool) (fcn : Nat) (z17 : Nat) (z18 : Nat) (z19 : Nat) (md : Nat) (z21 : Nat) (z22 : Nat) (z23 : Nat) (z24 : Nat) (hc : Nat) (z26 : Nat) (z27 : Nat) (z28 : Nat) (z29 : Nat) (z30 : Nat) (z31 : Nat) (sm : Bool) (z33 : Nat) (z34 : Nat) (qn : Nat → Nat) (qx : Nat → Nat) (qy : Nat → Nat) (qz : Nat → Nat) (q : Int32) (ro : Bool) (x : Int32) (a : Int32) (b : Int32) (hqs : qs ≤ 6) (hqn : ∀ j7, qn j7 ≤ 4) (hqx : ∀ j7, qx j7 < 64) (hqy : ∀ j7, qy j7 < 16) (hqz : ∀ j7, qz j7 < 16) : Met l yX8_atom wkX8_atom rm_c_Model_atom (q_W (dC, dI) qCl (qT cI cL cQ cZ) [(x0, .inr (8, mO ax z1 z2 z3 fc z5 z6 z7 qs z9 z10 z11 z12 z13 hd lg fcn z17 z18 z19 md z21 z22 z23 z24 hc z26 z27 z28 z29 z30 z31 sm z33 z34)), (z10, .inl (cI, 6, .inl (nF qn))), (z11, .inl (cI, 24, .inl (nF qx))), (z12, .inl (cI, 24, .inl (nF qy))), (z13, .inl (cI, 24, .inl (nF qz)))] [.ref x0, .int (q), .int (bI (ro)), .int (x), .int (a), .int (b)]) (va_Qi (fun (r : Int32) (u : Int32 × (Nat → Nat) × (Nat → Nat) × (Nat → Nat) × (Nat → Nat) × (Option Nat)) => (r = (u.1)) ∧ (s_atm qs q ro x a b qn qx qy qz hd u.1 u.2.1 u.2.2.1 u.2.2.2.1 u.2.2.2.2.1 u.2.2.2.2.2)) (fun (u : Int32 × (Nat → Nat) × (Nat → Nat) × (Nat → Nat) × (Nat → Nat) × (Option Nat)) t => va_P (dC, dI) qCl [(x0, .inr (8, mO ax z1 z2 z3 fc z5 z6 z7 qs z9 z10 z11 z12 z13 u.2.2.2.2.2 lg fcn z17 z18 z19 md z21 z22 z23 z24 hc z26 z27 z28 z29 z30 z31 sm z33 z34)), (z10, .inl (cI, 6, .inl (nF u.2.1))), (z11, .inl (cI, 24, .inl (nF u.2.2.1))), (z12, .inl (cI, 24, .inl (nF u.2.2.2.1))), (z13, .inl (cI, 24, .inl (nF u.2.2.2.2.1)))] t.heap) (q_A [(x0, .inr (8, mO ax z1 z2 z3 fc z5 z6 z7 qs z9 z10 z11 z12 z13 hd lg fcn z17 z18 z19 md z21 z22 z23 z24 hc z26 z27 z28 z29 z30 z31 sm z33 z34)), (z10, .inl (cI, 6, .inl (nF qn))), (z11, .inl (cI, 24, .inl (nF qx))), (z12, .inl (cI, 24, .inl (nF qy))), (z13, .inl (cI, 24, .inl (nF qz)))])) 0 0 (q_A [(x0, .inr (8, mO ax z1 z2 z3 fc z5 z6 z7 qs z9 z10 z11 z12 z13 hd lg fcn z17 z18 z19 md z21 z22 z23 z24 hc z26 z27 z28 z29 z30 z31 sm z33 z34)), (z10, .inl (cI, 6, .inl (nF qn))), (z11, .inl (cI, 24, .inl (nF qx))), (z12, .inl (cI, 24, .inl (nF qy))), (z13, .inl (cI, 24, .inl (nF qz)))]) := by
  refine Met.ofW (cc := cX8_atom) (maxL := 10) (ret := (some .int)) (by decide) rfl ?_
  intro p e s m args below meth c s₁ B hml hv
  obtain ⟨hargs, hP, hK, hD0⟩ := hv
  have hx := B.exec
  have hb := B.bytes
  have hr := B.returns
  have hts : ∀ w ∈ qW, w.before args s = true := fun w h => atoms_spec (ws := wkX8_atom) B.pre w (List.mem_cons_of_mem _ h)
  have hown : s.vm.findClass RX8 = some m.cls := findClass_of_methodNamed B.named
  have hlocks := B.notSynchronized
  refine q_named (fun Q hQ => ?_)
  have hD : va_D (q_A [(x0, .inr (8, mO ax z1 z2 z3 fc z5 z6 z7 qs z9 z10 z11 z12 z13 hd lg fcn z17 z18 z19 md z21 z22 z23 z24 hc z26 z27 z28 z29 z30 z31 sm z33 z34)), (z10, .inl (cI, 6, .inl (nF qn))), (z11, .inl (cI, 24, .inl (nF qx))), (z12, .inl (cI, 24, .inl (nF qy))), (z13, .inl (cI, 24, .inl (nF qz)))]) [(x0, .inr (8, mO ax z1 z2 z3 fc z5 z6 z7 qs z9 z10 z11 z12 z13 hd lg fcn z17 z18 z19 md z21 z22 z23 z24 hc z26 z27 z28 z29 z30 z31 sm z33 z34)), (z10, .inl (cI, 6, .inl (nF qn))), (z11, .inl (cI, 24, .inl (nF qx))), (z12, .inl (cI, 24, .inl (nF qy))), (z13, .inl (cI, 24, .inl (nF qz)))] := ⟨hD0.1, fun k q h => ⟨k, q.2, h⟩⟩
  generalize hAe : q_A [(x0, .inr (8, mO ax z1 z2 z3 fc z5 z6 z7 qs z9 z10 z11 z12 z13 hd lg fcn z17 z18 z19 md z21 z22 z23 z24 hc z26 z27 z28 z29 z30 z31 sm z33 z34)), (z10, .inl (cI, 6, .inl (nF qn))), (z11, .inl (cI, 24, .inl (nF qx))), (z12, .inl (cI, 24, .inl (nF qy))), (z13, .inl (cI, 24, .inl (nF qz)))] = A at hD
  have hS : va_S A s.heap s.heap [] := va_S.rf
  refine q_entry hargs (Nat.le_of_ble_eq_true rfl) (fun ls hl => ?_)
  have hl : lv_has ls 10 [(0, .ref x0), (1, .int (q)), (2, .int (bI (ro))), (3, .int (x)), (4, .int (a)), (5, .int (b))] := hl
  obtain ⟨H, locs, eH, eL⟩ : ∃ (H : Heap) (locs : List Loc), s.heap = H ∧ ([] : List Loc) = locs := ⟨_, _, rfl, rfl⟩
  have hS : va_S A s.heap H locs := by rw [← eH, ← eL]; exact hS
  have hP : va_P (dC, dI) qCl [(x0, .inr (8, mO ax z1 z2 z3 fc z5 z6 z7 qs z9 z10 z11 z12 z13 hd lg fcn z17 z18 z19 md z21 z22 z23 z24 hc z26 z27 z28 z29 z30 z31 sm z33 z34)), (z10, .inl (cI, 6, .inl (nF qn))), (z11, .inl (cI, 24, .inl (nF qx))), (z12, .inl (cI, 24, .inl (nF qy))), (z13, .inl (cI, 24, .inl (nF qz)))] H := by rw [← eH]; exact hP
  refine W_at eH eL ?_
  have L68 : ∀ (gd : Bool) (ls : Array Slot) (H : Heap) (locs : List Loc), (gd = m_atg qs q ro x a b) → lv_has ls 10 [(0, .ref x0), (1, .int (q)), (2, .int (bI (ro))), (3, .int (x)), (4, .int (a)), (5, .int (b))] → va_P (dC, dI) qCl [(x0, .inr (8, mO ax z1 z2 z3 fc z5 z6 z7 qs z9 z10 z11 z12 z13 hd lg fcn z17 z18 z19 md z21 z22 z23 z24 hc z26 z27 z28 z29 z30 z31 sm z33 z34)), (z10, .inl (cI, 6, .inl (nF qn))), (z11, .inl (cI, 24, .inl (nF qx))), (z12, .inl (cI, 24, .inl (nF qy))), (z13, .inl (cI, 24, .inl (nF qz)))] H → va_D A [(x0, .inr (8, mO ax z1 z2 z3 fc z5 z6 z7 qs z9 z10 z11 z12 z13 hd lg fcn z17 z18 z19 md z21 z22 z23 z24 hc z26 z27 z28 z29 z30 z31 sm z33 z34)), (z10, .inl (cI, 6, .inl (nF qn))), (z11, .inl (cI, 24, .inl (nF qx))), (z12, .inl (cI, 24, .inl (nF qy))), (z13, .inl (cI, 24, .inl (nF qz)))] → va_S A s.heap H locs → W p l e (headSpec wkX8_atom rm_c_Model_atom).room s m args below meth c H locs 0 0 Q (F0 m 68 ls [.int (bI (gd))]) := by
    intro gd ls H locs hgd hl hP hD hS
    refine lv_istore (lv' := [(6, .int (bI (gd))), (0, .ref x0), (1, .int (q)), (2, .int (bI (ro))), (3, .int (x)), (4, .int (a)), (5, .int (b))]) hx hb dX8_atom_68 hl (by decide) rfl (fun ls hl => ?_)
    refine lv_iload hx hb dX8_atom_70 (lv_at hl 0 rfl) ?_
    refine q_ifb_ne (b := gd) (tgt := 77) hx hb dX8_atom_72 (by decide) (fun c72_1 => ?_) (fun c72_1 => ?_)
    · have hgt := hgd.symm.trans (by assumption)
      obtain ⟨q9, a9, hq8, ha8, eq9, ea9⟩ := m_atg_q hqs hgt
      have hqn9 := hqn q9
      have hl := lv_updv hl 2 rfl (show (.int (q) : Value) = .int (nI (q9)) from (congrArg Value.int eq9))
      have hl : lv_has ls 10 [(6, .int (bI (gd))), (0, .ref x0), (1, .int (nI (q9))), (2, .int (bI (ro))), (3, .int (x)), (4, .int (a)), (5, .int (b))] := hl
      have hl := lv_updv hl 5 rfl (show (.int (a) : Value) = .int (nI (a9)) from (congrArg Value.int ea9))
      have hl : lv_has ls 10 [(6, .int (bI (gd))), (0, .ref x0), (1, .int (nI (q9))), (2, .int (bI (ro))), (3, .int (x)), (4, .int (nI (a9))), (5, .int (b))] := hl
      refine lv_iload_n hx hb dX8_atom_77 rfl (lv_at hl 3 rfl) ?_
      have L104 : ∀ (X : Nat) (Y : Nat) (ls : Array Slot) (H : Heap) (locs : List Loc), (m_atx ro x b X Y) → (X < 64) → (Y < 16) → lv_has ls 10 [(6, .int (bI (gd))), (0, .ref x0), (1, .int (nI (q9))), (2, .int (bI (ro))), (4, .int (nI (a9))), (7, .int (nI (X))), (8, .int (nI (Y)))] → va_P (dC, dI) qCl [(x0, .inr (8, mO ax z1 z2 z3 fc z5 z6 z7 qs z9 z10 z11 z12 z13 hd lg fcn z17 z18 z19 md z21 z22 z23 z24 hc z26 z27 z28 z29 z30 z31 sm z33 z34)), (z10, .inl (cI, 6, .inl (nF qn))), (z11, .inl (cI, 24, .inl (nF qx))), (z12, .inl (cI, 24, .inl (nF qy))), (z13, .inl (cI, 24, .inl (nF qz)))] H → va_D A [(x0, .inr (8, mO ax z1 z2 z3 fc z5 z6 z7 qs z9 z10 z11 z12 z13 hd lg fcn z17 z18 z19 md z21 z22 z23 z24 hc z26 z27 z28 z29 z30 z31 sm z33 z34)), (z10, .inl (cI, 6, .inl (nF qn))), (z11, .inl (cI, 24, .inl (nF qx))), (z12, .inl (cI, 24, .inl (nF qy))), (z13, .inl (cI, 24, .inl (nF qz)))] → va_S A s.heap H locs → W p l e (headSpec wkX8_atom rm_c_Model_atom).room s m args below meth c H locs 0 0 Q (F0 m 104 ls []) := by
        intro X Y ls H locs hXY hX hY hl hP hD hS
        refine lv_iconst (v := (nI (4))) hx hb dX8_atom_104 (by decide) ?_
        refine lv_iload_n hx hb dX8_atom_105 rfl (lv_at hl 2 rfl) ?_
        refine q_imul (x := 4) (y := q9) hx hb dX8_atom_106 ?_
        refine lv_istore (lv' := [(9, .int (nI (4 * q9))), (6, .int (bI (gd))), (0, .ref x0), (1, .int (nI (q9))), (2, .int (bI (ro))), (4, .int (nI (a9))), (7, .int (nI (X))), (8, .int (nI (Y)))]) hx hb dX8_atom_107 hl (by decide) rfl (fun ls hl => ?_)
        have L109 : ∀ (fu : Nat) (k : Nat) (ls : Array Slot) (H : Heap) (locs : List Loc), 4 * q9 + qn q9 - k < fu → (4 * q9 ≤ k ∧ k ≤ 4 * q9 + qn q9) → (m_no3 qx qy qz X a9 Y (4 * q9) k) → lv_has ls 10 [(9, .int (nI (k))), (6, .int (bI (gd))), (0, .ref x0), (1, .int (nI (q9))), (2, .int (bI (ro))), (4, .int (nI (a9))), (7, .int (nI (X))), (8, .int (nI (Y)))] → va_P (dC, dI) qCl [(x0, .inr (8, mO ax z1 z2 z3 fc z5 z6 z7 qs z9 z10 z11 z12 z13 hd lg fcn z17 z18 z19 md z21 z22 z23 z24 hc z26 z27 z28 z29 z30 z31 sm z33 z34)), (z10, .inl (cI, 6, .inl (nF qn))), (z11, .inl (cI, 24, .inl (nF qx))), (z12, .inl (cI, 24, .inl (nF qy))), (z13, .inl (cI, 24, .inl (nF qz)))] H → va_D A [(x0, .inr (8, mO ax z1 z2 z3 fc z5 z6 z7 qs z9 z10 z11 z12 z13 hd lg fcn z17 z18 z19 md z21 z22 z23 z24 hc z26 z27 z28 z29 z30 z31 sm z33 z34)), (z10, .inl (cI, 6, .inl (nF qn))), (z11, .inl (cI, 24, .inl (nF qx))), (z12, .inl (cI, 24, .inl (nF qy))), (z13, .inl (cI, 24, .inl (nF qz)))] → va_S A s.heap H locs → W p l e (headSpec wkX8_atom rm_c_Model_atom).room s m args below meth c H locs 0 0 Q (F0 m 109 ls []) := by
          intro fu
          induction fu with
          | zero => intro k ls H locs hmu; exact absurd hmu (Nat.not_lt_zero _)
          | succ fu ih109 =>
            intro k ls H locs hmu hk hno hl hP hD hS
            refine lv_iload hx hb dX8_atom_109 (lv_at hl 0 rfl) ?_
            refine lv_iconst (v := (nI (4))) hx hb dX8_atom_111 (by decide) ?_
            refine lv_iload_n hx hb dX8_atom_112 rfl (lv_at hl 3 rfl) ?_
            refine q_imul (x := 4) (y := q9) hx hb dX8_atom_113 ?_
            refine lv_aload_n hx hb dX8_atom_114 rfl (lv_at hl 2 rfl) ?_
            refine va_get (D := (dC, dI)) (ci := 8) (v := .ref z10) (C := RX8) (T := TX8) (N := 35) hx hb hts uX8 hown hK hP 0 rfl rfl 10 (by decide) (hts _ kfX8_31) (fun _ h9 => h9) rfl dX8_atom_115 ?_
            refine lv_iload_n hx hb dX8_atom_118 rfl (lv_at hl 3 rfl) ?_
            refine q_ialdN hx hb hK hP 1 0 rfl rfl (j := q9) (by omega) (by omega) dX8_atom_119 ?_
            have bd2 := hqn q9
            refine q_iadd (x := 4 * q9) (y := qn q9) hx hb dX8_atom_120 ?_
            refine q_icmp_ge (x := k) (y := (4 * q9) + (qn q9)) (tgt := 173) hx hb dX8_atom_121 (by decide) (by omega) (by omega) (fun c121_3 => ?_) (fun c121_3 => ?_)
            · have hno2 : m_no3 qx qy qz X a9 Y (4 * q9) (4 * q9 + qn q9) := (by rw [show 4 * q9 + qn q9 = k by omega]; exact hno)
              refine lv_aload_n hx hb dX8_atom_173 rfl (lv_at hl 2 rfl) ?_
              refine va_get (D := (dC, dI)) (ci := 8) (v := .ref z10) (C := RX8) (T := TX8) (N := 35) hx hb hts uX8 hown hK hP 0 rfl rfl 10 (by decide) (hts _ kfX8_31) (fun _ h9 => h9) rfl dX8_atom_174 ?_
              refine lv_iload_n hx hb dX8_atom_177 rfl (lv_at hl 3 rfl) ?_
              refine q_ialdN hx hb hK hP 1 0 rfl rfl (j := q9) (by omega) (by omega) dX8_atom_178 ?_
              have bd4 := hqn q9
              refine lv_iconst (v := (nI (4))) hx hb dX8_atom_179 (by decide) ?_
              refine q_icmp_ne (x := qn q9) (y := 4) (tgt := 186) hx hb dX8_atom_180 (by decide) (by omega) (by omega) (fun c180_5 => ?_) (fun c180_5 => ?_)
              · refine lv_iconst (v := (nI (4))) hx hb dX8_atom_186 (by decide) ?_
                refine lv_iload_n hx hb dX8_atom_187 rfl (lv_at hl 3 rfl) ?_
                refine q_imul (x := 4) (y := q9) hx hb dX8_atom_188 ?_
                refine lv_aload_n hx hb dX8_atom_189 rfl (lv_at hl 2 rfl) ?_
                refine va_get (D := (dC, dI)) (ci := 8) (v := .ref z10) (C := RX8) (T := TX8) (N := 35) hx hb hts uX8 hown hK hP 0 rfl rfl 10 (by decide) (hts _ kfX8_31) (fun _ h9 => h9) rfl dX8_atom_190 ?_
                refine lv_iload_n hx hb dX8_atom_193 rfl (lv_at hl 3 rfl) ?_
                refine q_ialdN hx hb hK hP 1 0 rfl rfl (j := q9) (by omega) (by omega) dX8_atom_194 ?_
                have bd6 := hqn q9
                refine q_iadd (x := 4 * q9) (y := qn q9) hx hb dX8_atom_195 ?_
                refine lv_istore (lv' := [(9, .int (nI ((4 * q9) + (qn q9)))), (6, .int (bI (gd))), (0, .ref x0), (1, .int (nI (q9))), (2, .int (bI (ro))), (4, .int (nI (a9))), (7, .int (nI (X))), (8, .int (nI (Y)))]) hx hb dX8_atom_196 hl (by decide) rfl (fun ls hl => ?_)
                refine lv_aload_n hx hb dX8_atom_198 rfl (lv_at hl 2 rfl) ?_
                refine va_get (D := (dC, dI)) (ci := 8) (v := .ref z11) (C := RX8) (T := TX8) (N := 35) hx hb hts uX8 hown hK hP 0 rfl rfl 11 (by decide) (hts _ kfX8_34) (fun _ h9 => h9) rfl dX8_atom_199 ?_
                refine lv_iload hx hb dX8_atom_202 (lv_at hl 0 rfl) ?_
                refine lv_iload hx hb dX8_atom_204 (lv_at hl 6 rfl) ?_
                refine q_iastN hx hb hK hP hD hS 2 0 rfl rfl (j := (4 * q9) + (qn q9)) (x := X) (by omega) (by omega) dX8_atom_206 (fun H locs hP hD hS => ?_)
                have hP : va_P (dC, dI) qCl [(x0, .inr (8, mO ax z1 z2 z3 fc z5 z6 z7 qs z9 z10 z11 z12 z13 hd lg fcn z17 z18 z19 md z21 z22 z23 z24 hc z26 z27 z28 z29 z30 z31 sm z33 z34)), (z10, .inl (cI, 6, .inl (nF qn))), (z11, .inl (cI, 24, .inl (nF (va_up qx ((4 * q9) + (qn q9)) X)))), (z12, .inl (cI, 24, .inl (nF qy))), (z13, .inl (cI, 24, .inl (nF qz)))] H := hP
                have hD : va_D A [(x0, .inr (8, mO ax z1 z2 z3 fc z5 z6 z7 qs z9 z10 z11 z12 z13 hd lg fcn z17 z18 z19 md z21 z22 z23 z24 hc z26 z27 z28 z29 z30 z31 sm z33 z34)), (z10, .inl (cI, 6, .inl (nF qn))), (z11, .inl (cI, 24, .inl (nF (va_up qx ((4 * q9) + (qn q9)) X)))), (z12, .inl (cI, 24, .inl (nF qy))), (z13, .inl (cI, 24, .inl (nF qz)))] := hD
                refine lv_aload_n hx hb dX8_atom_207 rfl (lv_at hl 2 rfl) ?_
                refine va_get (D := (dC, dI)) (ci := 8) (v := .ref z12) (C := RX8) (T := TX8) (N := 35) hx hb hts uX8 hown hK hP 0 rfl rfl 12 (by decide) (hts _ kfX8_37) (fun _ h9 => h9) rfl dX8_atom_208 ?_
                refine lv_iload hx hb dX8_atom_211 (lv_at hl 0 rfl) ?_
                refine lv_iload hx hb dX8_atom_213 (lv_at hl 5 rfl) ?_
                refine q_iastN hx hb hK hP hD hS 3 0 rfl rfl (j := (4 * q9) + (qn q9)) (x := a9) (by omega) (by omega) dX8_atom_215 (fun H locs hP hD hS => ?_)
                have hP : va_P (dC, dI) qCl [(x0, .inr (8, mO ax z1 z2 z3 fc z5 z6 z7 qs z9 z10 z11 z12 z13 hd lg fcn z17 z18 z19 md z21 z22 z23 z24 hc z26 z27 z28 z29 z30 z31 sm z33 z34)), (z10, .inl (cI, 6, .inl (nF qn))), (z11, .inl (cI, 24, .inl (nF (va_up qx ((4 * q9) + (qn q9)) X)))), (z12, .inl (cI, 24, .inl (nF (va_up qy ((4 * q9) + (qn q9)) a9)))), (z13, .inl (cI, 24, .inl (nF qz)))] H := hP
                have hD : va_D A [(x0, .inr (8, mO ax z1 z2 z3 fc z5 z6 z7 qs z9 z10 z11 z12 z13 hd lg fcn z17 z18 z19 md z21 z22 z23 z24 hc z26 z27 z28 z29 z30 z31 sm z33 z34)), (z10, .inl (cI, 6, .inl (nF qn))), (z11, .inl (cI, 24, .inl (nF (va_up qx ((4 * q9) + (qn q9)) X)))), (z12, .inl (cI, 24, .inl (nF (va_up qy ((4 * q9) + (qn q9)) a9)))), (z13, .inl (cI, 24, .inl (nF qz)))] := hD
                refine lv_aload_n hx hb dX8_atom_216 rfl (lv_at hl 2 rfl) ?_
                refine va_get (D := (dC, dI)) (ci := 8) (v := .ref z13) (C := RX8) (T := TX8) (N := 35) hx hb hts uX8 hown hK hP 0 rfl rfl 13 (by decide) (hts _ kfX8_40) (fun _ h9 => h9) rfl dX8_atom_217 ?_
                refine lv_iload hx hb dX8_atom_220 (lv_at hl 0 rfl) ?_
                refine lv_iload hx hb dX8_atom_222 (lv_at hl 7 rfl) ?_
                refine q_iastN hx hb hK hP hD hS 4 0 rfl rfl (j := (4 * q9) + (qn q9)) (x := Y) (by omega) (by omega) dX8_atom_224 (fun H locs hP hD hS => ?_)
                have hP : va_P (dC, dI) qCl [(x0, .inr (8, mO ax z1 z2 z3 fc z5 z6 z7 qs z9 z10 z11 z12 z13 hd lg fcn z17 z18 z19 md z21 z22 z23 z24 hc z26 z27 z28 z29 z30 z31 sm z33 z34)), (z10, .inl (cI, 6, .inl (nF qn))), (z11, .inl (cI, 24, .inl (nF (va_up qx ((4 * q9) + (qn q9)) X)))), (z12, .inl (cI, 24, .inl (nF (va_up qy ((4 * q9) + (qn q9)) a9)))), (z13, .inl (cI, 24, .inl (nF (va_up qz ((4 * q9) + (qn q9)) Y))))] H := hP
                have hD : va_D A [(x0, .inr (8, mO ax z1 z2 z3 fc z5 z6 z7 qs z9 z10 z11 z12 z13 hd lg fcn z17 z18 z19 md z21 z22 z23 z24 hc z26 z27 z28 z29 z30 z31 sm z33 z34)), (z10, .inl (cI, 6, .inl (nF qn))), (z11, .inl (cI, 24, .inl (nF (va_up qx ((4 * q9) + (qn q9)) X)))), (z12, .inl (cI, 24, .inl (nF (va_up qy ((4 * q9) + (qn q9)) a9)))), (z13, .inl (cI, 24, .inl (nF (va_up qz ((4 * q9) + (qn q9)) Y))))] := hD
                refine lv_aload_n hx hb dX8_atom_225 rfl (lv_at hl 2 rfl) ?_
                refine va_get (D := (dC, dI)) (ci := 8) (v := .ref z10) (C := RX8) (T := TX8) (N := 35) hx hb hts uX8 hown hK hP 0 rfl rfl 10 (by decide) (hts _ kfX8_31) (fun _ h9 => h9) rfl dX8_atom_226 ?_
                refine lv_iload_n hx hb dX8_atom_229 rfl (lv_at hl 3 rfl) ?_
                refine lv_dup2_11 hx hb dX8_atom_230 rfl rfl ?_
                refine q_ialdN hx hb hK hP 1 0 rfl rfl (j := q9) (by omega) (by omega) dX8_atom_231 ?_
                have bd7 := hqn q9
                refine lv_iconst (v := (nI (1))) hx hb dX8_atom_232 (by decide) ?_
                refine q_iadd (x := qn q9) (y := 1) hx hb dX8_atom_233 ?_
                refine q_iastN hx hb hK hP hD hS 1 0 rfl rfl (j := q9) (x := (qn q9) + 1) (by omega) (by omega) dX8_atom_234 (fun H locs hP hD hS => ?_)
                have hP : va_P (dC, dI) qCl [(x0, .inr (8, mO ax z1 z2 z3 fc z5 z6 z7 qs z9 z10 z11 z12 z13 hd lg fcn z17 z18 z19 md z21 z22 z23 z24 hc z26 z27 z28 z29 z30 z31 sm z33 z34)), (z10, .inl (cI, 6, .inl (nF (va_up qn q9 ((qn q9) + 1))))), (z11, .inl (cI, 24, .inl (nF (va_up qx ((4 * q9) + (qn q9)) X)))), (z12, .inl (cI, 24, .inl (nF (va_up qy ((4 * q9) + (qn q9)) a9)))), (z13, .inl (cI, 24, .inl (nF (va_up qz ((4 * q9) + (qn q9)) Y))))] H := hP
                have hD : va_D A [(x0, .inr (8, mO ax z1 z2 z3 fc z5 z6 z7 qs z9 z10 z11 z12 z13 hd lg fcn z17 z18 z19 md z21 z22 z23 z24 hc z26 z27 z28 z29 z30 z31 sm z33 z34)), (z10, .inl (cI, 6, .inl (nF (va_up qn q9 ((qn q9) + 1))))), (z11, .inl (cI, 24, .inl (nF (va_up qx ((4 * q9) + (qn q9)) X)))), (z12, .inl (cI, 24, .inl (nF (va_up qy ((4 * q9) + (qn q9)) a9)))), (z13, .inl (cI, 24, .inl (nF (va_up qz ((4 * q9) + (qn q9)) Y))))] := hD
                refine lv_aload_n hx hb dX8_atom_235 rfl (lv_at hl 2 rfl) ?_
                refine lv_iconst (v := (oI (none))) hx hb dX8_atom_236 (by decide) ?_
                refine va_put (D := (dC, dI)) (ci := 8) (v := .int (oI (none))) (ty := .int) (C := RX8) (T := TX8) (N := 35) hx hb hts uX8 tyX8 tyX8_ok nmX8 hown hK hP hD hS 0 rfl rfl 14 (by decide) (hts _ kfX8_43) (fun _ h9 => h9) rfl (by decide +kernel) (rfl) (rfl) (Nat.le_of_ble_eq_true rfl) dX8_atom_237 (fun H locs hP hD hS => ?_)
                have hP : va_P (dC, dI) qCl [(x0, .inr (8, mO ax z1 z2 z3 fc z5 z6 z7 qs z9 z10 z11 z12 z13 none lg fcn z17 z18 z19 md z21 z22 z23 z24 hc z26 z27 z28 z29 z30 z31 sm z33 z34)), (z10, .inl (cI, 6, .inl (nF (va_up qn q9 ((qn q9) + 1))))), (z11, .inl (cI, 24, .inl (nF (va_up qx ((4 * q9) + (qn q9)) X)))), (z12, .inl (cI, 24, .inl (nF (va_up qy ((4 * q9) + (qn q9)) a9)))), (z13, .inl (cI, 24, .inl (nF (va_up qz ((4 * q9) + (qn q9)) Y))))] H := hP
                have hD : va_D A [(x0, .inr (8, mO ax z1 z2 z3 fc z5 z6 z7 qs z9 z10 z11 z12 z13 none lg fcn z17 z18 z19 md z21 z22 z23 z24 hc z26 z27 z28 z29 z30 z31 sm z33 z34)), (z10, .inl (cI, 6, .inl (nF (va_up qn q9 ((qn q9) + 1))))), (z11, .inl (cI, 24, .inl (nF (va_up qx ((4 * q9) + (qn q9)) X)))), (z12, .inl (cI, 24, .inl (nF (va_up qy ((4 * q9) + (qn q9)) a9)))), (z13, .inl (cI, 24, .inl (nF (va_up qz ((4 * q9) + (qn q9)) Y))))] := hD
                refine lv_aload_n hx hb dX8_atom_240 rfl (lv_at hl 2 rfl) ?_
                refine va_get (D := (dC, dI)) (ci := 8) (v := .ref z10) (C := RX8) (T := TX8) (N := 35) hx hb hts uX8 hown hK hP 0 rfl rfl 10 (by decide) (hts _ kfX8_31) (fun _ h9 => h9) rfl dX8_atom_241 ?_
                refine lv_iload_n hx hb dX8_atom_244 rfl (lv_at hl 3 rfl) ?_
                refine q_ialdN hx hb hK hP 1 0 rfl rfl (j := q9) (by omega) (by omega) dX8_atom_245 ?_
                refine q_top (show (nI ((va_up qn q9 ((qn q9) + 1)) q9)) = (nI (qn q9 + 1)) from (congrArg nI (up_s _ _ _))) ?_
                subst hQ
                subst hAe
                have hP9 := hP.sub (ws' := [(x0, .inr (8, mO ax z1 z2 z3 fc z5 z6 z7 qs z9 z10 z11 z12 z13 none lg fcn z17 z18 z19 md z21 z22 z23 z24 hc z26 z27 z28 z29 z30 z31 sm z33 z34)), (z10, .inl (cI, 6, .inl (nF (va_up qn q9 ((qn q9) + 1))))), (z11, .inl (cI, 24, .inl (nF (va_up qx ((4 * q9) + (qn q9)) X)))), (z12, .inl (cI, 24, .inl (nF (va_up qy ((4 * q9) + (qn q9)) a9)))), (z13, .inl (cI, 24, .inl (nF (va_up qz ((4 * q9) + (qn q9)) Y))))]) [0, 1, 2, 3, 4] rfl
                exact W.iret (v := (nI (qn q9 + 1))) hx hb hr (fun t9 h9 _ => ⟨⟨(nI (qn q9 + 1)), (nI (qn q9 + 1), va_up qn q9 ((qn q9) + 1), va_up qx ((4 * q9) + (qn q9)) X, va_up qy ((4 * q9) + (qn q9)) a9, va_up qz ((4 * q9) + (qn q9)) Y, none), rfl, ⟨rfl, (show s_atm qs q ro x a b qn qx qy qz hd (nI (qn q9 + 1)) (va_up qn q9 ((qn q9) + 1)) (va_up qx ((4 * q9) + (qn q9)) X) (va_up qy ((4 * q9) + (qn q9)) a9) (va_up qz ((4 * q9) + (qn q9)) Y) none from by (exact Or.inr ⟨hgt, q9, a9, X, Y, hq8, eq9, ha8, ea9, hXY, Or.inr (Or.inr ⟨hno2, by omega, rfl, rfl, rfl, rfl, rfl, rfl⟩)⟩))⟩, by show va_P _ _ _ t9.heap; rw [h9]; exact hP9⟩, hS.F h9⟩) hS.2.2 dX8_atom_246
              · refine lv_bipush (v := (-2)) hx hb dX8_atom_183 (by decide) ?_
                subst hQ
                subst hAe
                have hP9 := hP.sub (ws' := [(x0, .inr (8, mO ax z1 z2 z3 fc z5 z6 z7 qs z9 z10 z11 z12 z13 hd lg fcn z17 z18 z19 md z21 z22 z23 z24 hc z26 z27 z28 z29 z30 z31 sm z33 z34)), (z10, .inl (cI, 6, .inl (nF qn))), (z11, .inl (cI, 24, .inl (nF qx))), (z12, .inl (cI, 24, .inl (nF qy))), (z13, .inl (cI, 24, .inl (nF qz)))]) [0, 1, 2, 3, 4] rfl
                exact W.iret (v := (-2)) hx hb hr (fun t9 h9 _ => ⟨⟨(-2), (-2, qn, qx, qy, qz, hd), rfl, ⟨rfl, (show s_atm qs q ro x a b qn qx qy qz hd (-2) qn qx qy qz hd from by (exact Or.inr ⟨hgt, q9, a9, X, Y, hq8, eq9, ha8, ea9, hXY, Or.inr (Or.inl ⟨hno2, by omega, rfl, rfl, rfl, rfl, rfl, rfl⟩)⟩))⟩, by show va_P _ _ _ t9.heap; rw [h9]; exact hP9⟩, hS.F h9⟩) hS.2.2 dX8_atom_185
            · refine lv_aload_n hx hb dX8_atom_124 rfl (lv_at hl 2 rfl) ?_
              refine va_get (D := (dC, dI)) (ci := 8) (v := .ref z11) (C := RX8) (T := TX8) (N := 35) hx hb hts uX8 hown hK hP 0 rfl rfl 11 (by decide) (hts _ kfX8_34) (fun _ h9 => h9) rfl dX8_atom_125 ?_
              refine lv_iload hx hb dX8_atom_128 (lv_at hl 0 rfl) ?_
              refine q_ialdN hx hb hK hP 2 0 rfl rfl (j := k) (by omega) (by omega) dX8_atom_130 ?_
              have bd8 := hqx k
              refine lv_iload hx hb dX8_atom_131 (lv_at hl 6 rfl) ?_
              refine q_icmp_ne (x := qx k) (y := X) (tgt := 167) hx hb dX8_atom_133 (by decide) (by omega) (by omega) (fun c133_9 => ?_) (fun c133_9 => ?_)
              · refine lv_iinc (v := (nI (k + 1))) (lv' := [(9, .int (nI (k + 1))), (6, .int (bI (gd))), (0, .ref x0), (1, .int (nI (q9))), (2, .int (bI (ro))), (4, .int (nI (a9))), (7, .int (nI (X))), (8, .int (nI (Y)))]) hx hb dX8_atom_167 hl (k := 0) rfl (q_inc _) (by decide) rfl (fun ls hl => ?_)
                refine lv_goto (tgt := 109) hx hb dX8_atom_170 (by decide) ?_
                exact ih109 (k + 1) ls _ _ (by omega) (show 4 * q9 ≤ (k + 1) ∧ (k + 1) ≤ 4 * q9 + qn q9 from by omega) (show m_no3 qx qy qz X a9 Y (4 * q9) (k + 1) from by (exact m_no3_s hno (fun h9 => by unfold m_is3 at h9; omega))) (lv_sub hl [0, 1, 2, 3, 4, 5, 6, 7] rfl) (hP.sub [0, 1, 2, 3, 4] rfl) (hD.sub [0, 1, 2, 3, 4] (by decide) rfl) hS
              · refine lv_aload_n hx hb dX8_atom_136 rfl (lv_at hl 2 rfl) ?_
                refine va_get (D := (dC, dI)) (ci := 8) (v := .ref z12) (C := RX8) (T := TX8) (N := 35) hx hb hts uX8 hown hK hP 0 rfl rfl 12 (by decide) (hts _ kfX8_37) (fun _ h9 => h9) rfl dX8_atom_137 ?_
                refine lv_iload hx hb dX8_atom_140 (lv_at hl 0 rfl) ?_
                refine q_ialdN hx hb hK hP 3 0 rfl rfl (j := k) (by omega) (by omega) dX8_atom_142 ?_
                have bd10 := hqy k
                refine lv_iload hx hb dX8_atom_143 (lv_at hl 5 rfl) ?_
                refine q_icmp_ne (x := qy k) (y := a9) (tgt := 167) hx hb dX8_atom_145 (by decide) (by omega) (by omega) (fun c145_11 => ?_) (fun c145_11 => ?_)
                · refine lv_iinc (v := (nI (k + 1))) (lv' := [(9, .int (nI (k + 1))), (6, .int (bI (gd))), (0, .ref x0), (1, .int (nI (q9))), (2, .int (bI (ro))), (4, .int (nI (a9))), (7, .int (nI (X))), (8, .int (nI (Y)))]) hx hb dX8_atom_167 hl (k := 0) rfl (q_inc _) (by decide) rfl (fun ls hl => ?_)
                  refine lv_goto (tgt := 109) hx hb dX8_atom_170 (by decide) ?_
                  exact ih109 (k + 1) ls _ _ (by omega) (show 4 * q9 ≤ (k + 1) ∧ (k + 1) ≤ 4 * q9 + qn q9 from by omega) (show m_no3 qx qy qz X a9 Y (4 * q9) (k + 1) from by (exact m_no3_s hno (fun h9 => by unfold m_is3 at h9; omega))) (lv_sub hl [0, 1, 2, 3, 4, 5, 6, 7] rfl) (hP.sub [0, 1, 2, 3, 4] rfl) (hD.sub [0, 1, 2, 3, 4] (by decide) rfl) hS
                · refine lv_aload_n hx hb dX8_atom_148 rfl (lv_at hl 2 rfl) ?_
                  refine va_get (D := (dC, dI)) (ci := 8) (v := .ref z13) (C := RX8) (T := TX8) (N := 35) hx hb hts uX8 hown hK hP 0 rfl rfl 13 (by decide) (hts _ kfX8_40) (fun _ h9 => h9) rfl dX8_atom_149 ?_
                  refine lv_iload hx hb dX8_atom_152 (lv_at hl 0 rfl) ?_
                  refine q_ialdN hx hb hK hP 4 0 rfl rfl (j := k) (by omega) (by omega) dX8_atom_154 ?_
                  have bd12 := hqz k
                  refine lv_iload hx hb dX8_atom_155 (lv_at hl 7 rfl) ?_
                  refine q_icmp_ne (x := qz k) (y := Y) (tgt := 167) hx hb dX8_atom_157 (by decide) (by omega) (by omega) (fun c157_13 => ?_) (fun c157_13 => ?_)
                  · refine lv_iinc (v := (nI (k + 1))) (lv' := [(9, .int (nI (k + 1))), (6, .int (bI (gd))), (0, .ref x0), (1, .int (nI (q9))), (2, .int (bI (ro))), (4, .int (nI (a9))), (7, .int (nI (X))), (8, .int (nI (Y)))]) hx hb dX8_atom_167 hl (k := 0) rfl (q_inc _) (by decide) rfl (fun ls hl => ?_)
                    refine lv_goto (tgt := 109) hx hb dX8_atom_170 (by decide) ?_
                    exact ih109 (k + 1) ls _ _ (by omega) (show 4 * q9 ≤ (k + 1) ∧ (k + 1) ≤ 4 * q9 + qn q9 from by omega) (show m_no3 qx qy qz X a9 Y (4 * q9) (k + 1) from by (exact m_no3_s hno (fun h9 => by unfold m_is3 at h9; omega))) (lv_sub hl [0, 1, 2, 3, 4, 5, 6, 7] rfl) (hP.sub [0, 1, 2, 3, 4] rfl) (hD.sub [0, 1, 2, 3, 4] (by decide) rfl) hS
                  · refine lv_aload_n hx hb dX8_atom_160 rfl (lv_at hl 2 rfl) ?_
                    refine va_get (D := (dC, dI)) (ci := 8) (v := .ref z10) (C := RX8) (T := TX8) (N := 35) hx hb hts uX8 hown hK hP 0 rfl rfl 10 (by decide) (hts _ kfX8_31) (fun _ h9 => h9) rfl dX8_atom_161 ?_
                    refine lv_iload_n hx hb dX8_atom_164 rfl (lv_at hl 3 rfl) ?_
                    refine q_ialdN hx hb hK hP 1 0 rfl rfl (j := q9) (by omega) (by omega) dX8_atom_165 ?_
                    have bd14 := hqn q9
                    subst hQ
                    subst hAe
                    have hP9 := hP.sub (ws' := [(x0, .inr (8, mO ax z1 z2 z3 fc z5 z6 z7 qs z9 z10 z11 z12 z13 hd lg fcn z17 z18 z19 md z21 z22 z23 z24 hc z26 z27 z28 z29 z30 z31 sm z33 z34)), (z10, .inl (cI, 6, .inl (nF qn))), (z11, .inl (cI, 24, .inl (nF qx))), (z12, .inl (cI, 24, .inl (nF qy))), (z13, .inl (cI, 24, .inl (nF qz)))]) [0, 1, 2, 3, 4] rfl
                    exact W.iret (v := (nI (qn q9))) hx hb hr (fun t9 h9 _ => ⟨⟨(nI (qn q9)), (nI (qn q9), qn, qx, qy, qz, hd), rfl, ⟨rfl, (show s_atm qs q ro x a b qn qx qy qz hd (nI (qn q9)) qn qx qy qz hd from by (exact Or.inr ⟨hgt, q9, a9, X, Y, hq8, eq9, ha8, ea9, hXY, Or.inl ⟨fun h9 => h9 k (by omega) (by omega) (by unfold m_is3; omega), rfl, rfl, rfl, rfl, rfl, rfl⟩⟩))⟩, by show va_P _ _ _ t9.heap; rw [h9]; exact hP9⟩, hS.F h9⟩) hS.2.2 dX8_atom_166
        exact L109 _ (4 * q9) ls _ _ (by exact Nat.lt_succ_self _) (show 4 * q9 ≤ (4 * q9) ∧ (4 * q9) ≤ 4 * q9 + qn q9 from by omega) (show m_no3 qx qy qz X a9 Y (4 * q9) (4 * q9) from by (intro j h1 h2; omega)) (lv_sub hl [0, 1, 2, 3, 4, 5, 6, 7] rfl) (hP.sub [0, 1, 2, 3, 4] rfl) (hD.sub [0, 1, 2, 3, 4] (by decide) rfl) hS
      refine q_ifb_eq (b := ro) (tgt := 88) hx hb dX8_atom_78 (by decide) (fun c78_15 => ?_) (fun c78_15 => ?_)
      · obtain ⟨x9, hx8, ex9⟩ := m_atg_c hgt (by assumption)
        have hl := lv_updv hl 4 rfl (show (.int (x) : Value) = .int (nI (x9)) from (congrArg Value.int ex9))
        have hl : lv_has ls 10 [(6, .int (bI (gd))), (0, .ref x0), (1, .int (nI (q9))), (2, .int (bI (ro))), (3, .int (nI (x9))), (4, .int (nI (a9))), (5, .int (b))] := hl
        refine lv_iload_n hx hb dX8_atom_88 rfl (lv_at hl 4 rfl) ?_
        refine lv_istore (lv' := [(7, .int (nI (x9))), (6, .int (bI (gd))), (0, .ref x0), (1, .int (nI (q9))), (2, .int (bI (ro))), (3, .int (nI (x9))), (4, .int (nI (a9))), (5, .int (b))]) hx hb dX8_atom_89 hl (by decide) rfl (fun ls hl => ?_)
        refine lv_iload_n hx hb dX8_atom_91 rfl (lv_at hl 4 rfl) ?_
        refine q_ifb_eq (b := ro) (tgt := 100) hx hb dX8_atom_92 (by decide) (fun c92_16 => ?_) (fun c92_16 => ?_)
        · refine lv_bipush (v := (nI (7))) hx hb dX8_atom_100 (by decide) ?_
          refine lv_istore (lv' := [(8, .int (nI (7))), (7, .int (nI (x9))), (6, .int (bI (gd))), (0, .ref x0), (1, .int (nI (q9))), (2, .int (bI (ro))), (3, .int (nI (x9))), (4, .int (nI (a9))), (5, .int (b))]) hx hb dX8_atom_102 hl (by decide) rfl (fun ls hl => ?_)
          exact L104 x9 7 ls _ _ (show m_atx ro x b x9 7 from by (first | (exact b_no (x := ro) (by assumption) (by assumption)) | (exact Or.inl ⟨by assumption, x9, b9, hx8, hb8, ex9, eb9, rfl, rfl⟩) | (exact Or.inr ⟨by assumption, x9, hx8, ex9, rfl, rfl⟩))) (show x9 < 64 from by omega) (show 7 < 16 from by omega) (lv_sub hl [2, 3, 4, 5, 7, 1, 0] rfl) (hP.sub [0, 1, 2, 3, 4] rfl) (hD.sub [0, 1, 2, 3, 4] (by decide) rfl) hS
        · exact b_no (x := ro) (by assumption) (by assumption)
      · obtain ⟨x9, b9, hx8, hb8, ex9, eb9⟩ := m_atg_r hgt (by assumption)
        have hl := lv_updv hl 4 rfl (show (.int (x) : Value) = .int (nI (x9)) from (congrArg Value.int ex9))
        have hl : lv_has ls 10 [(6, .int (bI (gd))), (0, .ref x0), (1, .int (nI (q9))), (2, .int (bI (ro))), (3, .int (nI (x9))), (4, .int (nI (a9))), (5, .int (b))] := hl
        have hl := lv_updv hl 6 rfl (show (.int (b) : Value) = .int (nI (b9)) from (congrArg Value.int eb9))
        have hl : lv_has ls 10 [(6, .int (bI (gd))), (0, .ref x0), (1, .int (nI (q9))), (2, .int (bI (ro))), (3, .int (nI (x9))), (4, .int (nI (a9))), (5, .int (nI (b9)))] := hl
        refine lv_bipush (v := (nI (32))) hx hb dX8_atom_81 (by decide) ?_
        refine lv_iload_n hx hb dX8_atom_83 rfl (lv_at hl 4 rfl) ?_
        refine q_iadd (x := 32) (y := x9) hx hb dX8_atom_84 ?_
        refine lv_goto (tgt := 89) hx hb dX8_atom_85 (by decide) ?_
        refine lv_istore (lv' := [(7, .int (nI (32 + x9))), (6, .int (bI (gd))), (0, .ref x0), (1, .int (nI (q9))), (2, .int (bI (ro))), (3, .int (nI (x9))), (4, .int (nI (a9))), (5, .int (nI (b9)))]) hx hb dX8_atom_89 hl (by decide) rfl (fun ls hl => ?_)
        refine lv_iload_n hx hb dX8_atom_91 rfl (lv_at hl 4 rfl) ?_
        refine q_ifb_eq (b := ro) (tgt := 100) hx hb dX8_atom_92 (by decide) (fun c92_17 => ?_) (fun c92_17 => ?_)
        · refine lv_bipush (v := (nI (7))) hx hb dX8_atom_100 (by decide) ?_
          refine lv_istore (lv' := [(8, .int (nI (7))), (7, .int (nI (32 + x9))), (6, .int (bI (gd))), (0, .ref x0), (1, .int (nI (q9))), (2, .int (bI (ro))), (3, .int (nI (x9))), (4, .int (nI (a9))), (5, .int (nI (b9)))]) hx hb dX8_atom_102 hl (by decide) rfl (fun ls hl => ?_)
          exact L104 (32 + x9) 7 ls _ _ (show m_atx ro x b (32 + x9) 7 from by (first | (exact b_no (x := ro) (by assumption) (by assumption)) | (exact Or.inl ⟨by assumption, x9, b9, hx8, hb8, ex9, eb9, rfl, rfl⟩) | (exact Or.inr ⟨by assumption, x9, hx8, ex9, rfl, rfl⟩))) (show (32 + x9) < 64 from by omega) (show 7 < 16 from by omega) (lv_sub hl [2, 3, 4, 5, 7, 1, 0] rfl) (hP.sub [0, 1, 2, 3, 4] rfl) (hD.sub [0, 1, 2, 3, 4] (by decide) rfl) hS
        · refine lv_iload hx hb dX8_atom_95 (lv_at hl 7 rfl) ?_
          refine lv_goto (tgt := 102) hx hb dX8_atom_97 (by decide) ?_
          refine lv_istore (lv' := [(8, .int (nI (b9))), (7, .int (nI (32 + x9))), (6, .int (bI (gd))), (0, .ref x0), (1, .int (nI (q9))), (2, .int (bI (ro))), (3, .int (nI (x9))), (4, .int (nI (a9))), (5, .int (nI (b9)))]) hx hb dX8_atom_102 hl (by decide) rfl (fun ls hl => ?_)
          exact L104 (32 + x9) b9 ls _ _ (show m_atx ro x b (32 + x9) b9 from by (first | (exact b_no (x := ro) (by assumption) (by assumption)) | (exact Or.inl ⟨by assumption, x9, b9, hx8, hb8, ex9, eb9, rfl, rfl⟩) | (exact Or.inr ⟨by assumption, x9, hx8, ex9, rfl, rfl⟩))) (show (32 + x9) < 64 from by omega) (show b9 < 16 from by omega) (lv_sub hl [2, 3, 4, 5, 7, 1, 0] rfl) (hP.sub [0, 1, 2, 3, 4] rfl) (hD.sub [0, 1, 2, 3, 4] (by decide) rfl) hS
    · refine lv_iconst (v := (oI (none))) hx hb dX8_atom_75 (by decide) ?_
      subst hQ
      subst hAe
      have hP9 := hP.sub (ws' := [(x0, .inr (8, mO ax z1 z2 z3 fc z5 z6 z7 qs z9 z10 z11 z12 z13 hd lg fcn z17 z18 z19 md z21 z22 z23 z24 hc z26 z27 z28 z29 z30 z31 sm z33 z34)), (z10, .inl (cI, 6, .inl (nF qn))), (z11, .inl (cI, 24, .inl (nF qx))), (z12, .inl (cI, 24, .inl (nF qy))), (z13, .inl (cI, 24, .inl (nF qz)))]) [0, 1, 2, 3, 4] rfl
      exact W.iret (v := (oI (none))) hx hb hr (fun t9 h9 _ => ⟨⟨(oI (none)), (oI (none), qn, qx, qy, qz, hd), rfl, ⟨rfl, (show s_atm qs q ro x a b qn qx qy qz hd (oI (none)) qn qx qy qz hd from by (exact Or.inl ⟨hgd.symm.trans (by assumption), rfl, rfl, rfl, rfl, rfl, rfl⟩))⟩, by show va_P _ _ _ t9.heap; rw [h9]; exact hP9⟩, hS.F h9⟩) hS.2.2 dX8_atom_76
  refine lv_iload_n hx hb dX8_atom_0 rfl (lv_at hl 1 rfl) ?_
  refine lv_iconst (v := (nI (0))) hx hb dX8_atom_1 (by decide) ?_
  refine lv_aload_n hx hb dX8_atom_2 rfl (lv_at hl 0 rfl) ?_
  refine va_get (D := (dC, dI)) (ci := 8) (v := .int (nI (qs))) (C := RX8) (T := TX8) (N := 35) hx hb hts uX8 hown hK hP 0 rfl rfl 8 (by decide) (hts _ kfX8_115) (fun _ h9 => h9) rfl dX8_atom_3 ?_
  refine lv_iconst (v := (nI (1))) hx hb dX8_atom_6 (by decide) ?_
  refine lv_isub hx hb dX8_atom_7 ?_
  refine vp_callSi (va_Run.run (va_runS (As := [.int (q), .int (nI (0)), .int ((nI (qs)) - (nI (1)))]) (rest := []) ⟨hx, hb, hml, hown, hts⟩ (c_Model_isIn l dC dI cI cL cQ cZ q (nI (0)) ((nI (qs)) - (nI (1))) ) (q_cwS 3 hts gkX8_isIn kmX8_93 ksX8_isIn kiX8 rfl rfl rfl (by decide +kernel) ⟨Nat.le_of_ble_eq_true rfl, Nat.le_of_ble_eq_true rfl⟩) (q_preS hK hP [] rfl) rfl rfl hl.1 rfl (lv_room (Nat.le_of_ble_eq_true rfl)) dX8_atom_8 ⟨Nat.zero_le _, Nat.zero_le _⟩)) (fun r18 hr18 => ?_)
  subst hr18
  refine q_ifb_eq (b := m_in q (nI (0)) ((nI (qs)) - (nI (1)))) (tgt := 67) hx hb dX8_atom_11 (by decide) (fun c11_19 => ?_) (fun c11_19 => ?_)
  · refine lv_iconst (v := (nI (0))) hx hb dX8_atom_67 (by decide) ?_
    exact L68 false ls _ _ (show false = m_atg qs q ro x a b from by (simp_all [m_atg])) (lv_sub hl [0, 1, 2, 3, 4, 5] rfl) (hP.sub [0, 1, 2, 3, 4] rfl) (hD.sub [0, 1, 2, 3, 4] (by decide) rfl) hS
  · refine lv_iload hx hb dX8_atom_14 (lv_at hl 4 rfl) ?_
    refine lv_iconst (v := (nI (0))) hx hb dX8_atom_16 (by decide) ?_
    refine lv_bipush (v := (nI (7))) hx hb dX8_atom_17 (by decide) ?_
    refine vp_callSi (va_Run.run (va_runS (As := [.int (a), .int (nI (0)), .int (nI (7))]) (rest := []) ⟨hx, hb, hml, hown, hts⟩ (c_Model_isIn l dC dI cI cL cQ cZ a (nI (0)) (nI (7)) ) (q_cwS 3 hts gkX8_isIn kmX8_93 ksX8_isIn kiX8 rfl rfl rfl (by decide +kernel) ⟨Nat.le_of_ble_eq_true rfl, Nat.le_of_ble_eq_true rfl⟩) (q_preS hK hP [] rfl) rfl rfl hl.1 rfl (lv_room (Nat.le_of_ble_eq_true rfl)) dX8_atom_19 ⟨Nat.zero_le _, Nat.zero_le _⟩)) (fun r20 hr20 => ?_)
    subst hr20
    refine q_ifb_eq (b := m_in a (nI (0)) (nI (7))) (tgt := 67) hx hb dX8_atom_22 (by decide) (fun c22_21 => ?_) (fun c22_21 => ?_)
    · refine lv_iconst (v := (nI (0))) hx hb dX8_atom_67 (by decide) ?_
      exact L68 false ls _ _ (show false = m_atg qs q ro x a b from by (simp_all [m_atg])) (lv_sub hl [0, 1, 2, 3, 4, 5] rfl) (hP.sub [0, 1, 2, 3, 4] rfl) (hD.sub [0, 1, 2, 3, 4] (by decide) rfl) hS
    · refine lv_iload_n hx hb dX8_atom_25 rfl (lv_at hl 2 rfl) ?_
      refine q_ifb_eq (b := ro) (tgt := 53) hx hb dX8_atom_26 (by decide) (fun c26_22 => ?_) (fun c26_22 => ?_)
      · refine lv_iload_n hx hb dX8_atom_53 rfl (lv_at hl 3 rfl) ?_
        refine lv_iconst (v := (nI (0))) hx hb dX8_atom_54 (by decide) ?_
        refine lv_bipush (v := (nI (9))) hx hb dX8_atom_55 (by decide) ?_
        refine vp_callSi (va_Run.run (va_runS (As := [.int (x), .int (nI (0)), .int (nI (9))]) (rest := []) ⟨hx, hb, hml, hown, hts⟩ (c_Model_isIn l dC dI cI cL cQ cZ x (nI (0)) (nI (9)) ) (q_cwS 3 hts gkX8_isIn kmX8_93 ksX8_isIn kiX8 rfl rfl rfl (by decide +kernel) ⟨Nat.le_of_ble_eq_true rfl, Nat.le_of_ble_eq_true rfl⟩) (q_preS hK hP [] rfl) rfl rfl hl.1 rfl (lv_room (Nat.le_of_ble_eq_true rfl)) dX8_atom_57 ⟨Nat.zero_le _, Nat.zero_le _⟩)) (fun r23 hr23 => ?_)
        subst hr23
        refine q_ifb_eq (b := m_in x (nI (0)) (nI (9))) (tgt := 67) hx hb dX8_atom_60 (by decide) (fun c60_24 => ?_) (fun c60_24 => ?_)
        · refine lv_iconst (v := (nI (0))) hx hb dX8_atom_67 (by decide) ?_
          exact L68 false ls _ _ (show false = m_atg qs q ro x a b from by (simp_all [m_atg])) (lv_sub hl [0, 1, 2, 3, 4, 5] rfl) (hP.sub [0, 1, 2, 3, 4] rfl) (hD.sub [0, 1, 2, 3, 4] (by decide) rfl) hS
        · refine lv_iconst (v := (nI (1))) hx hb dX8_atom_63 (by decide) ?_
          refine lv_goto (tgt := 68) hx hb dX8_atom_64 (by decide) ?_
          exact L68 true ls _ _ (show true = m_atg qs q ro x a b from by (simp_all [m_atg])) (lv_sub hl [0, 1, 2, 3, 4, 5] rfl) (hP.sub [0, 1, 2, 3, 4] rfl) (hD.sub [0, 1, 2, 3, 4] (by decide) rfl) hS
      · refine lv_iload_n hx hb dX8_atom_29 rfl (lv_at hl 3 rfl) ?_
        refine lv_iconst (v := (nI (0))) hx hb dX8_atom_30 (by decide) ?_
        refine lv_bipush (v := (nI (7))) hx hb dX8_atom_31 (by decide) ?_
        refine vp_callSi (va_Run.run (va_runS (As := [.int (x), .int (nI (0)), .int (nI (7))]) (rest := []) ⟨hx, hb, hml, hown, hts⟩ (c_Model_isIn l dC dI cI cL cQ cZ x (nI (0)) (nI (7)) ) (q_cwS 3 hts gkX8_isIn kmX8_93 ksX8_isIn kiX8 rfl rfl rfl (by decide +kernel) ⟨Nat.le_of_ble_eq_true rfl, Nat.le_of_ble_eq_true rfl⟩) (q_preS hK hP [] rfl) rfl rfl hl.1 rfl (lv_room (Nat.le_of_ble_eq_true rfl)) dX8_atom_33 ⟨Nat.zero_le _, Nat.zero_le _⟩)) (fun r25 hr25 => ?_)
        subst hr25
        refine q_ifb_eq (b := m_in x (nI (0)) (nI (7))) (tgt := 67) hx hb dX8_atom_36 (by decide) (fun c36_26 => ?_) (fun c36_26 => ?_)
        · refine lv_iconst (v := (nI (0))) hx hb dX8_atom_67 (by decide) ?_
          exact L68 false ls _ _ (show false = m_atg qs q ro x a b from by (simp_all [m_atg])) (lv_sub hl [0, 1, 2, 3, 4, 5] rfl) (hP.sub [0, 1, 2, 3, 4] rfl) (hD.sub [0, 1, 2, 3, 4] (by decide) rfl) hS
        · refine lv_iload hx hb dX8_atom_39 (lv_at hl 5 rfl) ?_
          refine lv_iconst (v := (nI (0))) hx hb dX8_atom_41 (by decide) ?_
          refine lv_bipush (v := (nI (7))) hx hb dX8_atom_42 (by decide) ?_
          refine vp_callSi (va_Run.run (va_runS (As := [.int (b), .int (nI (0)), .int (nI (7))]) (rest := []) ⟨hx, hb, hml, hown, hts⟩ (c_Model_isIn l dC dI cI cL cQ cZ b (nI (0)) (nI (7)) ) (q_cwS 3 hts gkX8_isIn kmX8_93 ksX8_isIn kiX8 rfl rfl rfl (by decide +kernel) ⟨Nat.le_of_ble_eq_true rfl, Nat.le_of_ble_eq_true rfl⟩) (q_preS hK hP [] rfl) rfl rfl hl.1 rfl (lv_room (Nat.le_of_ble_eq_true rfl)) dX8_atom_44 ⟨Nat.zero_le _, Nat.zero_le _⟩)) (fun r27 hr27 => ?_)
          subst hr27
          refine q_ifb_eq (b := m_in b (nI (0)) (nI (7))) (tgt := 67) hx hb dX8_atom_47 (by decide) (fun c47_28 => ?_) (fun c47_28 => ?_)
          · refine lv_iconst (v := (nI (0))) hx hb dX8_atom_67 (by decide) ?_
            exact L68 false ls _ _ (show false = m_atg qs q ro x a b from by (simp_all [m_atg])) (lv_sub hl [0, 1, 2, 3, 4, 5] rfl) (hP.sub [0, 1, 2, 3, 4] rfl) (hD.sub [0, 1, 2, 3, 4] (by decide) rfl) hS
          · refine lv_goto (tgt := 63) hx hb dX8_atom_50 (by decide) ?_
            refine lv_iconst (v := (nI (1))) hx hb dX8_atom_63 (by decide) ?_
            refine lv_goto (tgt := 68) hx hb dX8_atom_64 (by decide) ?_
            exact L68 true ls _ _ (show true = m_atg qs q ro x a b from by (simp_all [m_atg])) (lv_sub hl [0, 1, 2, 3, 4, 5] rfl) (hP.sub [0, 1, 2, 3, 4] rfl) (hD.sub [0, 1, 2, 3, 4] (by decide) rfl) hS
