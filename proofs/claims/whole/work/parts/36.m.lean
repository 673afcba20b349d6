def m_cl (ρ : Nat → Option Nat) (x o : Nat) : Prop := x ≠ 6 ∧ ∃ u, ρ x = some u ∧ u ≠ o
def m_r1 (ρ : Nat → Option Nat) (x o : Nat) : Nat → Option Nat := va_up ρ x (if x = 6 then none else some o)
/-- atom of code c by a fact (x9, o1, o2): row ρ of what is bound goes to ρ' -/
def m_bn (ρ : Nat → Option Nat) (c x9 o1 o2 : Nat) (b : Bool) (ρ' : Nat → Option Nat) : Prop :=
  (¬ x9 = c / 64 ∧ b = false) ∨ (x9 = c / 64 ∧ m_cl ρ (c / 8 % 8) o1 ∧ b = false) ∨
  (x9 = c / 64 ∧ ¬ m_cl ρ (c / 8 % 8) o1 ∧ (c / 64 < 32 ∨ c % 8 = 6) ∧ b = true ∧ ∀ v, v < 8 → ρ' v = m_r1 ρ (c / 8 % 8) o1 v) ∨
  (x9 = c / 64 ∧ ¬ m_cl ρ (c / 8 % 8) o1 ∧ (32 ≤ c / 64 ∧ c % 8 ≠ 6) ∧ (b = true ↔ m_r1 ρ (c / 8 % 8) o1 (c % 8) = none ∨ m_r1 ρ (c / 8 % 8) o1 (c % 8) = some o2) ∧ ∀ v, v < 8 → ρ' v = va_up (m_r1 ρ (c / 8 % 8) o1) (c % 8) (some o2) v)
def m_cp (bd : Nat → Option Nat) (d v : Nat) : Nat → Option Nat := fun j => if 8 * (d + 1) ≤ j ∧ j < 8 * (d + 1) + v then bd (j - 8) else bd j
theorem m_cp_0 (bd : Nat → Option Nat) (d : Nat) : m_cp bd d 0 = bd := by
  funext j; unfold m_cp; rw [if_neg (by omega)]
theorem m_cp_lo {bd : Nat → Option Nat} {d v j : Nat} (h : j < 8 * (d + 1)) : m_cp bd d v j = bd j := by
  unfold m_cp; rw [if_neg (by omega)]
theorem m_cp_s {bd : Nat → Option Nat} {d v : Nat} (h : v < 8) : va_up (m_cp bd d v) (8 * (d + 1) + v) (m_cp bd d v (8 * d + v)) = m_cp bd d (v + 1) := by
  rw [m_cp_lo (by omega)]
  funext j
  by_cases hj : j = 8 * (d + 1) + v
  · rw [hj, up_s]; unfold m_cp; rw [if_pos (by omega), show 8 * (d + 1) + v - 8 = 8 * d + v by omega]
  · rw [up_n _ _ hj]; unfold m_cp
    by_cases h2 : 8 * (d + 1) ≤ j ∧ j < 8 * (d + 1) + v
    · rw [if_pos h2, if_pos (by omega)]
    · rw [if_neg h2, if_neg (by omega)]
theorem m_cp_lt {bd : Nat → Option Nat} {d v b : Nat} (h : ∀ j k, bd j = some k → k < b) : ∀ j k, m_cp bd d v j = some k → k < b := by
  intro j k hk
  unfold m_cp at hk
  split at hk
  · exact h _ _ hk
  · exact h _ _ hk
theorem m_cp_row {bd : Nat → Option Nat} {d v : Nat} (h : v < 8) : m_cp bd d 8 (8 * (d + 1) + v) = bd (8 * d + v) := by
  unfold m_cp; rw [if_pos (by omega), show 8 * (d + 1) + v - 8 = 8 * d + v by omega]
theorem m_cp_hi {bd : Nat → Option Nat} {d x y : Nat} {o : Option Nat} (hy : y < 8) : va_up (m_cp bd d 8) (8 * (d + 1) + x) o (8 * (d + 1) + y) = va_up (fun v => bd (8 * d + v)) x o y := by
  by_cases h : y = x
  · rw [h, up_s, up_s]
  · rw [up_n _ _ (show 8 * (d + 1) + y ≠ 8 * (d + 1) + x by omega), up_n _ _ h]; exact m_cp_row hy
theorem m_cp_hi2 {bd : Nat → Option Nat} {d x z y : Nat} {o o2 : Option Nat} (hy : y < 8) : va_up (va_up (m_cp bd d 8) (8 * (d + 1) + x) o) (8 * (d + 1) + z) o2 (8 * (d + 1) + y) = va_up (va_up (fun v => bd (8 * d + v)) x o) z o2 y := by
  by_cases h : y = z
  · rw [h, up_s, up_s]
  · rw [up_n _ _ (show 8 * (d + 1) + y ≠ 8 * (d + 1) + z by omega), up_n _ _ h]; exact m_cp_hi hy
theorem up_oltn {g : Nat → Option Nat} {k b : Nat} {o : Option Nat} (h : ∀ j m, g j = some m → m < b) (ho : ∀ m, o = some m → m < b) : ∀ j m, va_up g k o j = some m → m < b := by
  intro j m hm
  by_cases hj : j = k
  · rw [hj, up_s] at hm; exact ho m hm
  · rw [up_n _ _ hj] at hm; exact h j m hm
theorem if_olt {x o b : Nat} (ho : o < b) : ∀ m, (if x = 6 then none else some o) = some m → m < b := by
  intro m h
  split at h
  · cases h
  · cases h; exact ho
theorem m_ncl_n {ρ : Nat → Option Nat} {x o : Nat} (h : ρ x = none) : ¬ m_cl ρ x o := fun ⟨_, u, h1, _⟩ => by rw [h] at h1; cases h1
theorem m_ncl_e {ρ : Nat → Option Nat} {x o u : Nat} (h : ρ x = some u) (h2 : u = o) : ¬ m_cl ρ x o := fun ⟨_, w, h1, h3⟩ => by rw [h] at h1; cases h1; exact h3 h2
theorem m_bf {x : Option Nat} {u o : Nat} (h : x = some u) (h2 : ¬ u = o) : false = true ↔ x = none ∨ x = some o := by
  refine ⟨fun h3 => (by cases h3), fun h3 => ?_⟩
  rcases h3 with h3 | h3
  · rw [h] at h3; cases h3
  · rw [h] at h3; cases h3; exact absurd rfl h2
abbrev cX8_binds : ByteArray := prog_10_method_35_code
def yX8_binds : MethodName := ⟨RX8, "binds", "(III)Z"⟩
def wkX8_binds : List Cond := .code yX8_binds cX8_binds 8 (some .boolean) :: qW
set_option maxRecDepth 40000 in
theorem gkX8_binds : GoodIn qW wkX8_binds := q_good (qw 821 rfl rfl)
set_option maxRecDepth 40000 in
theorem knX8_binds : Cond.instanceMethod yX8_binds ∈ qW := qw 820 rfl rfl
set_option maxRecDepth 40000 in
theorem klX8_binds : Cond.selects RX8 yX8_binds yX8_binds ∈ qW := qw 41 rfl rfl
theorem dX8_binds_0 : decode cX8_binds 0 = .ok (.aload_n 0, 1) := by decide +kernel
theorem dX8_binds_1 : decode cX8_binds 1 = .ok (.getfield 50, 3) := by decide +kernel
theorem dX8_binds_4 : decode cX8_binds 4 = .ok (.iconst 4, 1) := by decide +kernel
theorem dX8_binds_5 : decode cX8_binds 5 = .ok (.iload_n 1, 1) := by decide +kernel
theorem dX8_binds_6 : decode cX8_binds 6 = .ok (.imul, 1) := by decide +kernel
theorem dX8_binds_7 : decode cX8_binds 7 = .ok (.iload_n 2, 1) := by decide +kernel
theorem dX8_binds_8 : decode cX8_binds 8 = .ok (.iadd, 1) := by decide +kernel
theorem dX8_binds_9 : decode cX8_binds 9 = .ok (.iaload, 1) := by decide +kernel
theorem dX8_binds_10 : decode cX8_binds 10 = .ok (.istore 4, 2) := by decide +kernel
theorem dX8_binds_12 : decode cX8_binds 12 = .ok (.iload 4, 2) := by decide +kernel
theorem dX8_binds_14 : decode cX8_binds 14 = .ok (.bipush 8, 2) := by decide +kernel
theorem dX8_binds_16 : decode cX8_binds 16 = .ok (.idiv, 1) := by decide +kernel
theorem dX8_binds_17 : decode cX8_binds 17 = .ok (.bipush 8, 2) := by decide +kernel
theorem dX8_binds_19 : decode cX8_binds 19 = .ok (.irem, 1) := by decide +kernel
theorem dX8_binds_20 : decode cX8_binds 20 = .ok (.istore 5, 2) := by decide +kernel
theorem dX8_binds_22 : decode cX8_binds 22 = .ok (.iload 4, 2) := by decide +kernel
theorem dX8_binds_24 : decode cX8_binds 24 = .ok (.bipush 8, 2) := by decide +kernel
theorem dX8_binds_26 : decode cX8_binds 26 = .ok (.irem, 1) := by decide +kernel
theorem dX8_binds_27 : decode cX8_binds 27 = .ok (.istore 6, 2) := by decide +kernel
theorem dX8_binds_29 : decode cX8_binds 29 = .ok (.aload_n 0, 1) := by decide +kernel
theorem dX8_binds_30 : decode cX8_binds 30 = .ok (.getfield 19, 3) := by decide +kernel
theorem dX8_binds_33 : decode cX8_binds 33 = .ok (.iload_n 3, 1) := by decide +kernel
theorem dX8_binds_34 : decode cX8_binds 34 = .ok (.iaload, 1) := by decide +kernel
theorem dX8_binds_35 : decode cX8_binds 35 = .ok (.iload 4, 2) := by decide +kernel
theorem dX8_binds_37 : decode cX8_binds 37 = .ok (.bipush 64, 2) := by decide +kernel
theorem dX8_binds_39 : decode cX8_binds 39 = .ok (.idiv, 1) := by decide +kernel
theorem dX8_binds_40 : decode cX8_binds 40 = .ok (.if_icmp .eq 5, 3) := by decide +kernel
theorem dX8_binds_43 : decode cX8_binds 43 = .ok (.iconst 0, 1) := by decide +kernel
theorem dX8_binds_44 : decode cX8_binds 44 = .ok (.ireturn, 1) := by decide +kernel
theorem dX8_binds_45 : decode cX8_binds 45 = .ok (.iconst 0, 1) := by decide +kernel
theorem dX8_binds_46 : decode cX8_binds 46 = .ok (.istore 7, 2) := by decide +kernel
theorem dX8_binds_48 : decode cX8_binds 48 = .ok (.iload 7, 2) := by decide +kernel
theorem dX8_binds_50 : decode cX8_binds 50 = .ok (.bipush 8, 2) := by decide +kernel
theorem dX8_binds_52 : decode cX8_binds 52 = .ok (.if_icmp .ge 35, 3) := by decide +kernel
theorem dX8_binds_55 : decode cX8_binds 55 = .ok (.aload_n 0, 1) := by decide +kernel
theorem dX8_binds_56 : decode cX8_binds 56 = .ok (.getfield 87, 3) := by decide +kernel
theorem dX8_binds_59 : decode cX8_binds 59 = .ok (.bipush 8, 2) := by decide +kernel
theorem dX8_binds_61 : decode cX8_binds 61 = .ok (.iload_n 2, 1) := by decide +kernel
theorem dX8_binds_62 : decode cX8_binds 62 = .ok (.iconst 1, 1) := by decide +kernel
theorem dX8_binds_63 : decode cX8_binds 63 = .ok (.iadd, 1) := by decide +kernel
theorem dX8_binds_64 : decode cX8_binds 64 = .ok (.imul, 1) := by decide +kernel
theorem dX8_binds_65 : decode cX8_binds 65 = .ok (.iload 7, 2) := by decide +kernel
theorem dX8_binds_67 : decode cX8_binds 67 = .ok (.iadd, 1) := by decide +kernel
theorem dX8_binds_68 : decode cX8_binds 68 = .ok (.aload_n 0, 1) := by decide +kernel
theorem dX8_binds_69 : decode cX8_binds 69 = .ok (.getfield 87, 3) := by decide +kernel
theorem dX8_binds_72 : decode cX8_binds 72 = .ok (.bipush 8, 2) := by decide +kernel
theorem dX8_binds_74 : decode cX8_binds 74 = .ok (.iload_n 2, 1) := by decide +kernel
theorem dX8_binds_75 : decode cX8_binds 75 = .ok (.imul, 1) := by decide +kernel
theorem dX8_binds_76 : decode cX8_binds 76 = .ok (.iload 7, 2) := by decide +kernel
theorem dX8_binds_78 : decode cX8_binds 78 = .ok (.iadd, 1) := by decide +kernel
theorem dX8_binds_79 : decode cX8_binds 79 = .ok (.iaload, 1) := by decide +kernel
theorem dX8_binds_80 : decode cX8_binds 80 = .ok (.iastore, 1) := by decide +kernel
theorem dX8_binds_81 : decode cX8_binds 81 = .ok (.iinc 7 1, 3) := by decide +kernel
theorem dX8_binds_84 : decode cX8_binds 84 = .ok (.goto (-36), 3) := by decide +kernel
theorem dX8_binds_87 : decode cX8_binds 87 = .ok (.iload 5, 2) := by decide +kernel
theorem dX8_binds_89 : decode cX8_binds 89 = .ok (.bipush 6, 2) := by decide +kernel
theorem dX8_binds_91 : decode cX8_binds 91 = .ok (.if_icmp .eq 41, 3) := by decide +kernel
theorem dX8_binds_94 : decode cX8_binds 94 = .ok (.aload_n 0, 1) := by decide +kernel
theorem dX8_binds_95 : decode cX8_binds 95 = .ok (.getfield 87, 3) := by decide +kernel
theorem dX8_binds_98 : decode cX8_binds 98 = .ok (.bipush 8, 2) := by decide +kernel
theorem dX8_binds_100 : decode cX8_binds 100 = .ok (.iload_n 2, 1) := by decide +kernel
theorem dX8_binds_101 : decode cX8_binds 101 = .ok (.imul, 1) := by decide +kernel
theorem dX8_binds_102 : decode cX8_binds 102 = .ok (.iload 5, 2) := by decide +kernel
theorem dX8_binds_104 : decode cX8_binds 104 = .ok (.iadd, 1) := by decide +kernel
theorem dX8_binds_105 : decode cX8_binds 105 = .ok (.iaload, 1) := by decide +kernel
theorem dX8_binds_106 : decode cX8_binds 106 = .ok (.ifCond .lt 26, 3) := by decide +kernel
theorem dX8_binds_109 : decode cX8_binds 109 = .ok (.aload_n 0, 1) := by decide +kernel
theorem dX8_binds_110 : decode cX8_binds 110 = .ok (.getfield 87, 3) := by decide +kernel
theorem dX8_binds_113 : decode cX8_binds 113 = .ok (.bipush 8, 2) := by decide +kernel
theorem dX8_binds_115 : decode cX8_binds 115 = .ok (.iload_n 2, 1) := by decide +kernel
theorem dX8_binds_116 : decode cX8_binds 116 = .ok (.imul, 1) := by decide +kernel
theorem dX8_binds_117 : decode cX8_binds 117 = .ok (.iload 5, 2) := by decide +kernel
theorem dX8_binds_119 : decode cX8_binds 119 = .ok (.iadd, 1) := by decide +kernel
theorem dX8_binds_120 : decode cX8_binds 120 = .ok (.iaload, 1) := by decide +kernel
theorem dX8_binds_121 : decode cX8_binds 121 = .ok (.aload_n 0, 1) := by decide +kernel
theorem dX8_binds_122 : decode cX8_binds 122 = .ok (.getfield 22, 3) := by decide +kernel
theorem dX8_binds_125 : decode cX8_binds 125 = .ok (.iload_n 3, 1) := by decide +kernel
theorem dX8_binds_126 : decode cX8_binds 126 = .ok (.iaload, 1) := by decide +kernel
theorem dX8_binds_127 : decode cX8_binds 127 = .ok (.if_icmp .eq 5, 3) := by decide +kernel
theorem dX8_binds_130 : decode cX8_binds 130 = .ok (.iconst 0, 1) := by decide +kernel
theorem dX8_binds_131 : decode cX8_binds 131 = .ok (.ireturn, 1) := by decide +kernel
theorem dX8_binds_132 : decode cX8_binds 132 = .ok (.aload_n 0, 1) := by decide +kernel
theorem dX8_binds_133 : decode cX8_binds 133 = .ok (.getfield 87, 3) := by decide +kernel
theorem dX8_binds_136 : decode cX8_binds 136 = .ok (.bipush 8, 2) := by decide +kernel
theorem dX8_binds_138 : decode cX8_binds 138 = .ok (.iload_n 2, 1) := by decide +kernel
theorem dX8_binds_139 : decode cX8_binds 139 = .ok (.iconst 1, 1) := by decide +kernel
theorem dX8_binds_140 : decode cX8_binds 140 = .ok (.iadd, 1) := by decide +kernel
theorem dX8_binds_141 : decode cX8_binds 141 = .ok (.imul, 1) := by decide +kernel
theorem dX8_binds_142 : decode cX8_binds 142 = .ok (.iload 5, 2) := by decide +kernel
theorem dX8_binds_144 : decode cX8_binds 144 = .ok (.iadd, 1) := by decide +kernel
theorem dX8_binds_145 : decode cX8_binds 145 = .ok (.iload 5, 2) := by decide +kernel
theorem dX8_binds_147 : decode cX8_binds 147 = .ok (.bipush 6, 2) := by decide +kernel
theorem dX8_binds_149 : decode cX8_binds 149 = .ok (.if_icmp .ne 7, 3) := by decide +kernel
theorem dX8_binds_152 : decode cX8_binds 152 = .ok (.iconst (-1), 1) := by decide +kernel
theorem dX8_binds_153 : decode cX8_binds 153 = .ok (.goto 9, 3) := by decide +kernel
theorem dX8_binds_156 : decode cX8_binds 156 = .ok (.aload_n 0, 1) := by decide +kernel
theorem dX8_binds_157 : decode cX8_binds 157 = .ok (.getfield 22, 3) := by decide +kernel
theorem dX8_binds_160 : decode cX8_binds 160 = .ok (.iload_n 3, 1) := by decide +kernel
theorem dX8_binds_161 : decode cX8_binds 161 = .ok (.iaload, 1) := by decide +kernel
theorem dX8_binds_162 : decode cX8_binds 162 = .ok (.iastore, 1) := by decide +kernel
theorem dX8_binds_163 : decode cX8_binds 163 = .ok (.iload 4, 2) := by decide +kernel
theorem dX8_binds_165 : decode cX8_binds 165 = .ok (.bipush 64, 2) := by decide +kernel
theorem dX8_binds_167 : decode cX8_binds 167 = .ok (.idiv, 1) := by decide +kernel
theorem dX8_binds_168 : decode cX8_binds 168 = .ok (.bipush 32, 2) := by decide +kernel
theorem dX8_binds_170 : decode cX8_binds 170 = .ok (.if_icmp .lt 10, 3) := by decide +kernel
theorem dX8_binds_173 : decode cX8_binds 173 = .ok (.iload 6, 2) := by decide +kernel
theorem dX8_binds_175 : decode cX8_binds 175 = .ok (.bipush 6, 2) := by decide +kernel
theorem dX8_binds_177 : decode cX8_binds 177 = .ok (.if_icmp .ne 5, 3) := by decide +kernel
theorem dX8_binds_180 : decode cX8_binds 180 = .ok (.iconst 1, 1) := by decide +kernel
theorem dX8_binds_181 : decode cX8_binds 181 = .ok (.ireturn, 1) := by decide +kernel
theorem dX8_binds_182 : decode cX8_binds 182 = .ok (.aload_n 0, 1) := by decide +kernel
theorem dX8_binds_183 : decode cX8_binds 183 = .ok (.getfield 87, 3) := by decide +kernel
theorem dX8_binds_186 : decode cX8_binds 186 = .ok (.bipush 8, 2) := by decide +kernel
theorem dX8_binds_188 : decode cX8_binds 188 = .ok (.iload_n 2, 1) := by decide +kernel
theorem dX8_binds_189 : decode cX8_binds 189 = .ok (.iconst 1, 1) := by decide +kernel
theorem dX8_binds_190 : decode cX8_binds 190 = .ok (.iadd, 1) := by decide +kernel
theorem dX8_binds_191 : decode cX8_binds 191 = .ok (.imul, 1) := by decide +kernel
theorem dX8_binds_192 : decode cX8_binds 192 = .ok (.iload 6, 2) := by decide +kernel
theorem dX8_binds_194 : decode cX8_binds 194 = .ok (.iadd, 1) := by decide +kernel
theorem dX8_binds_195 : decode cX8_binds 195 = .ok (.iaload, 1) := by decide +kernel
theorem dX8_binds_196 : decode cX8_binds 196 = .ok (.istore 7, 2) := by decide +kernel
theorem dX8_binds_198 : decode cX8_binds 198 = .ok (.aload_n 0, 1) := by decide +kernel
theorem dX8_binds_199 : decode cX8_binds 199 = .ok (.getfield 87, 3) := by decide +kernel
theorem dX8_binds_202 : decode cX8_binds 202 = .ok (.bipush 8, 2) := by decide +kernel
theorem dX8_binds_204 : decode cX8_binds 204 = .ok (.iload_n 2, 1) := by decide +kernel
theorem dX8_binds_205 : decode cX8_binds 205 = .ok (.iconst 1, 1) := by decide +kernel
theorem dX8_binds_206 : decode cX8_binds 206 = .ok (.iadd, 1) := by decide +kernel
theorem dX8_binds_207 : decode cX8_binds 207 = .ok (.imul, 1) := by decide +kernel
theorem dX8_binds_208 : decode cX8_binds 208 = .ok (.iload 6, 2) := by decide +kernel
theorem dX8_binds_210 : decode cX8_binds 210 = .ok (.iadd, 1) := by decide +kernel
theorem dX8_binds_211 : decode cX8_binds 211 = .ok (.aload_n 0, 1) := by decide +kernel
theorem dX8_binds_212 : decode cX8_binds 212 = .ok (.getfield 25, 3) := by decide +kernel
theorem dX8_binds_215 : decode cX8_binds 215 = .ok (.iload_n 3, 1) := by decide +kernel
theorem dX8_binds_216 : decode cX8_binds 216 = .ok (.iaload, 1) := by decide +kernel
theorem dX8_binds_217 : decode cX8_binds 217 = .ok (.iastore, 1) := by decide +kernel
theorem dX8_binds_218 : decode cX8_binds 218 = .ok (.iload 7, 2) := by decide +kernel
theorem dX8_binds_220 : decode cX8_binds 220 = .ok (.ifCond .lt 14, 3) := by decide +kernel
theorem dX8_binds_223 : decode cX8_binds 223 = .ok (.iload 7, 2) := by decide +kernel
theorem dX8_binds_225 : decode cX8_binds 225 = .ok (.aload_n 0, 1) := by decide +kernel
theorem dX8_binds_226 : decode cX8_binds 226 = .ok (.getfield 25, 3) := by decide +kernel
theorem dX8_binds_229 : decode cX8_binds 229 = .ok (.iload_n 3, 1) := by decide +kernel
theorem dX8_binds_230 : decode cX8_binds 230 = .ok (.iaload, 1) := by decide +kernel
theorem dX8_binds_231 : decode cX8_binds 231 = .ok (.if_icmp .ne 7, 3) := by decide +kernel
theorem dX8_binds_234 : decode cX8_binds 234 = .ok (.iconst 1, 1) := by decide +kernel
theorem dX8_binds_235 : decode cX8_binds 235 = .ok (.goto 4, 3) := by decide +kernel
theorem dX8_binds_238 : decode cX8_binds 238 = .ok (.iconst 0, 1) := by decide +kernel
theorem dX8_binds_239 : decode cX8_binds 239 = .ok (.ireturn, 1) := by decide +kernel
abbrev rm_c_Model_binds : Room := { frames := 0, cells := 0, slots := 0, locals := 0 }
set_option maxHeartbeats 4000000 in
set_option maxRecDepth 100000 in
theorem c_Model_binds (l : Launch) (dC : Nat → ClassId) (dI : Nat → Nat → Nat) (cI cL cQ cZ : ClassId) (x0 : Nat) (ax : Nat) (z1 : Nat) (z2 : Nat) (z3 : Nat) (fc : Nat) (z5 : Nat) (z6 : Nat) (z7 : Nat) (qs : Nat) (z9 : Nat) (z10 : Nat) (z11 : Nat) (z12 : Nat) (z13 : Nat) (hd : Option Nat) (lg : Bool) (fcn : Nat) (z17 : Nat) (z18 : Nat) (z19 : Nat) (md : Nat) (z21 : Nat) (z22 : Nat) (z23 : Nat) (z24 : Nat) (hc : Nat) (z26 : Nat) (z27 : Nat) (z28 : Nat) (z29 : Nat) (z30 : Nat) (z31 : Nat) (sm : Bool) (z33 : Nat) (z34 : Nat) (cs : Nat → Nat) (fn : Nat → Nat) (fo : Nat → Nat) (ft : Nat → Nat) (bd : Nat → Option Nat) (f : Nat) (d : Nat) (k : Nat) (hf : f < 90) (hd9 : d < 4) (hk : k < 60) (hcs : ∀ j, cs j < 8192) (hfn : ∀ j, fn j < 64) (hfo : ∀ j, fo j < 16) (hft : ∀ j, ft j < 16) (hbd : ∀ j7 k7, bd j7 = some k7 → k7 < 16) : Met l yX8_binds wkX8_binds rm_c_Model_binds (q_W (dC, dI) qCl (qT cI cL cQ cZ) [(x0, .inr (8, mO ax z1 z2 z3 fc z5 z6 z7 qs z9 z10 z11 z12 z13 hd lg fcn z17 z18 z19 md z21 z22 z23 z24 hc z26 z27 z28 z29 z30 z31 sm z33 z34)), (z18, .inl (cI, 360, .inl (nF cs))), (z5, .inl (cI, 60, .inl (nF fn))), (z6, .inl (cI, 60, .inl (nF fo))), (z7, .inl (cI, 60, .inl (nF ft))), (z33, .inl (cI, 40, .inl (oF bd)))] [.ref x0, .int (nI (f)), .int (nI (d)), .int (nI (k))]) (va_Qi (fun (r : Int32) (u : Bool × (Nat → Option Nat)) => (r = (bI (u.1))) ∧ (∀ j7, j7 < 8 * (d + 1) → u.2 j7 = bd j7) ∧ (∀ j7 k7, u.2 j7 = some k7 → k7 < 16) ∧ (m_bn (fun v7 => bd (8 * d + v7)) (cs (4 * f + d)) (fn k) (fo k) (ft k) u.1 (fun v7 => u.2 (8 * (d + 1) + v7)))) (fun (u : Bool × (Nat → Option Nat)) t => va_P (dC, dI) qCl [(x0, .inr (8, mO ax z1 z2 z3 fc z5 z6 z7 qs z9 z10 z11 z12 z13 hd lg fcn z17 z18 z19 md z21 z22 z23 z24 hc z26 z27 z28 z29 z30 z31 sm z33 z34)), (z18, .inl (cI, 360, .inl (nF cs))), (z5, .inl (cI, 60, .inl (nF fn))), (z6, .inl (cI, 60, .inl (nF fo))), (z7, .inl (cI, 60, .inl (nF ft))), (z33, .inl (cI, 40, .inl (oF u.2)))] t.heap) (q_A [(x0, .inr (8, mO ax z1 z2 z3 fc z5 z6 z7 qs z9 z10 z11 z12 z13 hd lg fcn z17 z18 z19 md z21 z22 z23 z24 hc z26 z27 z28 z29 z30 z31 sm z33 z34)), (z18, .inl (cI, 360, .inl (nF cs))), (z5, .inl (cI, 60, .inl (nF fn))), (z6, .inl (cI, 60, .inl (nF fo))), (z7, .inl (cI, 60, .inl (nF ft))), (z33, .inl (cI, 40, .inl (oF bd)))])) 0 0 (q_A [(x0, .inr (8, mO ax z1 z2 z3 fc z5 z6 z7 qs z9 z10 z11 z12 z13 hd lg fcn z17 z18 z19 md z21 z22 z23 z24 hc z26 z27 z28 z29 z30 z31 sm z33 z34)), (z18, .inl (cI, 360, .inl (nF cs))), (z5, .inl (cI, 60, .inl (nF fn))), (z6, .inl (cI, 60, .inl (nF fo))), (z7, .inl (cI, 60, .inl (nF ft))), (z33, .inl (cI, 40, .inl (oF bd)))]) := by
  refine Met.ofW (cc := cX8_binds) (maxL := 8) (ret := (some .boolean)) (by decide) rfl ?_
  intro p e s m args below meth c s₁ B hml hv
  obtain ⟨hargs, hP, hK, hD0⟩ := hv
  have hx := B.exec
  have hb := B.bytes
  have hr := B.returns
  have hts : ∀ w ∈ qW, w.before args s = true := fun w h => atoms_spec (ws := wkX8_binds) B.pre w (List.mem_cons_of_mem _ h)
  have hown : s.vm.findClass RX8 = some m.cls := findClass_of_methodNamed B.named
  have hlocks := B.notSynchronized
  refine q_named (fun Q hQ => ?_)
  have hD : va_D (q_A [(x0, .inr (8, mO ax z1 z2 z3 fc z5 z6 z7 qs z9 z10 z11 z12 z13 hd lg fcn z17 z18 z19 md z21 z22 z23 z24 hc z26 z27 z28 z29 z30 z31 sm z33 z34)), (z18, .inl (cI, 360, .inl (nF cs))), (z5, .inl (cI, 60, .inl (nF fn))), (z6, .inl (cI, 60, .inl (nF fo))), (z7, .inl (cI, 60, .inl (nF ft))), (z33, .inl (cI, 40, .inl (oF bd)))]) [(x0, .inr (8, mO ax z1 z2 z3 fc z5 z6 z7 qs z9 z10 z11 z12 z13 hd lg fcn z17 z18 z19 md z21 z22 z23 z24 hc z26 z27 z28 z29 z30 z31 sm z33 z34)), (z18, .inl (cI, 360, .inl (nF cs))), (z5, .inl (cI, 60, .inl (nF fn))), (z6, .inl (cI, 60, .inl (nF fo))), (z7, .inl (cI, 60, .inl (nF ft))), (z33, .inl (cI, 40, .inl (oF bd)))] := ⟨hD0.1, fun k q h => ⟨k, q.2, h⟩⟩
  generalize hAe : q_A [(x0, .inr (8, mO ax z1 z2 z3 fc z5 z6 z7 qs z9 z10 z11 z12 z13 hd lg fcn z17 z18 z19 md z21 z22 z23 z24 hc z26 z27 z28 z29 z30 z31 sm z33 z34)), (z18, .inl (cI, 360, .inl (nF cs))), (z5, .inl (cI, 60, .inl (nF fn))), (z6, .inl (cI, 60, .inl (nF fo))), (z7, .inl (cI, 60, .inl (nF ft))), (z33, .inl (cI, 40, .inl (oF bd)))] = A at hD
  have hS : va_S A s.heap s.heap [] := va_S.rf
  refine q_entry hargs (Nat.le_of_ble_eq_true rfl) (fun ls hl => ?_)
  have hl : lv_has ls 8 [(0, .ref x0), (1, .int (nI (f))), (2, .int (nI (d))), (3, .int (nI (k)))] := hl
  obtain ⟨H, locs, eH, eL⟩ : ∃ (H : Heap) (locs : List Loc), s.heap = H ∧ ([] : List Loc) = locs := ⟨_, _, rfl, rfl⟩
  have hS : va_S A s.heap H locs := by rw [← eH, ← eL]; exact hS
  have hP : va_P (dC, dI) qCl [(x0, .inr (8, mO ax z1 z2 z3 fc z5 z6 z7 qs z9 z10 z11 z12 z13 hd lg fcn z17 z18 z19 md z21 z22 z23 z24 hc z26 z27 z28 z29 z30 z31 sm z33 z34)), (z18, .inl (cI, 360, .inl (nF cs))), (z5, .inl (cI, 60, .inl (nF fn))), (z6, .inl (cI, 60, .inl (nF fo))), (z7, .inl (cI, 60, .inl (nF ft))), (z33, .inl (cI, 40, .inl (oF bd)))] H := by rw [← eH]; exact hP
  refine W_at eH eL ?_
  refine lv_aload_n hx hb dX8_binds_0 rfl (lv_at hl 0 rfl) ?_
  refine va_get (D := (dC, dI)) (ci := 8) (v := .ref z18) (C := RX8) (T := TX8) (N := 35) hx hb hts uX8 hown hK hP 0 rfl rfl 18 (by decide) (hts _ kfX8_50) (fun _ h9 => h9) rfl dX8_binds_1 ?_
  refine lv_iconst (v := (nI (4))) hx hb dX8_binds_4 (by decide) ?_
  refine lv_iload_n hx hb dX8_binds_5 rfl (lv_at hl 1 rfl) ?_
  refine q_imul (x := 4) (y := f) hx hb dX8_binds_6 ?_
  refine lv_iload_n hx hb dX8_binds_7 rfl (lv_at hl 2 rfl) ?_
  refine q_iadd (x := 4 * f) (y := d) hx hb dX8_binds_8 ?_
  refine q_ialdN hx hb hK hP 1 0 rfl rfl (j := (4 * f) + d) (by omega) (by omega) dX8_binds_9 ?_
  have bd1 := hcs ((4 * f) + d)
  refine lv_istore (lv' := [(4, .int (nI (cs ((4 * f) + d)))), (0, .ref x0), (1, .int (nI (f))), (2, .int (nI (d))), (3, .int (nI (k)))]) hx hb dX8_binds_10 hl (by decide) rfl (fun ls hl => ?_)
  refine lv_iload hx hb dX8_binds_12 (lv_at hl 0 rfl) ?_
  refine lv_bipush (v := (nI (8))) hx hb dX8_binds_14 (by decide) ?_
  refine q_idiv (x := cs ((4 * f) + d)) (y := 8) hx hb (by omega) (by omega) (by omega) dX8_binds_16 ?_
  refine lv_bipush (v := (nI (8))) hx hb dX8_binds_17 (by decide) ?_
  refine q_irem (x := (cs ((4 * f) + d)) / 8) (y := 8) hx hb (by omega) (by omega) (by omega) dX8_binds_19 ?_
  refine lv_istore (lv' := [(5, .int (nI (((cs ((4 * f) + d)) / 8) % 8))), (4, .int (nI (cs ((4 * f) + d)))), (0, .ref x0), (1, .int (nI (f))), (2, .int (nI (d))), (3, .int (nI (k)))]) hx hb dX8_binds_20 hl (by decide) rfl (fun ls hl => ?_)
  refine lv_iload hx hb dX8_binds_22 (lv_at hl 1 rfl) ?_
  refine lv_bipush (v := (nI (8))) hx hb dX8_binds_24 (by decide) ?_
  refine q_irem (x := cs ((4 * f) + d)) (y := 8) hx hb (by omega) (by omega) (by omega) dX8_binds_26 ?_
  refine lv_istore (lv' := [(6, .int (nI ((cs ((4 * f) + d)) % 8))), (5, .int (nI (((cs ((4 * f) + d)) / 8) % 8))), (4, .int (nI (cs ((4 * f) + d)))), (0, .ref x0), (1, .int (nI (f))), (2, .int (nI (d))), (3, .int (nI (k)))]) hx hb dX8_binds_27 hl (by decide) rfl (fun ls hl => ?_)
  obtain ⟨cq, ecq⟩ : ∃ cq, cq = cs (4 * f + d) := ⟨_, rfl⟩
  have hcq : cq < 8192 := (by rw [ecq]; exact hcs _)
  have hl := lv_updv hl 2 rfl (show (.int (nI (cs ((4 * f) + d))) : Value) = .int (nI (cq)) from (by rw [ecq]))
  have hl : lv_has ls 8 [(6, .int (nI ((cs ((4 * f) + d)) % 8))), (5, .int (nI (((cs ((4 * f) + d)) / 8) % 8))), (4, .int (nI (cq))), (0, .ref x0), (1, .int (nI (f))), (2, .int (nI (d))), (3, .int (nI (k)))] := hl
  obtain ⟨xq, exq⟩ : ∃ xq, xq = cq / 8 % 8 := ⟨_, rfl⟩
  have hl := lv_updv hl 1 rfl (show (.int (nI (((cs ((4 * f) + d)) / 8) % 8)) : Value) = .int (nI (xq)) from (by rw [exq, ecq]))
  have hl : lv_has ls 8 [(6, .int (nI ((cs ((4 * f) + d)) % 8))), (5, .int (nI (xq))), (4, .int (nI (cq))), (0, .ref x0), (1, .int (nI (f))), (2, .int (nI (d))), (3, .int (nI (k)))] := hl
  obtain ⟨yq, eyq⟩ : ∃ yq, yq = cq % 8 := ⟨_, rfl⟩
  have hl := lv_updv hl 0 rfl (show (.int (nI ((cs ((4 * f) + d)) % 8)) : Value) = .int (nI (yq)) from (by rw [eyq, ecq]))
  have hl : lv_has ls 8 [(6, .int (nI (yq))), (5, .int (nI (xq))), (4, .int (nI (cq))), (0, .ref x0), (1, .int (nI (f))), (2, .int (nI (d))), (3, .int (nI (k)))] := hl
  refine lv_aload_n hx hb dX8_binds_29 rfl (lv_at hl 3 rfl) ?_
  refine va_get (D := (dC, dI)) (ci := 8) (v := .ref z5) (C := RX8) (T := TX8) (N := 35) hx hb hts uX8 hown hK hP 0 rfl rfl 5 (by decide) (hts _ kfX8_19) (fun _ h9 => h9) rfl dX8_binds_30 ?_
  refine lv_iload_n hx hb dX8_binds_33 rfl (lv_at hl 6 rfl) ?_
  refine q_ialdN hx hb hK hP 2 0 rfl rfl (j := k) (by omega) (by omega) dX8_binds_34 ?_
  have bd2 := hfn k
  refine lv_iload hx hb dX8_binds_35 (lv_at hl 2 rfl) ?_
  refine lv_bipush (v := (nI (64))) hx hb dX8_binds_37 (by decide) ?_
  refine q_idiv (x := cq) (y := 64) hx hb (by omega) (by omega) (by omega) dX8_binds_39 ?_
  refine q_icmp_eq (x := fn k) (y := cq / 64) (tgt := 45) hx hb dX8_binds_40 (by decide) (by omega) (by omega) (fun c40_3 => ?_) (fun c40_3 => ?_)
  · refine lv_iconst (v := (nI (0))) hx hb dX8_binds_45 (by decide) ?_
    refine lv_istore (lv' := [(7, .int (nI (0))), (6, .int (nI (yq))), (5, .int (nI (xq))), (4, .int (nI (cq))), (0, .ref x0), (1, .int (nI (f))), (2, .int (nI (d))), (3, .int (nI (k)))]) hx hb dX8_binds_46 hl (by decide) rfl (fun ls hl => ?_)
    have L48 : ∀ (fu : Nat) (g : Nat → Option Nat) (w : Nat) (ls : Array Slot) (H : Heap) (locs : List Loc), 8 - w < fu → (w ≤ 8) → (g = m_cp bd d w) → lv_has ls 8 [(7, .int (nI (w))), (6, .int (nI (yq))), (5, .int (nI (xq))), (4, .int (nI (cq))), (0, .ref x0), (1, .int (nI (f))), (2, .int (nI (d))), (3, .int (nI (k)))] → va_P (dC, dI) qCl [(x0, .inr (8, mO ax z1 z2 z3 fc z5 z6 z7 qs z9 z10 z11 z12 z13 hd lg fcn z17 z18 z19 md z21 z22 z23 z24 hc z26 z27 z28 z29 z30 z31 sm z33 z34)), (z18, .inl (cI, 360, .inl (nF cs))), (z5, .inl (cI, 60, .inl (nF fn))), (z6, .inl (cI, 60, .inl (nF fo))), (z7, .inl (cI, 60, .inl (nF ft))), (z33, .inl (cI, 40, .inl (oF g)))] H → va_D A [(x0, .inr (8, mO ax z1 z2 z3 fc z5 z6 z7 qs z9 z10 z11 z12 z13 hd lg fcn z17 z18 z19 md z21 z22 z23 z24 hc z26 z27 z28 z29 z30 z31 sm z33 z34)), (z18, .inl (cI, 360, .inl (nF cs))), (z5, .inl (cI, 60, .inl (nF fn))), (z6, .inl (cI, 60, .inl (nF fo))), (z7, .inl (cI, 60, .inl (nF ft))), (z33, .inl (cI, 40, .inl (oF g)))] → va_S A s.heap H locs → W p l e (headSpec wkX8_binds rm_c_Model_binds).room s m args below meth c H locs 0 0 Q (F0 m 48 ls []) := by
      intro fu
      induction fu with
      | zero => intro g w ls H locs hmu; exact absurd hmu (Nat.not_lt_zero _)
      | succ fu ih48 =>
        intro g w ls H locs hmu hw hg hl hP hD hS
        refine lv_iload hx hb dX8_binds_48 (lv_at hl 0 rfl) ?_
        refine lv_bipush (v := (nI (8))) hx hb dX8_binds_50 (by decide) ?_
        refine q_icmp_ge (x := w) (y := 8) (tgt := 87) hx hb dX8_binds_52 (by decide) (by omega) (by omega) (fun c52_4 => ?_) (fun c52_4 => ?_)
        · have ea5 : (g) = m_cp bd d 8 := by (rw [hg, show w = 8 by omega])
          rw [ea5] at hP hD
          have hP : va_P (dC, dI) qCl [(x0, .inr (8, mO ax z1 z2 z3 fc z5 z6 z7 qs z9 z10 z11 z12 z13 hd lg fcn z17 z18 z19 md z21 z22 z23 z24 hc z26 z27 z28 z29 z30 z31 sm z33 z34)), (z18, .inl (cI, 360, .inl (nF cs))), (z5, .inl (cI, 60, .inl (nF fn))), (z6, .inl (cI, 60, .inl (nF fo))), (z7, .inl (cI, 60, .inl (nF ft))), (z33, .inl (cI, 40, .inl (oF (m_cp bd d 8))))] H := hP
          have hD : va_D A [(x0, .inr (8, mO ax z1 z2 z3 fc z5 z6 z7 qs z9 z10 z11 z12 z13 hd lg fcn z17 z18 z19 md z21 z22 z23 z24 hc z26 z27 z28 z29 z30 z31 sm z33 z34)), (z18, .inl (cI, 360, .inl (nF cs))), (z5, .inl (cI, 60, .inl (nF fn))), (z6, .inl (cI, 60, .inl (nF fo))), (z7, .inl (cI, 60, .inl (nF ft))), (z33, .inl (cI, 40, .inl (oF (m_cp bd d 8))))] := hD
          refine lv_iload hx hb dX8_binds_87 (lv_at hl 2 rfl) ?_
          have L132 : ∀  (ls : Array Slot) (H : Heap) (locs : List Loc), (¬ m_cl (fun v7 => bd (8 * d + v7)) xq (fo k)) → lv_has ls 8 [(6, .int (nI (yq))), (5, .int (nI (xq))), (4, .int (nI (cq))), (0, .ref x0), (1, .int (nI (f))), (2, .int (nI (d))), (3, .int (nI (k)))] → va_P (dC, dI) qCl [(x0, .inr (8, mO ax z1 z2 z3 fc z5 z6 z7 qs z9 z10 z11 z12 z13 hd lg fcn z17 z18 z19 md z21 z22 z23 z24 hc z26 z27 z28 z29 z30 z31 sm z33 z34)), (z18, .inl (cI, 360, .inl (nF cs))), (z5, .inl (cI, 60, .inl (nF fn))), (z6, .inl (cI, 60, .inl (nF fo))), (z7, .inl (cI, 60, .inl (nF ft))), (z33, .inl (cI, 40, .inl (oF (m_cp bd d 8))))] H → va_D A [(x0, .inr (8, mO ax z1 z2 z3 fc z5 z6 z7 qs z9 z10 z11 z12 z13 hd lg fcn z17 z18 z19 md z21 z22 z23 z24 hc z26 z27 z28 z29 z30 z31 sm z33 z34)), (z18, .inl (cI, 360, .inl (nF cs))), (z5, .inl (cI, 60, .inl (nF fn))), (z6, .inl (cI, 60, .inl (nF fo))), (z7, .inl (cI, 60, .inl (nF ft))), (z33, .inl (cI, 40, .inl (oF (m_cp bd d 8))))] → va_S A s.heap H locs → W p l e (headSpec wkX8_binds rm_c_Model_binds).room s m args below meth c H locs 0 0 Q (F0 m 132 ls []) := by
            intro  ls H locs hncl hl hP hD hS
            refine lv_aload_n hx hb dX8_binds_132 rfl (lv_at hl 3 rfl) ?_
            refine va_get (D := (dC, dI)) (ci := 8) (v := .ref z33) (C := RX8) (T := TX8) (N := 35) hx hb hts uX8 hown hK hP 0 rfl rfl 33 (by decide) (hts _ kfX8_87) (fun _ h9 => h9) rfl dX8_binds_133 ?_
            refine lv_bipush (v := (nI (8))) hx hb dX8_binds_136 (by decide) ?_
            refine lv_iload_n hx hb dX8_binds_138 rfl (lv_at hl 5 rfl) ?_
            refine lv_iconst (v := (nI (1))) hx hb dX8_binds_139 (by decide) ?_
            refine q_iadd (x := d) (y := 1) hx hb dX8_binds_140 ?_
            refine q_imul (x := 8) (y := d + 1) hx hb dX8_binds_141 ?_
            refine lv_iload hx hb dX8_binds_142 (lv_at hl 1 rfl) ?_
            refine q_iadd (x := 8 * (d + 1)) (y := xq) hx hb dX8_binds_144 ?_
            refine lv_iload hx hb dX8_binds_145 (lv_at hl 1 rfl) ?_
            refine lv_bipush (v := (nI (6))) hx hb dX8_binds_147 (by decide) ?_
            refine q_icmp_ne (x := xq) (y := 6) (tgt := 156) hx hb dX8_binds_149 (by decide) (by omega) (by omega) (fun c149_6 => ?_) (fun c149_6 => ?_)
            · refine lv_aload_n hx hb dX8_binds_156 rfl (lv_at hl 3 rfl) ?_
              refine va_get (D := (dC, dI)) (ci := 8) (v := .ref z6) (C := RX8) (T := TX8) (N := 35) hx hb hts uX8 hown hK hP 0 rfl rfl 6 (by decide) (hts _ kfX8_22) (fun _ h9 => h9) rfl dX8_binds_157 ?_
              refine lv_iload_n hx hb dX8_binds_160 rfl (lv_at hl 6 rfl) ?_
              refine q_ialdN hx hb hK hP 3 0 rfl rfl (j := k) (by omega) (by omega) dX8_binds_161 ?_
              have bd7 := hfo k
              refine q_iastO hx hb hK hP hD hS 5 0 rfl rfl (j := (8 * (d + 1)) + xq) (x := some (fo k)) (by omega) (by omega) dX8_binds_162 (fun H locs hP hD hS => ?_)
              have hP : va_P (dC, dI) qCl [(x0, .inr (8, mO ax z1 z2 z3 fc z5 z6 z7 qs z9 z10 z11 z12 z13 hd lg fcn z17 z18 z19 md z21 z22 z23 z24 hc z26 z27 z28 z29 z30 z31 sm z33 z34)), (z18, .inl (cI, 360, .inl (nF cs))), (z5, .inl (cI, 60, .inl (nF fn))), (z6, .inl (cI, 60, .inl (nF fo))), (z7, .inl (cI, 60, .inl (nF ft))), (z33, .inl (cI, 40, .inl (oF (va_up (m_cp bd d 8) ((8 * (d + 1)) + xq) (some (fo k))))))] H := hP
              have hD : va_D A [(x0, .inr (8, mO ax z1 z2 z3 fc z5 z6 z7 qs z9 z10 z11 z12 z13 hd lg fcn z17 z18 z19 md z21 z22 z23 z24 hc z26 z27 z28 z29 z30 z31 sm z33 z34)), (z18, .inl (cI, 360, .inl (nF cs))), (z5, .inl (cI, 60, .inl (nF fn))), (z6, .inl (cI, 60, .inl (nF fo))), (z7, .inl (cI, 60, .inl (nF ft))), (z33, .inl (cI, 40, .inl (oF (va_up (m_cp bd d 8) ((8 * (d + 1)) + xq) (some (fo k))))))] := hD
              have ea8 : (va_up (m_cp bd d 8) ((8 * (d + 1)) + xq) (some (fo k))) = va_up (m_cp bd d 8) (8 * (d + 1) + xq) (if xq = 6 then none else some (fo k)) := by (first | (rw [if_pos (by omega)]) | (rw [if_neg (by omega)]))
              rw [ea8] at hP hD
              have hP : va_P (dC, dI) qCl [(x0, .inr (8, mO ax z1 z2 z3 fc z5 z6 z7 qs z9 z10 z11 z12 z13 hd lg fcn z17 z18 z19 md z21 z22 z23 z24 hc z26 z27 z28 z29 z30 z31 sm z33 z34)), (z18, .inl (cI, 360, .inl (nF cs))), (z5, .inl (cI, 60, .inl (nF fn))), (z6, .inl (cI, 60, .inl (nF fo))), (z7, .inl (cI, 60, .inl (nF ft))), (z33, .inl (cI, 40, .inl (oF (va_up (m_cp bd d 8) (8 * (d + 1) + xq) (if xq = 6 then none else some (fo k))))))] H := hP
              have hD : va_D A [(x0, .inr (8, mO ax z1 z2 z3 fc z5 z6 z7 qs z9 z10 z11 z12 z13 hd lg fcn z17 z18 z19 md z21 z22 z23 z24 hc z26 z27 z28 z29 z30 z31 sm z33 z34)), (z18, .inl (cI, 360, .inl (nF cs))), (z5, .inl (cI, 60, .inl (nF fn))), (z6, .inl (cI, 60, .inl (nF fo))), (z7, .inl (cI, 60, .inl (nF ft))), (z33, .inl (cI, 40, .inl (oF (va_up (m_cp bd d 8) (8 * (d + 1) + xq) (if xq = 6 then none else some (fo k))))))] := hD
              refine lv_iload hx hb dX8_binds_163 (lv_at hl 2 rfl) ?_
              refine lv_bipush (v := (nI (64))) hx hb dX8_binds_165 (by decide) ?_
              refine q_idiv (x := cq) (y := 64) hx hb (by omega) (by omega) (by omega) dX8_binds_167 ?_
              refine lv_bipush (v := (nI (32))) hx hb dX8_binds_168 (by decide) ?_
              refine q_icmp_lt (x := cq / 64) (y := 32) (tgt := 180) hx hb dX8_binds_170 (by decide) (by omega) (by omega) (fun c170_9 => ?_) (fun c170_9 => ?_)
              · refine lv_iconst (v := (nI (1))) hx hb dX8_binds_180 (by decide) ?_
                subst hQ
                subst hAe
                have hP9 := hP.sub (ws' := [(x0, .inr (8, mO ax z1 z2 z3 fc z5 z6 z7 qs z9 z10 z11 z12 z13 hd lg fcn z17 z18 z19 md z21 z22 z23 z24 hc z26 z27 z28 z29 z30 z31 sm z33 z34)), (z18, .inl (cI, 360, .inl (nF cs))), (z5, .inl (cI, 60, .inl (nF fn))), (z6, .inl (cI, 60, .inl (nF fo))), (z7, .inl (cI, 60, .inl (nF ft))), (z33, .inl (cI, 40, .inl (oF (va_up (m_cp bd d 8) (8 * (d + 1) + xq) (if xq = 6 then none else some (fo k))))))]) [0, 1, 2, 3, 4, 5] rfl
                exact W.zret (v := (nI (1))) hx hb hr (by decide) (fun t9 h9 _ => ⟨⟨(nI (1)), (true, va_up (m_cp bd d 8) (8 * (d + 1) + xq) (if xq = 6 then none else some (fo k))), rfl, ⟨bI_1 rfl, (show ∀ j7, j7 < 8 * (d + 1) → (va_up (m_cp bd d 8) (8 * (d + 1) + xq) (if xq = 6 then none else some (fo k))) j7 = bd j7 from by (intro j7 hj7; rw [up_n _ _ (show j7 ≠ 8 * (d + 1) + xq by omega)]; exact m_cp_lo hj7)), (show ∀ j7 k7, (va_up (m_cp bd d 8) (8 * (d + 1) + xq) (if xq = 6 then none else some (fo k))) j7 = some k7 → k7 < 16 from by (exact up_oltn (m_cp_lt hbd) (if_olt (hfo k)))), (show m_bn (fun v7 => bd (8 * d + v7)) (cs (4 * f + d)) (fn k) (fo k) (ft k) true (fun v7 => (va_up (m_cp bd d 8) (8 * (d + 1) + xq) (if xq = 6 then none else some (fo k))) (8 * (d + 1) + v7)) from by (rw [← ecq]; refine Or.inr (Or.inr (Or.inl ⟨by assumption, by rw [← exq]; exact hncl, by omega, rfl, fun v7 hv7 => ?_⟩)); rw [← exq]; exact m_cp_hi hv7))⟩, by show va_P _ _ _ t9.heap; rw [h9]; exact hP9⟩, hS.F h9⟩) hS.2.2 dX8_binds_181
              · refine lv_iload hx hb dX8_binds_173 (lv_at hl 0 rfl) ?_
                refine lv_bipush (v := (nI (6))) hx hb dX8_binds_175 (by decide) ?_
                refine q_icmp_ne (x := yq) (y := 6) (tgt := 182) hx hb dX8_binds_177 (by decide) (by omega) (by omega) (fun c177_10 => ?_) (fun c177_10 => ?_)
                · refine lv_aload_n hx hb dX8_binds_182 rfl (lv_at hl 3 rfl) ?_
                  refine va_get (D := (dC, dI)) (ci := 8) (v := .ref z33) (C := RX8) (T := TX8) (N := 35) hx hb hts uX8 hown hK hP 0 rfl rfl 33 (by decide) (hts _ kfX8_87) (fun _ h9 => h9) rfl dX8_binds_183 ?_
                  refine lv_bipush (v := (nI (8))) hx hb dX8_binds_186 (by decide) ?_
                  refine lv_iload_n hx hb dX8_binds_188 rfl (lv_at hl 5 rfl) ?_
                  refine lv_iconst (v := (nI (1))) hx hb dX8_binds_189 (by decide) ?_
                  refine q_iadd (x := d) (y := 1) hx hb dX8_binds_190 ?_
                  refine q_imul (x := 8) (y := d + 1) hx hb dX8_binds_191 ?_
                  refine lv_iload hx hb dX8_binds_192 (lv_at hl 0 rfl) ?_
                  refine q_iadd (x := 8 * (d + 1)) (y := yq) hx hb dX8_binds_194 ?_
                  refine q_ialdO hx hb hK hP 5 0 rfl rfl (j := (8 * (d + 1)) + yq) (by omega) (by omega) dX8_binds_195 ?_
                  refine q_top (show (oI ((va_up (m_cp bd d 8) (8 * (d + 1) + xq) (if xq = 6 then none else some (fo k))) ((8 * (d + 1)) + yq))) = (oI (m_r1 (fun v7 => bd (8 * d + v7)) xq (fo k) yq)) from (congrArg oI (m_cp_hi (by omega)))) ?_
                  refine lv_istore (lv' := [(7, .int (oI (m_r1 (fun v7 => bd (8 * d + v7)) xq (fo k) yq))), (6, .int (nI (yq))), (5, .int (nI (xq))), (4, .int (nI (cq))), (0, .ref x0), (1, .int (nI (f))), (2, .int (nI (d))), (3, .int (nI (k)))]) hx hb dX8_binds_196 hl (by decide) rfl (fun ls hl => ?_)
                  have hr1b : ∀ j k7, m_r1 (fun v7 => bd (8 * d + v7)) xq (fo k) j = some k7 → k7 < 16 := up_oltn (fun j k7 h => hbd _ _ h) (if_olt (hfo k))
                  refine lv_aload_n hx hb dX8_binds_198 rfl (lv_at hl 4 rfl) ?_
                  refine va_get (D := (dC, dI)) (ci := 8) (v := .ref z33) (C := RX8) (T := TX8) (N := 35) hx hb hts uX8 hown hK hP 0 rfl rfl 33 (by decide) (hts _ kfX8_87) (fun _ h9 => h9) rfl dX8_binds_199 ?_
                  refine lv_bipush (v := (nI (8))) hx hb dX8_binds_202 (by decide) ?_
                  refine lv_iload_n hx hb dX8_binds_204 rfl (lv_at hl 6 rfl) ?_
                  refine lv_iconst (v := (nI (1))) hx hb dX8_binds_205 (by decide) ?_
                  refine q_iadd (x := d) (y := 1) hx hb dX8_binds_206 ?_
                  refine q_imul (x := 8) (y := d + 1) hx hb dX8_binds_207 ?_
                  refine lv_iload hx hb dX8_binds_208 (lv_at hl 1 rfl) ?_
                  refine q_iadd (x := 8 * (d + 1)) (y := yq) hx hb dX8_binds_210 ?_
                  refine lv_aload_n hx hb dX8_binds_211 rfl (lv_at hl 4 rfl) ?_
                  refine va_get (D := (dC, dI)) (ci := 8) (v := .ref z7) (C := RX8) (T := TX8) (N := 35) hx hb hts uX8 hown hK hP 0 rfl rfl 7 (by decide) (hts _ kfX8_25) (fun _ h9 => h9) rfl dX8_binds_212 ?_
                  refine lv_iload_n hx hb dX8_binds_215 rfl (lv_at hl 7 rfl) ?_
                  refine q_ialdN hx hb hK hP 4 0 rfl rfl (j := k) (by omega) (by omega) dX8_binds_216 ?_
                  have bd11 := hft k
                  refine q_iastO hx hb hK hP hD hS 5 0 rfl rfl (j := (8 * (d + 1)) + yq) (x := some (ft k)) (by omega) (by omega) dX8_binds_217 (fun H locs hP hD hS => ?_)
                  have hP : va_P (dC, dI) qCl [(x0, .inr (8, mO ax z1 z2 z3 fc z5 z6 z7 qs z9 z10 z11 z12 z13 hd lg fcn z17 z18 z19 md z21 z22 z23 z24 hc z26 z27 z28 z29 z30 z31 sm z33 z34)), (z18, .inl (cI, 360, .inl (nF cs))), (z5, .inl (cI, 60, .inl (nF fn))), (z6, .inl (cI, 60, .inl (nF fo))), (z7, .inl (cI, 60, .inl (nF ft))), (z33, .inl (cI, 40, .inl (oF (va_up (va_up (m_cp bd d 8) (8 * (d + 1) + xq) (if xq = 6 then none else some (fo k))) ((8 * (d + 1)) + yq) (some (ft k))))))] H := hP
                  have hD : va_D A [(x0, .inr (8, mO ax z1 z2 z3 fc z5 z6 z7 qs z9 z10 z11 z12 z13 hd lg fcn z17 z18 z19 md z21 z22 z23 z24 hc z26 z27 z28 z29 z30 z31 sm z33 z34)), (z18, .inl (cI, 360, .inl (nF cs))), (z5, .inl (cI, 60, .inl (nF fn))), (z6, .inl (cI, 60, .inl (nF fo))), (z7, .inl (cI, 60, .inl (nF ft))), (z33, .inl (cI, 40, .inl (oF (va_up (va_up (m_cp bd d 8) (8 * (d + 1) + xq) (if xq = 6 then none else some (fo k))) ((8 * (d + 1)) + yq) (some (ft k))))))] := hD
                  have hP : va_P (dC, dI) qCl [(x0, .inr (8, mO ax z1 z2 z3 fc z5 z6 z7 qs z9 z10 z11 z12 z13 hd lg fcn z17 z18 z19 md z21 z22 z23 z24 hc z26 z27 z28 z29 z30 z31 sm z33 z34)), (z18, .inl (cI, 360, .inl (nF cs))), (z5, .inl (cI, 60, .inl (nF fn))), (z6, .inl (cI, 60, .inl (nF fo))), (z7, .inl (cI, 60, .inl (nF ft))), (z33, .inl (cI, 40, .inl (oF (va_up (va_up (m_cp bd d 8) (8 * (d + 1) + xq) (if xq = 6 then none else some (fo k))) (8 * (d + 1) + yq) (some (ft k))))))] H := hP
                  have hD : va_D A [(x0, .inr (8, mO ax z1 z2 z3 fc z5 z6 z7 qs z9 z10 z11 z12 z13 hd lg fcn z17 z18 z19 md z21 z22 z23 z24 hc z26 z27 z28 z29 z30 z31 sm z33 z34)), (z18, .inl (cI, 360, .inl (nF cs))), (z5, .inl (cI, 60, .inl (nF fn))), (z6, .inl (cI, 60, .inl (nF fo))), (z7, .inl (cI, 60, .inl (nF ft))), (z33, .inl (cI, 40, .inl (oF (va_up (va_up (m_cp bd d 8) (8 * (d + 1) + xq) (if xq = 6 then none else some (fo k))) (8 * (d + 1) + yq) (some (ft k))))))] := hD
                  refine lv_iload hx hb dX8_binds_218 (lv_at hl 0 rfl) ?_
                  refine q_ifO_lt (x := m_r1 (fun v7 => bd (8 * d + v7)) xq (fo k) yq) (tgt := 234) hx hb dX8_binds_220 (by decide) (by (intro k9 h9; have := hr1b _ _ h9; omega)) (fun c220_12 => ?_) (fun c220_12 => ?_)
                  · refine lv_iconst (v := (nI (1))) hx hb dX8_binds_234 (by decide) ?_
                    refine lv_goto (tgt := 239) hx hb dX8_binds_235 (by decide) ?_
                    subst hQ
                    subst hAe
                    have hP9 := hP.sub (ws' := [(x0, .inr (8, mO ax z1 z2 z3 fc z5 z6 z7 qs z9 z10 z11 z12 z13 hd lg fcn z17 z18 z19 md z21 z22 z23 z24 hc z26 z27 z28 z29 z30 z31 sm z33 z34)), (z18, .inl (cI, 360, .inl (nF cs))), (z5, .inl (cI, 60, .inl (nF fn))), (z6, .inl (cI, 60, .inl (nF fo))), (z7, .inl (cI, 60, .inl (nF ft))), (z33, .inl (cI, 40, .inl (oF (va_up (va_up (m_cp bd d 8) (8 * (d + 1) + xq) (if xq = 6 then none else some (fo k))) (8 * (d + 1) + yq) (some (ft k))))))]) [0, 1, 2, 3, 4, 5] rfl
                    exact W.zret (v := (nI (1))) hx hb hr (by decide) (fun t9 h9 _ => ⟨⟨(nI (1)), (true, va_up (va_up (m_cp bd d 8) (8 * (d + 1) + xq) (if xq = 6 then none else some (fo k))) (8 * (d + 1) + yq) (some (ft k))), rfl, ⟨bI_1 rfl, (show ∀ j7, j7 < 8 * (d + 1) → (va_up (va_up (m_cp bd d 8) (8 * (d + 1) + xq) (if xq = 6 then none else some (fo k))) (8 * (d + 1) + yq) (some (ft k))) j7 = bd j7 from by (intro j7 hj7; rw [up_n _ _ (show j7 ≠ 8 * (d + 1) + yq by omega), up_n _ _ (show j7 ≠ 8 * (d + 1) + xq by omega)]; exact m_cp_lo hj7)), (show ∀ j7 k7, (va_up (va_up (m_cp bd d 8) (8 * (d + 1) + xq) (if xq = 6 then none else some (fo k))) (8 * (d + 1) + yq) (some (ft k))) j7 = some k7 → k7 < 16 from by (exact up_oltn (up_oltn (m_cp_lt hbd) (if_olt (hfo k))) (fun m7 h => (Option.some.inj h) ▸ hft k))), (show m_bn (fun v7 => bd (8 * d + v7)) (cs (4 * f + d)) (fn k) (fo k) (ft k) true (fun v7 => (va_up (va_up (m_cp bd d 8) (8 * (d + 1) + xq) (if xq = 6 then none else some (fo k))) (8 * (d + 1) + yq) (some (ft k))) (8 * (d + 1) + v7)) from by (rw [← ecq]; refine Or.inr (Or.inr (Or.inr ⟨by assumption, by rw [← exq]; exact hncl, by omega, ?_, fun v7 hv7 => by rw [← exq, ← eyq]; exact m_cp_hi2 hv7⟩)); rw [← exq, ← eyq]; first | (exact ⟨fun _ => Or.inl (by assumption), fun _ => rfl⟩) | (exact ⟨fun _ => Or.inr (by rw [eu8]; exact congrArg some (by assumption)), fun _ => rfl⟩) | (exact m_bf eu8 (by assumption))))⟩, by show va_P _ _ _ t9.heap; rw [h9]; exact hP9⟩, hS.F h9⟩) hS.2.2 dX8_binds_239
                  · obtain ⟨u8, eu8⟩ : ∃ u8, m_r1 (fun v7 => bd (8 * d + v7)) xq (fo k) yq = some u8 := Option.ne_none_iff_exists'.mp (by assumption)
                    have hu8 : u8 < 16 := hr1b _ _ eu8
                    have hl := lv_updv hl 0 rfl (show (.int (oI (m_r1 (fun v7 => bd (8 * d + v7)) xq (fo k) yq)) : Value) = .int (nI (u8)) from (by rw [eu8]; rfl))
                    have hl : lv_has ls 8 [(7, .int (nI (u8))), (6, .int (nI (yq))), (5, .int (nI (xq))), (4, .int (nI (cq))), (0, .ref x0), (1, .int (nI (f))), (2, .int (nI (d))), (3, .int (nI (k)))] := hl
                    refine lv_iload hx hb dX8_binds_223 (lv_at hl 0 rfl) ?_
                    refine lv_aload_n hx hb dX8_binds_225 rfl (lv_at hl 4 rfl) ?_
                    refine va_get (D := (dC, dI)) (ci := 8) (v := .ref z7) (C := RX8) (T := TX8) (N := 35) hx hb hts uX8 hown hK hP 0 rfl rfl 7 (by decide) (hts _ kfX8_25) (fun _ h9 => h9) rfl dX8_binds_226 ?_
                    refine lv_iload_n hx hb dX8_binds_229 rfl (lv_at hl 7 rfl) ?_
                    refine q_ialdN hx hb hK hP 4 0 rfl rfl (j := k) (by omega) (by omega) dX8_binds_230 ?_
                    have bd13 := hft k
                    refine q_icmp_ne (x := u8) (y := ft k) (tgt := 238) hx hb dX8_binds_231 (by decide) (by omega) (by omega) (fun c231_14 => ?_) (fun c231_14 => ?_)
                    · refine lv_iconst (v := (nI (0))) hx hb dX8_binds_238 (by decide) ?_
                      subst hQ
                      subst hAe
                      have hP9 := hP.sub (ws' := [(x0, .inr (8, mO ax z1 z2 z3 fc z5 z6 z7 qs z9 z10 z11 z12 z13 hd lg fcn z17 z18 z19 md z21 z22 z23 z24 hc z26 z27 z28 z29 z30 z31 sm z33 z34)), (z18, .inl (cI, 360, .inl (nF cs))), (z5, .inl (cI, 60, .inl (nF fn))), (z6, .inl (cI, 60, .inl (nF fo))), (z7, .inl (cI, 60, .inl (nF ft))), (z33, .inl (cI, 40, .inl (oF (va_up (va_up (m_cp bd d 8) (8 * (d + 1) + xq) (if xq = 6 then none else some (fo k))) (8 * (d + 1) + yq) (some (ft k))))))]) [0, 1, 2, 3, 4, 5] rfl
                      exact W.zret (v := (nI (0))) hx hb hr (by decide) (fun t9 h9 _ => ⟨⟨(nI (0)), (false, va_up (va_up (m_cp bd d 8) (8 * (d + 1) + xq) (if xq = 6 then none else some (fo k))) (8 * (d + 1) + yq) (some (ft k))), rfl, ⟨bI_0 rfl, (show ∀ j7, j7 < 8 * (d + 1) → (va_up (va_up (m_cp bd d 8) (8 * (d + 1) + xq) (if xq = 6 then none else some (fo k))) (8 * (d + 1) + yq) (some (ft k))) j7 = bd j7 from by (intro j7 hj7; rw [up_n _ _ (show j7 ≠ 8 * (d + 1) + yq by omega), up_n _ _ (show j7 ≠ 8 * (d + 1) + xq by omega)]; exact m_cp_lo hj7)), (show ∀ j7 k7, (va_up (va_up (m_cp bd d 8) (8 * (d + 1) + xq) (if xq = 6 then none else some (fo k))) (8 * (d + 1) + yq) (some (ft k))) j7 = some k7 → k7 < 16 from by (exact up_oltn (up_oltn (m_cp_lt hbd) (if_olt (hfo k))) (fun m7 h => (Option.some.inj h) ▸ hft k))), (show m_bn (fun v7 => bd (8 * d + v7)) (cs (4 * f + d)) (fn k) (fo k) (ft k) false (fun v7 => (va_up (va_up (m_cp bd d 8) (8 * (d + 1) + xq) (if xq = 6 then none else some (fo k))) (8 * (d + 1) + yq) (some (ft k))) (8 * (d + 1) + v7)) from by (rw [← ecq]; refine Or.inr (Or.inr (Or.inr ⟨by assumption, by rw [← exq]; exact hncl, by omega, ?_, fun v7 hv7 => by rw [← exq, ← eyq]; exact m_cp_hi2 hv7⟩)); rw [← exq, ← eyq]; first | (exact ⟨fun _ => Or.inl (by assumption), fun _ => rfl⟩) | (exact ⟨fun _ => Or.inr (by rw [eu8]; exact congrArg some (by assumption)), fun _ => rfl⟩) | (exact m_bf eu8 (by assumption))))⟩, by show va_P _ _ _ t9.heap; rw [h9]; exact hP9⟩, hS.F h9⟩) hS.2.2 dX8_binds_239
                    · refine lv_iconst (v := (nI (1))) hx hb dX8_binds_234 (by decide) ?_
                      refine lv_goto (tgt := 239) hx hb dX8_binds_235 (by decide) ?_
                      subst hQ
                      subst hAe
                      have hP9 := hP.sub (ws' := [(x0, .inr (8, mO ax z1 z2 z3 fc z5 z6 z7 qs z9 z10 z11 z12 z13 hd lg fcn z17 z18 z19 md z21 z22 z23 z24 hc z26 z27 z28 z29 z30 z31 sm z33 z34)), (z18, .inl (cI, 360, .inl (nF cs))), (z5, .inl (cI, 60, .inl (nF fn))), (z6, .inl (cI, 60, .inl (nF fo))), (z7, .inl (cI, 60, .inl (nF ft))), (z33, .inl (cI, 40, .inl (oF (va_up (va_up (m_cp bd d 8) (8 * (d + 1) + xq) (if xq = 6 then none else some (fo k))) (8 * (d + 1) + yq) (some (ft k))))))]) [0, 1, 2, 3, 4, 5] rfl
                      exact W.zret (v := (nI (1))) hx hb hr (by decide) (fun t9 h9 _ => ⟨⟨(nI (1)), (true, va_up (va_up (m_cp bd d 8) (8 * (d + 1) + xq) (if xq = 6 then none else some (fo k))) (8 * (d + 1) + yq) (some (ft k))), rfl, ⟨bI_1 rfl, (show ∀ j7, j7 < 8 * (d + 1) → (va_up (va_up (m_cp bd d 8) (8 * (d + 1) + xq) (if xq = 6 then none else some (fo k))) (8 * (d + 1) + yq) (some (ft k))) j7 = bd j7 from by (intro j7 hj7; rw [up_n _ _ (show j7 ≠ 8 * (d + 1) + yq by omega), up_n _ _ (show j7 ≠ 8 * (d + 1) + xq by omega)]; exact m_cp_lo hj7)), (show ∀ j7 k7, (va_up (va_up (m_cp bd d 8) (8 * (d + 1) + xq) (if xq = 6 then none else some (fo k))) (8 * (d + 1) + yq) (some (ft k))) j7 = some k7 → k7 < 16 from by (exact up_oltn (up_oltn (m_cp_lt hbd) (if_olt (hfo k))) (fun m7 h => (Option.some.inj h) ▸ hft k))), (show m_bn (fun v7 => bd (8 * d + v7)) (cs (4 * f + d)) (fn k) (fo k) (ft k) true (fun v7 => (va_up (va_up (m_cp bd d 8) (8 * (d + 1) + xq) (if xq = 6 then none else some (fo k))) (8 * (d + 1) + yq) (some (ft k))) (8 * (d + 1) + v7)) from by (rw [← ecq]; refine Or.inr (Or.inr (Or.inr ⟨by assumption, by rw [← exq]; exact hncl, by omega, ?_, fun v7 hv7 => by rw [← exq, ← eyq]; exact m_cp_hi2 hv7⟩)); rw [← exq, ← eyq]; first | (exact ⟨fun _ => Or.inl (by assumption), fun _ => rfl⟩) | (exact ⟨fun _ => Or.inr (by rw [eu8]; exact congrArg some (by assumption)), fun _ => rfl⟩) | (exact m_bf eu8 (by assumption))))⟩, by show va_P _ _ _ t9.heap; rw [h9]; exact hP9⟩, hS.F h9⟩) hS.2.2 dX8_binds_239
                · refine lv_iconst (v := (nI (1))) hx hb dX8_binds_180 (by decide) ?_
                  subst hQ
                  subst hAe
                  have hP9 := hP.sub (ws' := [(x0, .inr (8, mO ax z1 z2 z3 fc z5 z6 z7 qs z9 z10 z11 z12 z13 hd lg fcn z17 z18 z19 md z21 z22 z23 z24 hc z26 z27 z28 z29 z30 z31 sm z33 z34)), (z18, .inl (cI, 360, .inl (nF cs))), (z5, .inl (cI, 60, .inl (nF fn))), (z6, .inl (cI, 60, .inl (nF fo))), (z7, .inl (cI, 60, .inl (nF ft))), (z33, .inl (cI, 40, .inl (oF (va_up (m_cp bd d 8) (8 * (d + 1) + xq) (if xq = 6 then none else some (fo k))))))]) [0, 1, 2, 3, 4, 5] rfl
                  exact W.zret (v := (nI (1))) hx hb hr (by decide) (fun t9 h9 _ => ⟨⟨(nI (1)), (true, va_up (m_cp bd d 8) (8 * (d + 1) + xq) (if xq = 6 then none else some (fo k))), rfl, ⟨bI_1 rfl, (show ∀ j7, j7 < 8 * (d + 1) → (va_up (m_cp bd d 8) (8 * (d + 1) + xq) (if xq = 6 then none else some (fo k))) j7 = bd j7 from by (intro j7 hj7; rw [up_n _ _ (show j7 ≠ 8 * (d + 1) + xq by omega)]; exact m_cp_lo hj7)), (show ∀ j7 k7, (va_up (m_cp bd d 8) (8 * (d + 1) + xq) (if xq = 6 then none else some (fo k))) j7 = some k7 → k7 < 16 from by (exact up_oltn (m_cp_lt hbd) (if_olt (hfo k)))), (show m_bn (fun v7 => bd (8 * d + v7)) (cs (4 * f + d)) (fn k) (fo k) (ft k) true (fun v7 => (va_up (m_cp bd d 8) (8 * (d + 1) + xq) (if xq = 6 then none else some (fo k))) (8 * (d + 1) + v7)) from by (rw [← ecq]; refine Or.inr (Or.inr (Or.inl ⟨by assumption, by rw [← exq]; exact hncl, by omega, rfl, fun v7 hv7 => ?_⟩)); rw [← exq]; exact m_cp_hi hv7))⟩, by show va_P _ _ _ t9.heap; rw [h9]; exact hP9⟩, hS.F h9⟩) hS.2.2 dX8_binds_181
            · refine lv_iconst (v := (oI (none))) hx hb dX8_binds_152 (by decide) ?_
              refine lv_goto (tgt := 162) hx hb dX8_binds_153 (by decide) ?_
              refine q_iastO hx hb hK hP hD hS 5 0 rfl rfl (j := (8 * (d + 1)) + xq) (x := none) (by omega) (by omega) dX8_binds_162 (fun H locs hP hD hS => ?_)
              have hP : va_P (dC, dI) qCl [(x0, .inr (8, mO ax z1 z2 z3 fc z5 z6 z7 qs z9 z10 z11 z12 z13 hd lg fcn z17 z18 z19 md z21 z22 z23 z24 hc z26 z27 z28 z29 z30 z31 sm z33 z34)), (z18, .inl (cI, 360, .inl (nF cs))), (z5, .inl (cI, 60, .inl (nF fn))), (z6, .inl (cI, 60, .inl (nF fo))), (z7, .inl (cI, 60, .inl (nF ft))), (z33, .inl (cI, 40, .inl (oF (va_up (m_cp bd d 8) ((8 * (d + 1)) + xq) none))))] H := hP
              have hD : va_D A [(x0, .inr (8, mO ax z1 z2 z3 fc z5 z6 z7 qs z9 z10 z11 z12 z13 hd lg fcn z17 z18 z19 md z21 z22 z23 z24 hc z26 z27 z28 z29 z30 z31 sm z33 z34)), (z18, .inl (cI, 360, .inl (nF cs))), (z5, .inl (cI, 60, .inl (nF fn))), (z6, .inl (cI, 60, .inl (nF fo))), (z7, .inl (cI, 60, .inl (nF ft))), (z33, .inl (cI, 40, .inl (oF (va_up (m_cp bd d 8) ((8 * (d + 1)) + xq) none))))] := hD
              have ea15 : (va_up (m_cp bd d 8) ((8 * (d + 1)) + xq) none) = va_up (m_cp bd d 8) (8 * (d + 1) + xq) (if xq = 6 then none else some (fo k)) := by (first | (rw [if_pos (by omega)]) | (rw [if_neg (by omega)]))
              rw [ea15] at hP hD
              have hP : va_P (dC, dI) qCl [(x0, .inr (8, mO ax z1 z2 z3 fc z5 z6 z7 qs z9 z10 z11 z12 z13 hd lg fcn z17 z18 z19 md z21 z22 z23 z24 hc z26 z27 z28 z29 z30 z31 sm z33 z34)), (z18, .inl (cI, 360, .inl (nF cs))), (z5, .inl (cI, 60, .inl (nF fn))), (z6, .inl (cI, 60, .inl (nF fo))), (z7, .inl (cI, 60, .inl (nF ft))), (z33, .inl (cI, 40, .inl (oF (va_up (m_cp bd d 8) (8 * (d + 1) + xq) (if xq = 6 then none else some (fo k))))))] H := hP
              have hD : va_D A [(x0, .inr (8, mO ax z1 z2 z3 fc z5 z6 z7 qs z9 z10 z11 z12 z13 hd lg fcn z17 z18 z19 md z21 z22 z23 z24 hc z26 z27 z28 z29 z30 z31 sm z33 z34)), (z18, .inl (cI, 360, .inl (nF cs))), (z5, .inl (cI, 60, .inl (nF fn))), (z6, .inl (cI, 60, .inl (nF fo))), (z7, .inl (cI, 60, .inl (nF ft))), (z33, .inl (cI, 40, .inl (oF (va_up (m_cp bd d 8) (8 * (d + 1) + xq) (if xq = 6 then none else some (fo k))))))] := hD
              refine lv_iload hx hb dX8_binds_163 (lv_at hl 2 rfl) ?_
              refine lv_bipush (v := (nI (64))) hx hb dX8_binds_165 (by decide) ?_
              refine q_idiv (x := cq) (y := 64) hx hb (by omega) (by omega) (by omega) dX8_binds_167 ?_
              refine lv_bipush (v := (nI (32))) hx hb dX8_binds_168 (by decide) ?_
              refine q_icmp_lt (x := cq / 64) (y := 32) (tgt := 180) hx hb dX8_binds_170 (by decide) (by omega) (by omega) (fun c170_16 => ?_) (fun c170_16 => ?_)
              · refine lv_iconst (v := (nI (1))) hx hb dX8_binds_180 (by decide) ?_
                subst hQ
                subst hAe
                have hP9 := hP.sub (ws' := [(x0, .inr (8, mO ax z1 z2 z3 fc z5 z6 z7 qs z9 z10 z11 z12 z13 hd lg fcn z17 z18 z19 md z21 z22 z23 z24 hc z26 z27 z28 z29 z30 z31 sm z33 z34)), (z18, .inl (cI, 360, .inl (nF cs))), (z5, .inl (cI, 60, .inl (nF fn))), (z6, .inl (cI, 60, .inl (nF fo))), (z7, .inl (cI, 60, .inl (nF ft))), (z33, .inl (cI, 40, .inl (oF (va_up (m_cp bd d 8) (8 * (d + 1) + xq) (if xq = 6 then none else some (fo k))))))]) [0, 1, 2, 3, 4, 5] rfl
                exact W.zret (v := (nI (1))) hx hb hr (by decide) (fun t9 h9 _ => ⟨⟨(nI (1)), (true, va_up (m_cp bd d 8) (8 * (d + 1) + xq) (if xq = 6 then none else some (fo k))), rfl, ⟨bI_1 rfl, (show ∀ j7, j7 < 8 * (d + 1) → (va_up (m_cp bd d 8) (8 * (d + 1) + xq) (if xq = 6 then none else some (fo k))) j7 = bd j7 from by (intro j7 hj7; rw [up_n _ _ (show j7 ≠ 8 * (d + 1) + xq by omega)]; exact m_cp_lo hj7)), (show ∀ j7 k7, (va_up (m_cp bd d 8) (8 * (d + 1) + xq) (if xq = 6 then none else some (fo k))) j7 = some k7 → k7 < 16 from by (exact up_oltn (m_cp_lt hbd) (if_olt (hfo k)))), (show m_bn (fun v7 => bd (8 * d + v7)) (cs (4 * f + d)) (fn k) (fo k) (ft k) true (fun v7 => (va_up (m_cp bd d 8) (8 * (d + 1) + xq) (if xq = 6 then none else some (fo k))) (8 * (d + 1) + v7)) from by (rw [← ecq]; refine Or.inr (Or.inr (Or.inl ⟨by assumption, by rw [← exq]; exact hncl, by omega, rfl, fun v7 hv7 => ?_⟩)); rw [← exq]; exact m_cp_hi hv7))⟩, by show va_P _ _ _ t9.heap; rw [h9]; exact hP9⟩, hS.F h9⟩) hS.2.2 dX8_binds_181
              · refine lv_iload hx hb dX8_binds_173 (lv_at hl 0 rfl) ?_
                refine lv_bipush (v := (nI (6))) hx hb dX8_binds_175 (by decide) ?_
                refine q_icmp_ne (x := yq) (y := 6) (tgt := 182) hx hb dX8_binds_177 (by decide) (by omega) (by omega) (fun c177_17 => ?_) (fun c177_17 => ?_)
                · refine lv_aload_n hx hb dX8_binds_182 rfl (lv_at hl 3 rfl) ?_
                  refine va_get (D := (dC, dI)) (ci := 8) (v := .ref z33) (C := RX8) (T := TX8) (N := 35) hx hb hts uX8 hown hK hP 0 rfl rfl 33 (by decide) (hts _ kfX8_87) (fun _ h9 => h9) rfl dX8_binds_183 ?_
                  refine lv_bipush (v := (nI (8))) hx hb dX8_binds_186 (by decide) ?_
                  refine lv_iload_n hx hb dX8_binds_188 rfl (lv_at hl 5 rfl) ?_
                  refine lv_iconst (v := (nI (1))) hx hb dX8_binds_189 (by decide) ?_
                  refine q_iadd (x := d) (y := 1) hx hb dX8_binds_190 ?_
                  refine q_imul (x := 8) (y := d + 1) hx hb dX8_binds_191 ?_
                  refine lv_iload hx hb dX8_binds_192 (lv_at hl 0 rfl) ?_
                  refine q_iadd (x := 8 * (d + 1)) (y := yq) hx hb dX8_binds_194 ?_
                  refine q_ialdO hx hb hK hP 5 0 rfl rfl (j := (8 * (d + 1)) + yq) (by omega) (by omega) dX8_binds_195 ?_
                  refine q_top (show (oI ((va_up (m_cp bd d 8) (8 * (d + 1) + xq) (if xq = 6 then none else some (fo k))) ((8 * (d + 1)) + yq))) = (oI (m_r1 (fun v7 => bd (8 * d + v7)) xq (fo k) yq)) from (congrArg oI (m_cp_hi (by omega)))) ?_
                  refine lv_istore (lv' := [(7, .int (oI (m_r1 (fun v7 => bd (8 * d + v7)) xq (fo k) yq))), (6, .int (nI (yq))), (5, .int (nI (xq))), (4, .int (nI (cq))), (0, .ref x0), (1, .int (nI (f))), (2, .int (nI (d))), (3, .int (nI (k)))]) hx hb dX8_binds_196 hl (by decide) rfl (fun ls hl => ?_)
                  have hr1b : ∀ j k7, m_r1 (fun v7 => bd (8 * d + v7)) xq (fo k) j = some k7 → k7 < 16 := up_oltn (fun j k7 h => hbd _ _ h) (if_olt (hfo k))
                  refine lv_aload_n hx hb dX8_binds_198 rfl (lv_at hl 4 rfl) ?_
                  refine va_get (D := (dC, dI)) (ci := 8) (v := .ref z33) (C := RX8) (T := TX8) (N := 35) hx hb hts uX8 hown hK hP 0 rfl rfl 33 (by decide) (hts _ kfX8_87) (fun _ h9 => h9) rfl dX8_binds_199 ?_
                  refine lv_bipush (v := (nI (8))) hx hb dX8_binds_202 (by decide) ?_
                  refine lv_iload_n hx hb dX8_binds_204 rfl (lv_at hl 6 rfl) ?_
                  refine lv_iconst (v := (nI (1))) hx hb dX8_binds_205 (by decide) ?_
                  refine q_iadd (x := d) (y := 1) hx hb dX8_binds_206 ?_
                  refine q_imul (x := 8) (y := d + 1) hx hb dX8_binds_207 ?_
                  refine lv_iload hx hb dX8_binds_208 (lv_at hl 1 rfl) ?_
                  refine q_iadd (x := 8 * (d + 1)) (y := yq) hx hb dX8_binds_210 ?_
                  refine lv_aload_n hx hb dX8_binds_211 rfl (lv_at hl 4 rfl) ?_
                  refine va_get (D := (dC, dI)) (ci := 8) (v := .ref z7) (C := RX8) (T := TX8) (N := 35) hx hb hts uX8 hown hK hP 0 rfl rfl 7 (by decide) (hts _ kfX8_25) (fun _ h9 => h9) rfl dX8_binds_212 ?_
                  refine lv_iload_n hx hb dX8_binds_215 rfl (lv_at hl 7 rfl) ?_
                  refine q_ialdN hx hb hK hP 4 0 rfl rfl (j := k) (by omega) (by omega) dX8_binds_216 ?_
                  have bd18 := hft k
                  refine q_iastO hx hb hK hP hD hS 5 0 rfl rfl (j := (8 * (d + 1)) + yq) (x := some (ft k)) (by omega) (by omega) dX8_binds_217 (fun H locs hP hD hS => ?_)
                  have hP : va_P (dC, dI) qCl [(x0, .inr (8, mO ax z1 z2 z3 fc z5 z6 z7 qs z9 z10 z11 z12 z13 hd lg fcn z17 z18 z19 md z21 z22 z23 z24 hc z26 z27 z28 z29 z30 z31 sm z33 z34)), (z18, .inl (cI, 360, .inl (nF cs))), (z5, .inl (cI, 60, .inl (nF fn))), (z6, .inl (cI, 60, .inl (nF fo))), (z7, .inl (cI, 60, .inl (nF ft))), (z33, .inl (cI, 40, .inl (oF (va_up (va_up (m_cp bd d 8) (8 * (d + 1) + xq) (if xq = 6 then none else some (fo k))) ((8 * (d + 1)) + yq) (some (ft k))))))] H := hP
                  have hD : va_D A [(x0, .inr (8, mO ax z1 z2 z3 fc z5 z6 z7 qs z9 z10 z11 z12 z13 hd lg fcn z17 z18 z19 md z21 z22 z23 z24 hc z26 z27 z28 z29 z30 z31 sm z33 z34)), (z18, .inl (cI, 360, .inl (nF cs))), (z5, .inl (cI, 60, .inl (nF fn))), (z6, .inl (cI, 60, .inl (nF fo))), (z7, .inl (cI, 60, .inl (nF ft))), (z33, .inl (cI, 40, .inl (oF (va_up (va_up (m_cp bd d 8) (8 * (d + 1) + xq) (if xq = 6 then none else some (fo k))) ((8 * (d + 1)) + yq) (some (ft k))))))] := hD
                  have hP : va_P (dC, dI) qCl [(x0, .inr (8, mO ax z1 z2 z3 fc z5 z6 z7 qs z9 z10 z11 z12 z13 hd lg fcn z17 z18 z19 md z21 z22 z23 z24 hc z26 z27 z28 z29 z30 z31 sm z33 z34)), (z18, .inl (cI, 360, .inl (nF cs))), (z5, .inl (cI, 60, .inl (nF fn))), (z6, .inl (cI, 60, .inl (nF fo))), (z7, .inl (cI, 60, .inl (nF ft))), (z33, .inl (cI, 40, .inl (oF (va_up (va_up (m_cp bd d 8) (8 * (d + 1) + xq) (if xq = 6 then none else some (fo k))) (8 * (d + 1) + yq) (some (ft k))))))] H := hP
                  have hD : va_D A [(x0, .inr (8, mO ax z1 z2 z3 fc z5 z6 z7 qs z9 z10 z11 z12 z13 hd lg fcn z17 z18 z19 md z21 z22 z23 z24 hc z26 z27 z28 z29 z30 z31 sm z33 z34)), (z18, .inl (cI, 360, .inl (nF cs))), (z5, .inl (cI, 60, .inl (nF fn))), (z6, .inl (cI, 60, .inl (nF fo))), (z7, .inl (cI, 60, .inl (nF ft))), (z33, .inl (cI, 40, .inl (oF (va_up (va_up (m_cp bd d 8) (8 * (d + 1) + xq) (if xq = 6 then none else some (fo k))) (8 * (d + 1) + yq) (some (ft k))))))] := hD
                  refine lv_iload hx hb dX8_binds_218 (lv_at hl 0 rfl) ?_
                  refine q_ifO_lt (x := m_r1 (fun v7 => bd (8 * d + v7)) xq (fo k) yq) (tgt := 234) hx hb dX8_binds_220 (by decide) (by (intro k9 h9; have := hr1b _ _ h9; omega)) (fun c220_19 => ?_) (fun c220_19 => ?_)
                  · refine lv_iconst (v := (nI (1))) hx hb dX8_binds_234 (by decide) ?_
                    refine lv_goto (tgt := 239) hx hb dX8_binds_235 (by decide) ?_
                    subst hQ
                    subst hAe
                    have hP9 := hP.sub (ws' := [(x0, .inr (8, mO ax z1 z2 z3 fc z5 z6 z7 qs z9 z10 z11 z12 z13 hd lg fcn z17 z18 z19 md z21 z22 z23 z24 hc z26 z27 z28 z29 z30 z31 sm z33 z34)), (z18, .inl (cI, 360, .inl (nF cs))), (z5, .inl (cI, 60, .inl (nF fn))), (z6, .inl (cI, 60, .inl (nF fo))), (z7, .inl (cI, 60, .inl (nF ft))), (z33, .inl (cI, 40, .inl (oF (va_up (va_up (m_cp bd d 8) (8 * (d + 1) + xq) (if xq = 6 then none else some (fo k))) (8 * (d + 1) + yq) (some (ft k))))))]) [0, 1, 2, 3, 4, 5] rfl
                    exact W.zret (v := (nI (1))) hx hb hr (by decide) (fun t9 h9 _ => ⟨⟨(nI (1)), (true, va_up (va_up (m_cp bd d 8) (8 * (d + 1) + xq) (if xq = 6 then none else some (fo k))) (8 * (d + 1) + yq) (some (ft k))), rfl, ⟨bI_1 rfl, (show ∀ j7, j7 < 8 * (d + 1) → (va_up (va_up (m_cp bd d 8) (8 * (d + 1) + xq) (if xq = 6 then none else some (fo k))) (8 * (d + 1) + yq) (some (ft k))) j7 = bd j7 from by (intro j7 hj7; rw [up_n _ _ (show j7 ≠ 8 * (d + 1) + yq by omega), up_n _ _ (show j7 ≠ 8 * (d + 1) + xq by omega)]; exact m_cp_lo hj7)), (show ∀ j7 k7, (va_up (va_up (m_cp bd d 8) (8 * (d + 1) + xq) (if xq = 6 then none else some (fo k))) (8 * (d + 1) + yq) (some (ft k))) j7 = some k7 → k7 < 16 from by (exact up_oltn (up_oltn (m_cp_lt hbd) (if_olt (hfo k))) (fun m7 h => (Option.some.inj h) ▸ hft k))), (show m_bn (fun v7 => bd (8 * d + v7)) (cs (4 * f + d)) (fn k) (fo k) (ft k) true (fun v7 => (va_up (va_up (m_cp bd d 8) (8 * (d + 1) + xq) (if xq = 6 then none else some (fo k))) (8 * (d + 1) + yq) (some (ft k))) (8 * (d + 1) + v7)) from by (rw [← ecq]; refine Or.inr (Or.inr (Or.inr ⟨by assumption, by rw [← exq]; exact hncl, by omega, ?_, fun v7 hv7 => by rw [← exq, ← eyq]; exact m_cp_hi2 hv7⟩)); rw [← exq, ← eyq]; first | (exact ⟨fun _ => Or.inl (by assumption), fun _ => rfl⟩) | (exact ⟨fun _ => Or.inr (by rw [eu8]; exact congrArg some (by assumption)), fun _ => rfl⟩) | (exact m_bf eu8 (by assumption))))⟩, by show va_P _ _ _ t9.heap; rw [h9]; exact hP9⟩, hS.F h9⟩) hS.2.2 dX8_binds_239
                  · obtain ⟨u8, eu8⟩ : ∃ u8, m_r1 (fun v7 => bd (8 * d + v7)) xq (fo k) yq = some u8 := Option.ne_none_iff_exists'.mp (by assumption)
                    have hu8 : u8 < 16 := hr1b _ _ eu8
                    have hl := lv_updv hl 0 rfl (show (.int (oI (m_r1 (fun v7 => bd (8 * d + v7)) xq (fo k) yq)) : Value) = .int (nI (u8)) from (by rw [eu8]; rfl))
                    have hl : lv_has ls 8 [(7, .int (nI (u8))), (6, .int (nI (yq))), (5, .int (nI (xq))), (4, .int (nI (cq))), (0, .ref x0), (1, .int (nI (f))), (2, .int (nI (d))), (3, .int (nI (k)))] := hl
                    refine lv_iload hx hb dX8_binds_223 (lv_at hl 0 rfl) ?_
                    refine lv_aload_n hx hb dX8_binds_225 rfl (lv_at hl 4 rfl) ?_
                    refine va_get (D := (dC, dI)) (ci := 8) (v := .ref z7) (C := RX8) (T := TX8) (N := 35) hx hb hts uX8 hown hK hP 0 rfl rfl 7 (by decide) (hts _ kfX8_25) (fun _ h9 => h9) rfl dX8_binds_226 ?_
                    refine lv_iload_n hx hb dX8_binds_229 rfl (lv_at hl 7 rfl) ?_
                    refine q_ialdN hx hb hK hP 4 0 rfl rfl (j := k) (by omega) (by omega) dX8_binds_230 ?_
                    have bd20 := hft k
                    refine q_icmp_ne (x := u8) (y := ft k) (tgt := 238) hx hb dX8_binds_231 (by decide) (by omega) (by omega) (fun c231_21 => ?_) (fun c231_21 => ?_)
                    · refine lv_iconst (v := (nI (0))) hx hb dX8_binds_238 (by decide) ?_
                      subst hQ
                      subst hAe
                      have hP9 := hP.sub (ws' := [(x0, .inr (8, mO ax z1 z2 z3 fc z5 z6 z7 qs z9 z10 z11 z12 z13 hd lg fcn z17 z18 z19 md z21 z22 z23 z24 hc z26 z27 z28 z29 z30 z31 sm z33 z34)), (z18, .inl (cI, 360, .inl (nF cs))), (z5, .inl (cI, 60, .inl (nF fn))), (z6, .inl (cI, 60, .inl (nF fo))), (z7, .inl (cI, 60, .inl (nF ft))), (z33, .inl (cI, 40, .inl (oF (va_up (va_up (m_cp bd d 8) (8 * (d + 1) + xq) (if xq = 6 then none else some (fo k))) (8 * (d + 1) + yq) (some (ft k))))))]) [0, 1, 2, 3, 4, 5] rfl
                      exact W.zret (v := (nI (0))) hx hb hr (by decide) (fun t9 h9 _ => ⟨⟨(nI (0)), (false, va_up (va_up (m_cp bd d 8) (8 * (d + 1) + xq) (if xq = 6 then none else some (fo k))) (8 * (d + 1) + yq) (some (ft k))), rfl, ⟨bI_0 rfl, (show ∀ j7, j7 < 8 * (d + 1) → (va_up (va_up (m_cp bd d 8) (8 * (d + 1) + xq) (if xq = 6 then none else some (fo k))) (8 * (d + 1) + yq) (some (ft k))) j7 = bd j7 from by (intro j7 hj7; rw [up_n _ _ (show j7 ≠ 8 * (d + 1) + yq by omega), up_n _ _ (show j7 ≠ 8 * (d + 1) + xq by omega)]; exact m_cp_lo hj7)), (show ∀ j7 k7, (va_up (va_up (m_cp bd d 8) (8 * (d + 1) + xq) (if xq = 6 then none else some (fo k))) (8 * (d + 1) + yq) (some (ft k))) j7 = some k7 → k7 < 16 from by (exact up_oltn (up_oltn (m_cp_lt hbd) (if_olt (hfo k))) (fun m7 h => (Option.some.inj h) ▸ hft k))), (show m_bn (fun v7 => bd (8 * d + v7)) (cs (4 * f + d)) (fn k) (fo k) (ft k) false (fun v7 => (va_up (va_up (m_cp bd d 8) (8 * (d + 1) + xq) (if xq = 6 then none else some (fo k))) (8 * (d + 1) + yq) (some (ft k))) (8 * (d + 1) + v7)) from by (rw [← ecq]; refine Or.inr (Or.inr (Or.inr ⟨by assumption, by rw [← exq]; exact hncl, by omega, ?_, fun v7 hv7 => by rw [← exq, ← eyq]; exact m_cp_hi2 hv7⟩)); rw [← exq, ← eyq]; first | (exact ⟨fun _ => Or.inl (by assumption), fun _ => rfl⟩) | (exact ⟨fun _ => Or.inr (by rw [eu8]; exact congrArg some (by assumption)), fun _ => rfl⟩) | (exact m_bf eu8 (by assumption))))⟩, by show va_P _ _ _ t9.heap; rw [h9]; exact hP9⟩, hS.F h9⟩) hS.2.2 dX8_binds_239
                    · refine lv_iconst (v := (nI (1))) hx hb dX8_binds_234 (by decide) ?_
                      refine lv_goto (tgt := 239) hx hb dX8_binds_235 (by decide) ?_
                      subst hQ
                      subst hAe
                      have hP9 := hP.sub (ws' := [(x0, .inr (8, mO ax z1 z2 z3 fc z5 z6 z7 qs z9 z10 z11 z12 z13 hd lg fcn z17 z18 z19 md z21 z22 z23 z24 hc z26 z27 z28 z29 z30 z31 sm z33 z34)), (z18, .inl (cI, 360, .inl (nF cs))), (z5, .inl (cI, 60, .inl (nF fn))), (z6, .inl (cI, 60, .inl (nF fo))), (z7, .inl (cI, 60, .inl (nF ft))), (z33, .inl (cI, 40, .inl (oF (va_up (va_up (m_cp bd d 8) (8 * (d + 1) + xq) (if xq = 6 then none else some (fo k))) (8 * (d + 1) + yq) (some (ft k))))))]) [0, 1, 2, 3, 4, 5] rfl
                      exact W.zret (v := (nI (1))) hx hb hr (by decide) (fun t9 h9 _ => ⟨⟨(nI (1)), (true, va_up (va_up (m_cp bd d 8) (8 * (d + 1) + xq) (if xq = 6 then none else some (fo k))) (8 * (d + 1) + yq) (some (ft k))), rfl, ⟨bI_1 rfl, (show ∀ j7, j7 < 8 * (d + 1) → (va_up (va_up (m_cp bd d 8) (8 * (d + 1) + xq) (if xq = 6 then none else some (fo k))) (8 * (d + 1) + yq) (some (ft k))) j7 = bd j7 from by (intro j7 hj7; rw [up_n _ _ (show j7 ≠ 8 * (d + 1) + yq by omega), up_n _ _ (show j7 ≠ 8 * (d + 1) + xq by omega)]; exact m_cp_lo hj7)), (show ∀ j7 k7, (va_up (va_up (m_cp bd d 8) (8 * (d + 1) + xq) (if xq = 6 then none else some (fo k))) (8 * (d + 1) + yq) (some (ft k))) j7 = some k7 → k7 < 16 from by (exact up_oltn (up_oltn (m_cp_lt hbd) (if_olt (hfo k))) (fun m7 h => (Option.some.inj h) ▸ hft k))), (show m_bn (fun v7 => bd (8 * d + v7)) (cs (4 * f + d)) (fn k) (fo k) (ft k) true (fun v7 => (va_up (va_up (m_cp bd d 8) (8 * (d + 1) + xq) (if xq = 6 then none else some (fo k))) (8 * (d + 1) + yq) (some (ft k))) (8 * (d + 1) + v7)) from by (rw [← ecq]; refine Or.inr (Or.inr (Or.inr ⟨by assumption, by rw [← exq]; exact hncl, by omega, ?_, fun v7 hv7 => by rw [← exq, ← eyq]; exact m_cp_hi2 hv7⟩)); rw [← exq, ← eyq]; first | (exact ⟨fun _ => Or.inl (by assumption), fun _ => rfl⟩) | (exact ⟨fun _ => Or.inr (by rw [eu8]; exact congrArg some (by assumption)), fun _ => rfl⟩) | (exact m_bf eu8 (by assumption))))⟩, by show va_P _ _ _ t9.heap; rw [h9]; exact hP9⟩, hS.F h9⟩) hS.2.2 dX8_binds_239
                · refine lv_iconst (v := (nI (1))) hx hb dX8_binds_180 (by decide) ?_
                  subst hQ
                  subst hAe
                  have hP9 := hP.sub (ws' := [(x0, .inr (8, mO ax z1 z2 z3 fc z5 z6 z7 qs z9 z10 z11 z12 z13 hd lg fcn z17 z18 z19 md z21 z22 z23 z24 hc z26 z27 z28 z29 z30 z31 sm z33 z34)), (z18, .inl (cI, 360, .inl (nF cs))), (z5, .inl (cI, 60, .inl (nF fn))), (z6, .inl (cI, 60, .inl (nF fo))), (z7, .inl (cI, 60, .inl (nF ft))), (z33, .inl (cI, 40, .inl (oF (va_up (m_cp bd d 8) (8 * (d + 1) + xq) (if xq = 6 then none else some (fo k))))))]) [0, 1, 2, 3, 4, 5] rfl
                  exact W.zret (v := (nI (1))) hx hb hr (by decide) (fun t9 h9 _ => ⟨⟨(nI (1)), (true, va_up (m_cp bd d 8) (8 * (d + 1) + xq) (if xq = 6 then none else some (fo k))), rfl, ⟨bI_1 rfl, (show ∀ j7, j7 < 8 * (d + 1) → (va_up (m_cp bd d 8) (8 * (d + 1) + xq) (if xq = 6 then none else some (fo k))) j7 = bd j7 from by (intro j7 hj7; rw [up_n _ _ (show j7 ≠ 8 * (d + 1) + xq by omega)]; exact m_cp_lo hj7)), (show ∀ j7 k7, (va_up (m_cp bd d 8) (8 * (d + 1) + xq) (if xq = 6 then none else some (fo k))) j7 = some k7 → k7 < 16 from by (exact up_oltn (m_cp_lt hbd) (if_olt (hfo k)))), (show m_bn (fun v7 => bd (8 * d + v7)) (cs (4 * f + d)) (fn k) (fo k) (ft k) true (fun v7 => (va_up (m_cp bd d 8) (8 * (d + 1) + xq) (if xq = 6 then none else some (fo k))) (8 * (d + 1) + v7)) from by (rw [← ecq]; refine Or.inr (Or.inr (Or.inl ⟨by assumption, by rw [← exq]; exact hncl, by omega, rfl, fun v7 hv7 => ?_⟩)); rw [← exq]; exact m_cp_hi hv7))⟩, by show va_P _ _ _ t9.heap; rw [h9]; exact hP9⟩, hS.F h9⟩) hS.2.2 dX8_binds_181
          refine lv_bipush (v := (nI (6))) hx hb dX8_binds_89 (by decide) ?_
          refine q_icmp_eq (x := xq) (y := 6) (tgt := 132) hx hb dX8_binds_91 (by decide) (by omega) (by omega) (fun c91_22 => ?_) (fun c91_22 => ?_)
          · exact L132  ls _ _ (show ¬ m_cl (fun v7 => bd (8 * d + v7)) xq (fo k) from by (first | (exact fun h9 => absurd (show xq = 6 by assumption) h9.1) | (exact m_ncl_n (show bd (8 * d + xq) = none by assumption)) | (exact m_ncl_e (u := u9) eu9 (by assumption)))) (lv_sub hl [1, 2, 3, 4, 5, 6, 7] rfl) (hP.sub [0, 1, 2, 3, 4, 5] rfl) (hD.sub [0, 1, 2, 3, 4, 5] (by decide) rfl) hS
          · refine lv_aload_n hx hb dX8_binds_94 rfl (lv_at hl 4 rfl) ?_
            refine va_get (D := (dC, dI)) (ci := 8) (v := .ref z33) (C := RX8) (T := TX8) (N := 35) hx hb hts uX8 hown hK hP 0 rfl rfl 33 (by decide) (hts _ kfX8_87) (fun _ h9 => h9) rfl dX8_binds_95 ?_
            refine lv_bipush (v := (nI (8))) hx hb dX8_binds_98 (by decide) ?_
            refine lv_iload_n hx hb dX8_binds_100 rfl (lv_at hl 6 rfl) ?_
            refine q_imul (x := 8) (y := d) hx hb dX8_binds_101 ?_
            refine lv_iload hx hb dX8_binds_102 (lv_at hl 2 rfl) ?_
            refine q_iadd (x := 8 * d) (y := xq) hx hb dX8_binds_104 ?_
            refine q_ialdO hx hb hK hP 5 0 rfl rfl (j := (8 * d) + xq) (by omega) (by omega) dX8_binds_105 ?_
            refine q_top (show (oI ((m_cp bd d 8) ((8 * d) + xq))) = (oI (bd (8 * d + xq))) from (congrArg oI (m_cp_lo (by omega)))) ?_
            refine q_ifO_lt (x := bd (8 * d + xq)) (tgt := 132) hx hb dX8_binds_106 (by decide) (by (intro k9 h9; have := hbd _ _ h9; omega)) (fun c106_23 => ?_) (fun c106_23 => ?_)
            · exact L132  ls _ _ (show ¬ m_cl (fun v7 => bd (8 * d + v7)) xq (fo k) from by (first | (exact fun h9 => absurd (show xq = 6 by assumption) h9.1) | (exact m_ncl_n (show bd (8 * d + xq) = none by assumption)) | (exact m_ncl_e (u := u9) eu9 (by assumption)))) (lv_sub hl [1, 2, 3, 4, 5, 6, 7] rfl) (hP.sub [0, 1, 2, 3, 4, 5] rfl) (hD.sub [0, 1, 2, 3, 4, 5] (by decide) rfl) hS
            · obtain ⟨u9, eu9⟩ : ∃ u9, bd (8 * d + xq) = some u9 := Option.ne_none_iff_exists'.mp (by assumption)
              have hu9 := hbd _ _ eu9
              refine lv_aload_n hx hb dX8_binds_109 rfl (lv_at hl 4 rfl) ?_
              refine va_get (D := (dC, dI)) (ci := 8) (v := .ref z33) (C := RX8) (T := TX8) (N := 35) hx hb hts uX8 hown hK hP 0 rfl rfl 33 (by decide) (hts _ kfX8_87) (fun _ h9 => h9) rfl dX8_binds_110 ?_
              refine lv_bipush (v := (nI (8))) hx hb dX8_binds_113 (by decide) ?_
              refine lv_iload_n hx hb dX8_binds_115 rfl (lv_at hl 6 rfl) ?_
              refine q_imul (x := 8) (y := d) hx hb dX8_binds_116 ?_
              refine lv_iload hx hb dX8_binds_117 (lv_at hl 2 rfl) ?_
              refine q_iadd (x := 8 * d) (y := xq) hx hb dX8_binds_119 ?_
              refine q_ialdO hx hb hK hP 5 0 rfl rfl (j := (8 * d) + xq) (by omega) (by omega) dX8_binds_120 ?_
              refine q_top (show (oI ((m_cp bd d 8) ((8 * d) + xq))) = (nI (u9)) from (congrArg oI ((m_cp_lo (by omega)).trans eu9))) ?_
              refine lv_aload_n hx hb dX8_binds_121 rfl (lv_at hl 4 rfl) ?_
              refine va_get (D := (dC, dI)) (ci := 8) (v := .ref z6) (C := RX8) (T := TX8) (N := 35) hx hb hts uX8 hown hK hP 0 rfl rfl 6 (by decide) (hts _ kfX8_22) (fun _ h9 => h9) rfl dX8_binds_122 ?_
              refine lv_iload_n hx hb dX8_binds_125 rfl (lv_at hl 7 rfl) ?_
              refine q_ialdN hx hb hK hP 3 0 rfl rfl (j := k) (by omega) (by omega) dX8_binds_126 ?_
              have bd24 := hfo k
              refine q_icmp_eq (x := u9) (y := fo k) (tgt := 132) hx hb dX8_binds_127 (by decide) (by omega) (by omega) (fun c127_25 => ?_) (fun c127_25 => ?_)
              · exact L132  ls _ _ (show ¬ m_cl (fun v7 => bd (8 * d + v7)) xq (fo k) from by (first | (exact fun h9 => absurd (show xq = 6 by assumption) h9.1) | (exact m_ncl_n (show bd (8 * d + xq) = none by assumption)) | (exact m_ncl_e (u := u9) eu9 (by assumption)))) (lv_sub hl [1, 2, 3, 4, 5, 6, 7] rfl) (hP.sub [0, 1, 2, 3, 4, 5] rfl) (hD.sub [0, 1, 2, 3, 4, 5] (by decide) rfl) hS
              · refine lv_iconst (v := (nI (0))) hx hb dX8_binds_130 (by decide) ?_
                subst hQ
                subst hAe
                have hP9 := hP.sub (ws' := [(x0, .inr (8, mO ax z1 z2 z3 fc z5 z6 z7 qs z9 z10 z11 z12 z13 hd lg fcn z17 z18 z19 md z21 z22 z23 z24 hc z26 z27 z28 z29 z30 z31 sm z33 z34)), (z18, .inl (cI, 360, .inl (nF cs))), (z5, .inl (cI, 60, .inl (nF fn))), (z6, .inl (cI, 60, .inl (nF fo))), (z7, .inl (cI, 60, .inl (nF ft))), (z33, .inl (cI, 40, .inl (oF (m_cp bd d 8))))]) [0, 1, 2, 3, 4, 5] rfl
                exact W.zret (v := (nI (0))) hx hb hr (by decide) (fun t9 h9 _ => ⟨⟨(nI (0)), (false, m_cp bd d 8), rfl, ⟨bI_0 rfl, (show ∀ j7, j7 < 8 * (d + 1) → (m_cp bd d 8) j7 = bd j7 from by (intro j7 hj7; exact m_cp_lo hj7)), (show ∀ j7 k7, (m_cp bd d 8) j7 = some k7 → k7 < 16 from by (exact m_cp_lt hbd)), (show m_bn (fun v7 => bd (8 * d + v7)) (cs (4 * f + d)) (fn k) (fo k) (ft k) false (fun v7 => (m_cp bd d 8) (8 * (d + 1) + v7)) from by (rw [← ecq]; exact Or.inr (Or.inl ⟨by assumption, by rw [← exq]; exact ⟨by assumption, u9, eu9, by assumption⟩, rfl⟩)))⟩, by show va_P _ _ _ t9.heap; rw [h9]; exact hP9⟩, hS.F h9⟩) hS.2.2 dX8_binds_131
        · refine lv_aload_n hx hb dX8_binds_55 rfl (lv_at hl 4 rfl) ?_
          refine va_get (D := (dC, dI)) (ci := 8) (v := .ref z33) (C := RX8) (T := TX8) (N := 35) hx hb hts uX8 hown hK hP 0 rfl rfl 33 (by decide) (hts _ kfX8_87) (fun _ h9 => h9) rfl dX8_binds_56 ?_
          refine lv_bipush (v := (nI (8))) hx hb dX8_binds_59 (by decide) ?_
          refine lv_iload_n hx hb dX8_binds_61 rfl (lv_at hl 6 rfl) ?_
          refine lv_iconst (v := (nI (1))) hx hb dX8_binds_62 (by decide) ?_
          refine q_iadd (x := d) (y := 1) hx hb dX8_binds_63 ?_
          refine q_imul (x := 8) (y := d + 1) hx hb dX8_binds_64 ?_
          refine lv_iload hx hb dX8_binds_65 (lv_at hl 0 rfl) ?_
          refine q_iadd (x := 8 * (d + 1)) (y := w) hx hb dX8_binds_67 ?_
          refine lv_aload_n hx hb dX8_binds_68 rfl (lv_at hl 4 rfl) ?_
          refine va_get (D := (dC, dI)) (ci := 8) (v := .ref z33) (C := RX8) (T := TX8) (N := 35) hx hb hts uX8 hown hK hP 0 rfl rfl 33 (by decide) (hts _ kfX8_87) (fun _ h9 => h9) rfl dX8_binds_69 ?_
          refine lv_bipush (v := (nI (8))) hx hb dX8_binds_72 (by decide) ?_
          refine lv_iload_n hx hb dX8_binds_74 rfl (lv_at hl 6 rfl) ?_
          refine q_imul (x := 8) (y := d) hx hb dX8_binds_75 ?_
          refine lv_iload hx hb dX8_binds_76 (lv_at hl 0 rfl) ?_
          refine q_iadd (x := 8 * d) (y := w) hx hb dX8_binds_78 ?_
          refine q_ialdO hx hb hK hP 5 0 rfl rfl (j := (8 * d) + w) (by omega) (by omega) dX8_binds_79 ?_
          refine q_iastO hx hb hK hP hD hS 5 0 rfl rfl (j := (8 * (d + 1)) + w) (x := g ((8 * d) + w)) (by omega) (by omega) dX8_binds_80 (fun H locs hP hD hS => ?_)
          have hP : va_P (dC, dI) qCl [(x0, .inr (8, mO ax z1 z2 z3 fc z5 z6 z7 qs z9 z10 z11 z12 z13 hd lg fcn z17 z18 z19 md z21 z22 z23 z24 hc z26 z27 z28 z29 z30 z31 sm z33 z34)), (z18, .inl (cI, 360, .inl (nF cs))), (z5, .inl (cI, 60, .inl (nF fn))), (z6, .inl (cI, 60, .inl (nF fo))), (z7, .inl (cI, 60, .inl (nF ft))), (z33, .inl (cI, 40, .inl (oF (va_up g ((8 * (d + 1)) + w) (g ((8 * d) + w))))))] H := hP
          have hD : va_D A [(x0, .inr (8, mO ax z1 z2 z3 fc z5 z6 z7 qs z9 z10 z11 z12 z13 hd lg fcn z17 z18 z19 md z21 z22 z23 z24 hc z26 z27 z28 z29 z30 z31 sm z33 z34)), (z18, .inl (cI, 360, .inl (nF cs))), (z5, .inl (cI, 60, .inl (nF fn))), (z6, .inl (cI, 60, .inl (nF fo))), (z7, .inl (cI, 60, .inl (nF ft))), (z33, .inl (cI, 40, .inl (oF (va_up g ((8 * (d + 1)) + w) (g ((8 * d) + w))))))] := hD
          refine lv_iinc (v := (nI (w + 1))) (lv' := [(7, .int (nI (w + 1))), (6, .int (nI (yq))), (5, .int (nI (xq))), (4, .int (nI (cq))), (0, .ref x0), (1, .int (nI (f))), (2, .int (nI (d))), (3, .int (nI (k)))]) hx hb dX8_binds_81 hl (k := 0) rfl (q_inc _) (by decide) rfl (fun ls hl => ?_)
          refine lv_goto (tgt := 48) hx hb dX8_binds_84 (by decide) ?_
          exact ih48 (va_up g ((8 * (d + 1)) + w) (g ((8 * d) + w))) (w + 1) ls _ _ (by omega) (show (w + 1) ≤ 8 from by omega) (show (va_up g ((8 * (d + 1)) + w) (g ((8 * d) + w))) = m_cp bd d (w + 1) from by (rw [hg]; exact m_cp_s (by omega))) (lv_sub hl [0, 1, 2, 3, 4, 5, 6, 7] rfl) (hP.sub [0, 1, 2, 3, 4, 5] rfl) (hD.sub [0, 1, 2, 3, 4, 5] (by decide) rfl) hS
    exact L48 _ bd 0 ls _ _ (by exact Nat.lt_succ_self _) (show 0 ≤ 8 from by omega) (show bd = m_cp bd d 0 from by (exact (m_cp_0 _ _).symm)) (lv_sub hl [0, 1, 2, 3, 4, 5, 6, 7] rfl) (hP.sub [0, 1, 2, 3, 4, 5] rfl) (hD.sub [0, 1, 2, 3, 4, 5] (by decide) rfl) hS
  · refine lv_iconst (v := (nI (0))) hx hb dX8_binds_43 (by decide) ?_
    subst hQ
    subst hAe
    have hP9 := hP.sub (ws' := [(x0, .inr (8, mO ax z1 z2 z3 fc z5 z6 z7 qs z9 z10 z11 z12 z13 hd lg fcn z17 z18 z19 md z21 z22 z23 z24 hc z26 z27 z28 z29 z30 z31 sm z33 z34)), (z18, .inl (cI, 360, .inl (nF cs))), (z5, .inl (cI, 60, .inl (nF fn))), (z6, .inl (cI, 60, .inl (nF fo))), (z7, .inl (cI, 60, .inl (nF ft))), (z33, .inl (cI, 40, .inl (oF bd)))]) [0, 1, 2, 3, 4, 5] rfl
    exact W.zret (v := (nI (0))) hx hb hr (by decide) (fun t9 h9 _ => ⟨⟨(nI (0)), (false, bd), rfl, ⟨bI_0 rfl, (show ∀ j7, j7 < 8 * (d + 1) → bd j7 = bd j7 from by (intro j7 _; rfl)), (show ∀ j7 k7, bd j7 = some k7 → k7 < 16 from by (exact hbd)), (show m_bn (fun v7 => bd (8 * d + v7)) (cs (4 * f + d)) (fn k) (fo k) (ft k) false (fun v7 => bd (8 * (d + 1) + v7)) from by (rw [← ecq]; exact Or.inl ⟨by assumption, rfl⟩))⟩, by show va_P _ _ _ t9.heap; rw [h9]; exact hP9⟩, hS.F h9⟩) hS.2.2 dX8_binds_44
