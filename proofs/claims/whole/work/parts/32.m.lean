def m_rnb (pp pb : Nat → Nat) (k fr to : Nat) : Nat → Nat := fun j => if j < k ∧ 32 ≤ pp j ∧ pb j = fr then to else pb j
def m_rnh (he : Nat → Option Nat) (k fr to : Nat) : Nat → Option Nat := fun j => if j < k ∧ he j = some fr then some to else he j
theorem f_ren_n {pl : Nat → Nat} {i fr : Nat} (to : Nat) (h : ¬ pl i = fr) : va_up (f_ren pl i fr to) i (pl i) = f_ren pl (i + 1) fr to := by
  rw [← f_ren_f to h]
  funext j
  by_cases hj : j = i
  · rw [hj, up_s, f_ren_at]
  · rw [up_n _ _ hj]
theorem m_rnb_at (pp pb : Nat → Nat) (i fr to : Nat) : m_rnb pp pb i fr to i = pb i := by unfold m_rnb; rw [if_neg (by omega)]
theorem m_rnb_0 (pp pb : Nat → Nat) (fr to : Nat) : m_rnb pp pb 0 fr to = pb := by funext j; unfold m_rnb; rw [if_neg (by omega)]
theorem m_rnb_t {pp pb : Nat → Nat} {i fr : Nat} (to : Nat) (h : 32 ≤ pp i ∧ pb i = fr) : va_up (m_rnb pp pb i fr to) i to = m_rnb pp pb (i + 1) fr to := by
  funext j
  by_cases hj : j = i
  · rw [hj, up_s]; unfold m_rnb; rw [if_pos ⟨by omega, h⟩]
  · rw [up_n _ _ hj]; unfold m_rnb
    by_cases h2 : j < i ∧ 32 ≤ pp j ∧ pb j = fr
    · rw [if_pos h2, if_pos ⟨by omega, h2.2⟩]
    · rw [if_neg h2, if_neg (fun h3 => h2 ⟨by omega, h3.2⟩)]
theorem m_rnb_f {pp pb : Nat → Nat} {i fr : Nat} (to : Nat) (h : ¬ (32 ≤ pp i ∧ pb i = fr)) : va_up (m_rnb pp pb i fr to) i (pb i) = m_rnb pp pb (i + 1) fr to := by
  funext j
  by_cases hj : j = i
  · rw [hj, up_s]; unfold m_rnb; rw [if_neg (fun h3 => h h3.2)]
  · rw [up_n _ _ hj]; unfold m_rnb
    by_cases h2 : j < i ∧ 32 ≤ pp j ∧ pb j = fr
    · rw [if_pos h2, if_pos ⟨by omega, h2.2⟩]
    · rw [if_neg h2, if_neg (fun h3 => h2 ⟨by omega, h3.2⟩)]
theorem m_rnh_at (he : Nat → Option Nat) (i fr to : Nat) : m_rnh he i fr to i = he i := by unfold m_rnh; rw [if_neg (by omega)]
theorem m_rnh_0 (he : Nat → Option Nat) (fr to : Nat) : m_rnh he 0 fr to = he := by funext j; unfold m_rnh; rw [if_neg (by omega)]
theorem m_rnh_s {he : Nat → Option Nat} {i fr : Nat} (to : Nat) {o : Option Nat} (h : he i = some fr ∧ o = some to ∨ ¬ he i = some fr ∧ o = he i) : va_up (m_rnh he i fr to) i o = m_rnh he (i + 1) fr to := by
  funext j
  by_cases hj : j = i
  · rw [hj, up_s]; unfold m_rnh
    rcases h with ⟨h1, h2⟩ | ⟨h1, h2⟩
    · rw [if_pos ⟨by omega, h1⟩]; exact h2
    · rw [if_neg (fun h3 => h1 h3.2)]; exact h2
  · rw [up_n _ _ hj]; unfold m_rnh
    by_cases h2 : j < i ∧ he j = some fr
    · rw [if_pos h2, if_pos ⟨by omega, h2.2⟩]
    · rw [if_neg h2, if_neg (fun h3 => h2 ⟨by omega, h3.2⟩)]
def m_jn (pp pa pb : Nat → Nat) (he : Nat → Option Nat) (md hc x y r1 : Nat) (pa1 pb1 : Nat → Nat) (he1 : Nat → Option Nat) : Prop :=
  if x = 6 ∨ y = 6 ∨ x = y then r1 = (if x = 6 then y else x) ∧ pa1 = pa ∧ pb1 = pb ∧ he1 = he
  else r1 = min x y ∧ pa1 = f_ren pa md (max x y) (min x y) ∧ pb1 = m_rnb pp pb md (max x y) (min x y) ∧ he1 = m_rnh he hc (max x y) (min x y)
theorem m_h_some {he : Nat → Option Nat} {i u : Nat} (h : he i = some (m_h he i)) : m_h he i = u ↔ he i = some u := by
  rw [h]; simp [m_h]
abbrev cX8_sortAt : ByteArray := prog_10_method_26_code
def yX8_sortAt : MethodName := ⟨RX8, "sortAt", "(III)V"⟩
def wkX8_sortAt : List Cond := .code yX8_sortAt cX8_sortAt 4 none :: qW
set_option maxRecDepth 40000 in
theorem gkX8_sortAt : GoodIn qW wkX8_sortAt := q_good (qw 785 rfl rfl)
set_option maxRecDepth 40000 in
theorem knX8_sortAt : Cond.instanceMethod yX8_sortAt ∈ qW := qw 784 rfl rfl
set_option maxRecDepth 40000 in
theorem klX8_sortAt : Cond.selects RX8 yX8_sortAt yX8_sortAt ∈ qW := qw 34 rfl rfl
theorem dX8_sortAt_0 : decode cX8_sortAt 0 = .ok (.aload_n 0, 1) := by decide +kernel
theorem dX8_sortAt_1 : decode cX8_sortAt 1 = .ok (.getfield 56, 3) := by decide +kernel
theorem dX8_sortAt_4 : decode cX8_sortAt 4 = .ok (.iload_n 1, 1) := by decide +kernel
theorem dX8_sortAt_5 : decode cX8_sortAt 5 = .ok (.iload_n 2, 1) := by decide +kernel
theorem dX8_sortAt_6 : decode cX8_sortAt 6 = .ok (.bipush 10, 2) := by decide +kernel
theorem dX8_sortAt_8 : decode cX8_sortAt 8 = .ok (.if_icmp .ge 7, 3) := by decide +kernel
theorem dX8_sortAt_11 : decode cX8_sortAt 11 = .ok (.iload_n 2, 1) := by decide +kernel
theorem dX8_sortAt_12 : decode cX8_sortAt 12 = .ok (.goto 12, 3) := by decide +kernel
theorem dX8_sortAt_15 : decode cX8_sortAt 15 = .ok (.bipush 32, 2) := by decide +kernel
theorem dX8_sortAt_17 : decode cX8_sortAt 17 = .ok (.iload_n 2, 1) := by decide +kernel
theorem dX8_sortAt_18 : decode cX8_sortAt 18 = .ok (.bipush 20, 2) := by decide +kernel
theorem dX8_sortAt_20 : decode cX8_sortAt 20 = .ok (.isub, 1) := by decide +kernel
theorem dX8_sortAt_21 : decode cX8_sortAt 21 = .ok (.iconst 2, 1) := by decide +kernel
theorem dX8_sortAt_22 : decode cX8_sortAt 22 = .ok (.idiv, 1) := by decide +kernel
theorem dX8_sortAt_23 : decode cX8_sortAt 23 = .ok (.iadd, 1) := by decide +kernel
theorem dX8_sortAt_24 : decode cX8_sortAt 24 = .ok (.iastore, 1) := by decide +kernel
theorem dX8_sortAt_25 : decode cX8_sortAt 25 = .ok (.aload_n 0, 1) := by decide +kernel
theorem dX8_sortAt_26 : decode cX8_sortAt 26 = .ok (.getfield 59, 3) := by decide +kernel
theorem dX8_sortAt_29 : decode cX8_sortAt 29 = .ok (.iload_n 1, 1) := by decide +kernel
theorem dX8_sortAt_30 : decode cX8_sortAt 30 = .ok (.iload_n 2, 1) := by decide +kernel
theorem dX8_sortAt_31 : decode cX8_sortAt 31 = .ok (.bipush 10, 2) := by decide +kernel
theorem dX8_sortAt_33 : decode cX8_sortAt 33 = .ok (.if_icmp .lt 9, 3) := by decide +kernel
theorem dX8_sortAt_36 : decode cX8_sortAt 36 = .ok (.iload_n 2, 1) := by decide +kernel
theorem dX8_sortAt_37 : decode cX8_sortAt 37 = .ok (.iconst 2, 1) := by decide +kernel
theorem dX8_sortAt_38 : decode cX8_sortAt 38 = .ok (.irem, 1) := by decide +kernel
theorem dX8_sortAt_39 : decode cX8_sortAt 39 = .ok (.ifCond .ne 7, 3) := by decide +kernel
theorem dX8_sortAt_42 : decode cX8_sortAt 42 = .ok (.iload_n 3, 1) := by decide +kernel
theorem dX8_sortAt_43 : decode cX8_sortAt 43 = .ok (.goto 5, 3) := by decide +kernel
theorem dX8_sortAt_46 : decode cX8_sortAt 46 = .ok (.bipush 6, 2) := by decide +kernel
theorem dX8_sortAt_48 : decode cX8_sortAt 48 = .ok (.iastore, 1) := by decide +kernel
theorem dX8_sortAt_49 : decode cX8_sortAt 49 = .ok (.aload_n 0, 1) := by decide +kernel
theorem dX8_sortAt_50 : decode cX8_sortAt 50 = .ok (.getfield 62, 3) := by decide +kernel
theorem dX8_sortAt_53 : decode cX8_sortAt 53 = .ok (.iload_n 1, 1) := by decide +kernel
theorem dX8_sortAt_54 : decode cX8_sortAt 54 = .ok (.iload_n 2, 1) := by decide +kernel
theorem dX8_sortAt_55 : decode cX8_sortAt 55 = .ok (.bipush 10, 2) := by decide +kernel
theorem dX8_sortAt_57 : decode cX8_sortAt 57 = .ok (.if_icmp .ge 8, 3) := by decide +kernel
theorem dX8_sortAt_60 : decode cX8_sortAt 60 = .ok (.bipush 7, 2) := by decide +kernel
theorem dX8_sortAt_62 : decode cX8_sortAt 62 = .ok (.goto 15, 3) := by decide +kernel
theorem dX8_sortAt_65 : decode cX8_sortAt 65 = .ok (.iload_n 2, 1) := by decide +kernel
theorem dX8_sortAt_66 : decode cX8_sortAt 66 = .ok (.iconst 2, 1) := by decide +kernel
theorem dX8_sortAt_67 : decode cX8_sortAt 67 = .ok (.irem, 1) := by decide +kernel
theorem dX8_sortAt_68 : decode cX8_sortAt 68 = .ok (.ifCond .ne 8, 3) := by decide +kernel
theorem dX8_sortAt_71 : decode cX8_sortAt 71 = .ok (.bipush 6, 2) := by decide +kernel
theorem dX8_sortAt_73 : decode cX8_sortAt 73 = .ok (.goto 4, 3) := by decide +kernel
theorem dX8_sortAt_76 : decode cX8_sortAt 76 = .ok (.iload_n 3, 1) := by decide +kernel
theorem dX8_sortAt_77 : decode cX8_sortAt 77 = .ok (.iastore, 1) := by decide +kernel
theorem dX8_sortAt_78 : decode cX8_sortAt 78 = .ok (.return_, 1) := by decide +kernel
abbrev cX8_wayAt : ByteArray := prog_10_method_27_code
def yX8_wayAt : MethodName := ⟨RX8, "wayAt", "(IIII)V"⟩
def wkX8_wayAt : List Cond := .code yX8_wayAt cX8_wayAt 5 none :: qW
set_option maxRecDepth 40000 in
theorem gkX8_wayAt : GoodIn qW wkX8_wayAt := q_good (qw 837 rfl rfl)
set_option maxRecDepth 40000 in
theorem knX8_wayAt : Cond.instanceMethod yX8_wayAt ∈ qW := qw 836 rfl rfl
set_option maxRecDepth 40000 in
theorem klX8_wayAt : Cond.selects RX8 yX8_wayAt yX8_wayAt ∈ qW := qw 42 rfl rfl
theorem dX8_wayAt_0 : decode cX8_wayAt 0 = .ok (.aload_n 0, 1) := by decide +kernel
theorem dX8_wayAt_1 : decode cX8_wayAt 1 = .ok (.getfield 56, 3) := by decide +kernel
theorem dX8_wayAt_4 : decode cX8_wayAt 4 = .ok (.iload_n 1, 1) := by decide +kernel
theorem dX8_wayAt_5 : decode cX8_wayAt 5 = .ok (.bipush 32, 2) := by decide +kernel
theorem dX8_wayAt_7 : decode cX8_wayAt 7 = .ok (.iload_n 2, 1) := by decide +kernel
theorem dX8_wayAt_8 : decode cX8_wayAt 8 = .ok (.iconst 2, 1) := by decide +kernel
theorem dX8_wayAt_9 : decode cX8_wayAt 9 = .ok (.idiv, 1) := by decide +kernel
theorem dX8_wayAt_10 : decode cX8_wayAt 10 = .ok (.iadd, 1) := by decide +kernel
theorem dX8_wayAt_11 : decode cX8_wayAt 11 = .ok (.iastore, 1) := by decide +kernel
theorem dX8_wayAt_12 : decode cX8_wayAt 12 = .ok (.aload_n 0, 1) := by decide +kernel
theorem dX8_wayAt_13 : decode cX8_wayAt 13 = .ok (.getfield 59, 3) := by decide +kernel
theorem dX8_wayAt_16 : decode cX8_wayAt 16 = .ok (.iload_n 1, 1) := by decide +kernel
theorem dX8_wayAt_17 : decode cX8_wayAt 17 = .ok (.iload_n 2, 1) := by decide +kernel
theorem dX8_wayAt_18 : decode cX8_wayAt 18 = .ok (.iconst 2, 1) := by decide +kernel
theorem dX8_wayAt_19 : decode cX8_wayAt 19 = .ok (.irem, 1) := by decide +kernel
theorem dX8_wayAt_20 : decode cX8_wayAt 20 = .ok (.ifCond .ne 7, 3) := by decide +kernel
theorem dX8_wayAt_23 : decode cX8_wayAt 23 = .ok (.iload_n 3, 1) := by decide +kernel
theorem dX8_wayAt_24 : decode cX8_wayAt 24 = .ok (.goto 5, 3) := by decide +kernel
theorem dX8_wayAt_27 : decode cX8_wayAt 27 = .ok (.iload 4, 2) := by decide +kernel
theorem dX8_wayAt_29 : decode cX8_wayAt 29 = .ok (.iastore, 1) := by decide +kernel
theorem dX8_wayAt_30 : decode cX8_wayAt 30 = .ok (.aload_n 0, 1) := by decide +kernel
theorem dX8_wayAt_31 : decode cX8_wayAt 31 = .ok (.getfield 62, 3) := by decide +kernel
theorem dX8_wayAt_34 : decode cX8_wayAt 34 = .ok (.iload_n 1, 1) := by decide +kernel
theorem dX8_wayAt_35 : decode cX8_wayAt 35 = .ok (.iload_n 2, 1) := by decide +kernel
theorem dX8_wayAt_36 : decode cX8_wayAt 36 = .ok (.iconst 2, 1) := by decide +kernel
theorem dX8_wayAt_37 : decode cX8_wayAt 37 = .ok (.irem, 1) := by decide +kernel
theorem dX8_wayAt_38 : decode cX8_wayAt 38 = .ok (.ifCond .ne 8, 3) := by decide +kernel
theorem dX8_wayAt_41 : decode cX8_wayAt 41 = .ok (.iload 4, 2) := by decide +kernel
theorem dX8_wayAt_43 : decode cX8_wayAt 43 = .ok (.goto 4, 3) := by decide +kernel
theorem dX8_wayAt_46 : decode cX8_wayAt 46 = .ok (.iload_n 3, 1) := by decide +kernel
theorem dX8_wayAt_47 : decode cX8_wayAt 47 = .ok (.iastore, 1) := by decide +kernel
theorem dX8_wayAt_48 : decode cX8_wayAt 48 = .ok (.return_, 1) := by decide +kernel
abbrev cX8_join : ByteArray := prog_10_method_29_code
def yX8_join : MethodName := ⟨RX8, "join", "(II)I"⟩
def wkX8_join : List Cond := .code yX8_join cX8_join 6 (some .int) :: qW
set_option maxRecDepth 40000 in
theorem gkX8_join : GoodIn qW wkX8_join := q_good (qw 793 rfl rfl)
set_option maxRecDepth 40000 in
theorem knX8_join : Cond.instanceMethod yX8_join ∈ qW := qw 792 rfl rfl
set_option maxRecDepth 40000 in
theorem klX8_join : Cond.selects RX8 yX8_join yX8_join ∈ qW := qw 36 rfl rfl
theorem dX8_join_0 : decode cX8_join 0 = .ok (.iload_n 1, 1) := by decide +kernel
theorem dX8_join_1 : decode cX8_join 1 = .ok (.bipush 6, 2) := by decide +kernel
theorem dX8_join_3 : decode cX8_join 3 = .ok (.if_icmp .eq 14, 3) := by decide +kernel
theorem dX8_join_6 : decode cX8_join 6 = .ok (.iload_n 2, 1) := by decide +kernel
theorem dX8_join_7 : decode cX8_join 7 = .ok (.bipush 6, 2) := by decide +kernel
theorem dX8_join_9 : decode cX8_join 9 = .ok (.if_icmp .eq 8, 3) := by decide +kernel
theorem dX8_join_12 : decode cX8_join 12 = .ok (.iload_n 1, 1) := by decide +kernel
theorem dX8_join_13 : decode cX8_join 13 = .ok (.iload_n 2, 1) := by decide +kernel
theorem dX8_join_14 : decode cX8_join 14 = .ok (.if_icmp .ne 15, 3) := by decide +kernel
theorem dX8_join_17 : decode cX8_join 17 = .ok (.iload_n 1, 1) := by decide +kernel
theorem dX8_join_18 : decode cX8_join 18 = .ok (.bipush 6, 2) := by decide +kernel
theorem dX8_join_20 : decode cX8_join 20 = .ok (.if_icmp .ne 7, 3) := by decide +kernel
theorem dX8_join_23 : decode cX8_join 23 = .ok (.iload_n 2, 1) := by decide +kernel
theorem dX8_join_24 : decode cX8_join 24 = .ok (.goto 4, 3) := by decide +kernel
theorem dX8_join_27 : decode cX8_join 27 = .ok (.iload_n 1, 1) := by decide +kernel
theorem dX8_join_28 : decode cX8_join 28 = .ok (.ireturn, 1) := by decide +kernel
theorem dX8_join_29 : decode cX8_join 29 = .ok (.iload_n 1, 1) := by decide +kernel
theorem dX8_join_30 : decode cX8_join 30 = .ok (.iload_n 2, 1) := by decide +kernel
theorem dX8_join_31 : decode cX8_join 31 = .ok (.if_icmp .ge 7, 3) := by decide +kernel
theorem dX8_join_34 : decode cX8_join 34 = .ok (.iload_n 1, 1) := by decide +kernel
theorem dX8_join_35 : decode cX8_join 35 = .ok (.goto 4, 3) := by decide +kernel
theorem dX8_join_38 : decode cX8_join 38 = .ok (.iload_n 2, 1) := by decide +kernel
theorem dX8_join_39 : decode cX8_join 39 = .ok (.istore_n 3, 1) := by decide +kernel
theorem dX8_join_40 : decode cX8_join 40 = .ok (.iload_n 1, 1) := by decide +kernel
theorem dX8_join_41 : decode cX8_join 41 = .ok (.iload_n 2, 1) := by decide +kernel
theorem dX8_join_42 : decode cX8_join 42 = .ok (.if_icmp .ge 7, 3) := by decide +kernel
theorem dX8_join_45 : decode cX8_join 45 = .ok (.iload_n 2, 1) := by decide +kernel
theorem dX8_join_46 : decode cX8_join 46 = .ok (.goto 4, 3) := by decide +kernel
theorem dX8_join_49 : decode cX8_join 49 = .ok (.iload_n 1, 1) := by decide +kernel
theorem dX8_join_50 : decode cX8_join 50 = .ok (.istore 4, 2) := by decide +kernel
theorem dX8_join_52 : decode cX8_join 52 = .ok (.iconst 0, 1) := by decide +kernel
theorem dX8_join_53 : decode cX8_join 53 = .ok (.istore 5, 2) := by decide +kernel
theorem dX8_join_55 : decode cX8_join 55 = .ok (.iload 5, 2) := by decide +kernel
theorem dX8_join_57 : decode cX8_join 57 = .ok (.aload_n 0, 1) := by decide +kernel
theorem dX8_join_58 : decode cX8_join 58 = .ok (.getfield 121, 3) := by decide +kernel
theorem dX8_join_61 : decode cX8_join 61 = .ok (.if_icmp .ge 81, 3) := by decide +kernel
theorem dX8_join_64 : decode cX8_join 64 = .ok (.aload_n 0, 1) := by decide +kernel
theorem dX8_join_65 : decode cX8_join 65 = .ok (.getfield 59, 3) := by decide +kernel
theorem dX8_join_68 : decode cX8_join 68 = .ok (.iload 5, 2) := by decide +kernel
theorem dX8_join_70 : decode cX8_join 70 = .ok (.aload_n 0, 1) := by decide +kernel
theorem dX8_join_71 : decode cX8_join 71 = .ok (.getfield 59, 3) := by decide +kernel
theorem dX8_join_74 : decode cX8_join 74 = .ok (.iload 5, 2) := by decide +kernel
theorem dX8_join_76 : decode cX8_join 76 = .ok (.iaload, 1) := by decide +kernel
theorem dX8_join_77 : decode cX8_join 77 = .ok (.iload 4, 2) := by decide +kernel
theorem dX8_join_79 : decode cX8_join 79 = .ok (.if_icmp .ne 7, 3) := by decide +kernel
theorem dX8_join_82 : decode cX8_join 82 = .ok (.iload_n 3, 1) := by decide +kernel
theorem dX8_join_83 : decode cX8_join 83 = .ok (.goto 10, 3) := by decide +kernel
theorem dX8_join_86 : decode cX8_join 86 = .ok (.aload_n 0, 1) := by decide +kernel
theorem dX8_join_87 : decode cX8_join 87 = .ok (.getfield 59, 3) := by decide +kernel
theorem dX8_join_90 : decode cX8_join 90 = .ok (.iload 5, 2) := by decide +kernel
theorem dX8_join_92 : decode cX8_join 92 = .ok (.iaload, 1) := by decide +kernel
theorem dX8_join_93 : decode cX8_join 93 = .ok (.iastore, 1) := by decide +kernel
theorem dX8_join_94 : decode cX8_join 94 = .ok (.aload_n 0, 1) := by decide +kernel
theorem dX8_join_95 : decode cX8_join 95 = .ok (.getfield 62, 3) := by decide +kernel
theorem dX8_join_98 : decode cX8_join 98 = .ok (.iload 5, 2) := by decide +kernel
theorem dX8_join_100 : decode cX8_join 100 = .ok (.aload_n 0, 1) := by decide +kernel
theorem dX8_join_101 : decode cX8_join 101 = .ok (.getfield 56, 3) := by decide +kernel
theorem dX8_join_104 : decode cX8_join 104 = .ok (.iload 5, 2) := by decide +kernel
theorem dX8_join_106 : decode cX8_join 106 = .ok (.iaload, 1) := by decide +kernel
theorem dX8_join_107 : decode cX8_join 107 = .ok (.bipush 32, 2) := by decide +kernel
theorem dX8_join_109 : decode cX8_join 109 = .ok (.if_icmp .lt 19, 3) := by decide +kernel
theorem dX8_join_112 : decode cX8_join 112 = .ok (.aload_n 0, 1) := by decide +kernel
theorem dX8_join_113 : decode cX8_join 113 = .ok (.getfield 62, 3) := by decide +kernel
theorem dX8_join_116 : decode cX8_join 116 = .ok (.iload 5, 2) := by decide +kernel
theorem dX8_join_118 : decode cX8_join 118 = .ok (.iaload, 1) := by decide +kernel
theorem dX8_join_119 : decode cX8_join 119 = .ok (.iload 4, 2) := by decide +kernel
theorem dX8_join_121 : decode cX8_join 121 = .ok (.if_icmp .ne 7, 3) := by decide +kernel
theorem dX8_join_124 : decode cX8_join 124 = .ok (.iload_n 3, 1) := by decide +kernel
theorem dX8_join_125 : decode cX8_join 125 = .ok (.goto 10, 3) := by decide +kernel
theorem dX8_join_128 : decode cX8_join 128 = .ok (.aload_n 0, 1) := by decide +kernel
theorem dX8_join_129 : decode cX8_join 129 = .ok (.getfield 62, 3) := by decide +kernel
theorem dX8_join_132 : decode cX8_join 132 = .ok (.iload 5, 2) := by decide +kernel
theorem dX8_join_134 : decode cX8_join 134 = .ok (.iaload, 1) := by decide +kernel
theorem dX8_join_135 : decode cX8_join 135 = .ok (.iastore, 1) := by decide +kernel
theorem dX8_join_136 : decode cX8_join 136 = .ok (.iinc 5 1, 3) := by decide +kernel
theorem dX8_join_139 : decode cX8_join 139 = .ok (.goto (-84), 3) := by decide +kernel
theorem dX8_join_142 : decode cX8_join 142 = .ok (.iconst 0, 1) := by decide +kernel
theorem dX8_join_143 : decode cX8_join 143 = .ok (.istore 5, 2) := by decide +kernel
theorem dX8_join_145 : decode cX8_join 145 = .ok (.iload 5, 2) := by decide +kernel
theorem dX8_join_147 : decode cX8_join 147 = .ok (.aload_n 0, 1) := by decide +kernel
theorem dX8_join_148 : decode cX8_join 148 = .ok (.getfield 118, 3) := by decide +kernel
theorem dX8_join_151 : decode cX8_join 151 = .ok (.if_icmp .ge 39, 3) := by decide +kernel
theorem dX8_join_154 : decode cX8_join 154 = .ok (.aload_n 0, 1) := by decide +kernel
theorem dX8_join_155 : decode cX8_join 155 = .ok (.getfield 65, 3) := by decide +kernel
theorem dX8_join_158 : decode cX8_join 158 = .ok (.iload 5, 2) := by decide +kernel
theorem dX8_join_160 : decode cX8_join 160 = .ok (.aload_n 0, 1) := by decide +kernel
theorem dX8_join_161 : decode cX8_join 161 = .ok (.getfield 65, 3) := by decide +kernel
theorem dX8_join_164 : decode cX8_join 164 = .ok (.iload 5, 2) := by decide +kernel
theorem dX8_join_166 : decode cX8_join 166 = .ok (.iaload, 1) := by decide +kernel
theorem dX8_join_167 : decode cX8_join 167 = .ok (.iload 4, 2) := by decide +kernel
theorem dX8_join_169 : decode cX8_join 169 = .ok (.if_icmp .ne 7, 3) := by decide +kernel
theorem dX8_join_172 : decode cX8_join 172 = .ok (.iload_n 3, 1) := by decide +kernel
theorem dX8_join_173 : decode cX8_join 173 = .ok (.goto 10, 3) := by decide +kernel
theorem dX8_join_176 : decode cX8_join 176 = .ok (.aload_n 0, 1) := by decide +kernel
theorem dX8_join_177 : decode cX8_join 177 = .ok (.getfield 65, 3) := by decide +kernel
theorem dX8_join_180 : decode cX8_join 180 = .ok (.iload 5, 2) := by decide +kernel
theorem dX8_join_182 : decode cX8_join 182 = .ok (.iaload, 1) := by decide +kernel
theorem dX8_join_183 : decode cX8_join 183 = .ok (.iastore, 1) := by decide +kernel
theorem dX8_join_184 : decode cX8_join 184 = .ok (.iinc 5 1, 3) := by decide +kernel
theorem dX8_join_187 : decode cX8_join 187 = .ok (.goto (-42), 3) := by decide +kernel
theorem dX8_join_190 : decode cX8_join 190 = .ok (.iload_n 3, 1) := by decide +kernel
theorem dX8_join_191 : decode cX8_join 191 = .ok (.ireturn, 1) := by decide +kernel
abbrev rm_c_Model_sortAt : Room := { frames := 0, cells := 0, slots := 0, locals := 0 }
set_option maxHeartbeats 4000000 in
set_option maxRecDepth 100000 in
theorem c_Model_sortAt (l : Launch) (dC : Nat → ClassId) (dI : Nat → Nat → Nat) (cI cL cQ cZ : ClassId) (x0 : Nat) (ax : Nat) (z1 : Nat) (z2 : Nat) (z3 : Nat) (fc : Nat) (z5 : Nat) (z6 : Nat) (z7 : Nat) (qs : Nat) (z9 : Nat) (z10 : Nat) (z11 : Nat) (z12 : Nat) (z13 : Nat) (hd : Option Nat) (lg : Bool) (fcn : Nat) (z17 : Nat) (z18 : Nat) (z19 : Nat) (md : Nat) (z21 : Nat) (z22 : Nat) (z23 : Nat) (z24 : Nat) (hc : Nat) (z26 : Nat) (z27 : Nat) (z28 : Nat) (z29 : Nat) (z30 : Nat) (z31 : Nat) (sm : Bool) (z33 : Nat) (z34 : Nat) (pp : Nat → Nat) (pa : Nat → Nat) (pb : Nat → Nat) (k : Nat) (w : Nat) (v : Nat) (hk : k < 4) (hw : w < 10 ∨ 20 ≤ w ∧ w < 36) : Met l yX8_sortAt wkX8_sortAt rm_c_Model_sortAt (q_W (dC, dI) qCl (qT cI cL cQ cZ) [(x0, .inr (8, mO ax z1 z2 z3 fc z5 z6 z7 qs z9 z10 z11 z12 z13 hd lg fcn z17 z18 z19 md z21 z22 z23 z24 hc z26 z27 z28 z29 z30 z31 sm z33 z34)), (z21, .inl (cI, 4, .inl (nF pp))), (z22, .inl (cI, 4, .inl (nF pa))), (z23, .inl (cI, 4, .inl (nF pb)))] [.ref x0, .int (nI (k)), .int (nI (w)), .int (nI (v))]) (va_Qv (fun (u : Unit) => True) (fun (u : Unit) t => va_P (dC, dI) qCl [(x0, .inr (8, mO ax z1 z2 z3 fc z5 z6 z7 qs z9 z10 z11 z12 z13 hd lg fcn z17 z18 z19 md z21 z22 z23 z24 hc z26 z27 z28 z29 z30 z31 sm z33 z34)), (z21, .inl (cI, 4, .inl (nF (va_up pp k (f_sortn w))))), (z22, .inl (cI, 4, .inl (nF (va_up pa k (f_sort1 w v))))), (z23, .inl (cI, 4, .inl (nF (va_up pb k (f_sort2 w v)))))] t.heap) (q_A [(x0, .inr (8, mO ax z1 z2 z3 fc z5 z6 z7 qs z9 z10 z11 z12 z13 hd lg fcn z17 z18 z19 md z21 z22 z23 z24 hc z26 z27 z28 z29 z30 z31 sm z33 z34)), (z21, .inl (cI, 4, .inl (nF pp))), (z22, .inl (cI, 4, .inl (nF pa))), (z23, .inl (cI, 4, .inl (nF pb)))])) 0 0 (q_A [(x0, .inr (8, mO ax z1 z2 z3 fc z5 z6 z7 qs z9 z10 z11 z12 z13 hd lg fcn z17 z18 z19 md z21 z22 z23 z24 hc z26 z27 z28 z29 z30 z31 sm z33 z34)), (z21, .inl (cI, 4, .inl (nF pp))), (z22, .inl (cI, 4, .inl (nF pa))), (z23, .inl (cI, 4, .inl (nF pb)))]) := by
  refine Met.ofW (cc := cX8_sortAt) (maxL := 4) (ret := none) (by decide) rfl ?_
  intro p e s m args below meth c s₁ B hml hv
  obtain ⟨hargs, hP, hK, hD0⟩ := hv
  have hx := B.exec
  have hb := B.bytes
  have hr := B.returns
  have hts : ∀ w ∈ qW, w.before args s = true := fun w h => atoms_spec (ws := wkX8_sortAt) B.pre w (List.mem_cons_of_mem _ h)
  have hown : s.vm.findClass RX8 = some m.cls := findClass_of_methodNamed B.named
  have hlocks := B.notSynchronized
  refine q_named (fun Q hQ => ?_)
  have hD : va_D (q_A [(x0, .inr (8, mO ax z1 z2 z3 fc z5 z6 z7 qs z9 z10 z11 z12 z13 hd lg fcn z17 z18 z19 md z21 z22 z23 z24 hc z26 z27 z28 z29 z30 z31 sm z33 z34)), (z21, .inl (cI, 4, .inl (nF pp))), (z22, .inl (cI, 4, .inl (nF pa))), (z23, .inl (cI, 4, .inl (nF pb)))]) [(x0, .inr (8, mO ax z1 z2 z3 fc z5 z6 z7 qs z9 z10 z11 z12 z13 hd lg fcn z17 z18 z19 md z21 z22 z23 z24 hc z26 z27 z28 z29 z30 z31 sm z33 z34)), (z21, .inl (cI, 4, .inl (nF pp))), (z22, .inl (cI, 4, .inl (nF pa))), (z23, .inl (cI, 4, .inl (nF pb)))] := ⟨hD0.1, fun k q h => ⟨k, q.2, h⟩⟩
  generalize hAe : q_A [(x0, .inr (8, mO ax z1 z2 z3 fc z5 z6 z7 qs z9 z10 z11 z12 z13 hd lg fcn z17 z18 z19 md z21 z22 z23 z24 hc z26 z27 z28 z29 z30 z31 sm z33 z34)), (z21, .inl (cI, 4, .inl (nF pp))), (z22, .inl (cI, 4, .inl (nF pa))), (z23, .inl (cI, 4, .inl (nF pb)))] = A at hD
  have hS : va_S A s.heap s.heap [] := va_S.rf
  refine q_entry hargs (Nat.le_of_ble_eq_true rfl) (fun ls hl => ?_)
  have hl : lv_has ls 4 [(0, .ref x0), (1, .int (nI (k))), (2, .int (nI (w))), (3, .int (nI (v)))] := hl
  obtain ⟨H, locs, eH, eL⟩ : ∃ (H : Heap) (locs : List Loc), s.heap = H ∧ ([] : List Loc) = locs := ⟨_, _, rfl, rfl⟩
  have hS : va_S A s.heap H locs := by rw [← eH, ← eL]; exact hS
  have hP : va_P (dC, dI) qCl [(x0, .inr (8, mO ax z1 z2 z3 fc z5 z6 z7 qs z9 z10 z11 z12 z13 hd lg fcn z17 z18 z19 md z21 z22 z23 z24 hc z26 z27 z28 z29 z30 z31 sm z33 z34)), (z21, .inl (cI, 4, .inl (nF pp))), (z22, .inl (cI, 4, .inl (nF pa))), (z23, .inl (cI, 4, .inl (nF pb)))] H := by rw [← eH]; exact hP
  refine W_at eH eL ?_
  refine lv_aload_n hx hb dX8_sortAt_0 rfl (lv_at hl 0 rfl) ?_
  refine va_get (D := (dC, dI)) (ci := 8) (v := .ref z21) (C := RX8) (T := TX8) (N := 35) hx hb hts uX8 hown hK hP 0 rfl rfl 21 (by decide) (hts _ kfX8_56) (fun _ h9 => h9) rfl dX8_sortAt_1 ?_
  refine lv_iload_n hx hb dX8_sortAt_4 rfl (lv_at hl 1 rfl) ?_
  refine lv_iload_n hx hb dX8_sortAt_5 rfl (lv_at hl 2 rfl) ?_
  refine lv_bipush (v := (nI (10))) hx hb dX8_sortAt_6 (by decide) ?_
  refine q_icmp_ge (x := w) (y := 10) (tgt := 15) hx hb dX8_sortAt_8 (by decide) (by omega) (by omega) (fun c8_1 => ?_) (fun c8_1 => ?_)
  · refine lv_bipush (v := (nI (32))) hx hb dX8_sortAt_15 (by decide) ?_
    refine lv_iload_n hx hb dX8_sortAt_17 rfl (lv_at hl 2 rfl) ?_
    refine lv_bipush (v := (nI (20))) hx hb dX8_sortAt_18 (by decide) ?_
    refine q_isub (x := w) (y := 20) hx hb (by omega) dX8_sortAt_20 ?_
    refine lv_iconst (v := (nI (2))) hx hb dX8_sortAt_21 (by decide) ?_
    refine q_idiv (x := w - 20) (y := 2) hx hb (by omega) (by omega) (by omega) dX8_sortAt_22 ?_
    refine q_iadd (x := 32) (y := (w - 20) / 2) hx hb dX8_sortAt_23 ?_
    refine q_iastN hx hb hK hP hD hS 1 0 rfl rfl (j := k) (x := 32 + ((w - 20) / 2)) (by omega) (by omega) dX8_sortAt_24 (fun H locs hP hD hS => ?_)
    have hP : va_P (dC, dI) qCl [(x0, .inr (8, mO ax z1 z2 z3 fc z5 z6 z7 qs z9 z10 z11 z12 z13 hd lg fcn z17 z18 z19 md z21 z22 z23 z24 hc z26 z27 z28 z29 z30 z31 sm z33 z34)), (z21, .inl (cI, 4, .inl (nF (va_up pp k (32 + ((w - 20) / 2)))))), (z22, .inl (cI, 4, .inl (nF pa))), (z23, .inl (cI, 4, .inl (nF pb)))] H := hP
    have hD : va_D A [(x0, .inr (8, mO ax z1 z2 z3 fc z5 z6 z7 qs z9 z10 z11 z12 z13 hd lg fcn z17 z18 z19 md z21 z22 z23 z24 hc z26 z27 z28 z29 z30 z31 sm z33 z34)), (z21, .inl (cI, 4, .inl (nF (va_up pp k (32 + ((w - 20) / 2)))))), (z22, .inl (cI, 4, .inl (nF pa))), (z23, .inl (cI, 4, .inl (nF pb)))] := hD
    have ea2 : (va_up pp k (32 + ((w - 20) / 2))) = va_up pp k (f_sortn w) := by (first | (exfalso; omega; done) | (rw [f_sortn, if_pos (by omega)]) | (rw [f_sortn, if_neg (by omega), f_wayn]))
    rw [ea2] at hP hD
    have hP : va_P (dC, dI) qCl [(x0, .inr (8, mO ax z1 z2 z3 fc z5 z6 z7 qs z9 z10 z11 z12 z13 hd lg fcn z17 z18 z19 md z21 z22 z23 z24 hc z26 z27 z28 z29 z30 z31 sm z33 z34)), (z21, .inl (cI, 4, .inl (nF (va_up pp k (f_sortn w))))), (z22, .inl (cI, 4, .inl (nF pa))), (z23, .inl (cI, 4, .inl (nF pb)))] H := hP
    have hD : va_D A [(x0, .inr (8, mO ax z1 z2 z3 fc z5 z6 z7 qs z9 z10 z11 z12 z13 hd lg fcn z17 z18 z19 md z21 z22 z23 z24 hc z26 z27 z28 z29 z30 z31 sm z33 z34)), (z21, .inl (cI, 4, .inl (nF (va_up pp k (f_sortn w))))), (z22, .inl (cI, 4, .inl (nF pa))), (z23, .inl (cI, 4, .inl (nF pb)))] := hD
    refine lv_aload_n hx hb dX8_sortAt_25 rfl (lv_at hl 0 rfl) ?_
    refine va_get (D := (dC, dI)) (ci := 8) (v := .ref z22) (C := RX8) (T := TX8) (N := 35) hx hb hts uX8 hown hK hP 0 rfl rfl 22 (by decide) (hts _ kfX8_59) (fun _ h9 => h9) rfl dX8_sortAt_26 ?_
    refine lv_iload_n hx hb dX8_sortAt_29 rfl (lv_at hl 1 rfl) ?_
    refine lv_iload_n hx hb dX8_sortAt_30 rfl (lv_at hl 2 rfl) ?_
    refine lv_bipush (v := (nI (10))) hx hb dX8_sortAt_31 (by decide) ?_
    refine q_icmp_lt (x := w) (y := 10) (tgt := 42) hx hb dX8_sortAt_33 (by decide) (by omega) (by omega) (fun c33_3 => ?_) (fun c33_3 => ?_)
    · refine lv_iload_n hx hb dX8_sortAt_42 rfl (lv_at hl 3 rfl) ?_
      refine lv_goto (tgt := 48) hx hb dX8_sortAt_43 (by decide) ?_
      refine q_iastN hx hb hK hP hD hS 2 0 rfl rfl (j := k) (x := v) (by omega) (by omega) dX8_sortAt_48 (fun H locs hP hD hS => ?_)
      have hP : va_P (dC, dI) qCl [(x0, .inr (8, mO ax z1 z2 z3 fc z5 z6 z7 qs z9 z10 z11 z12 z13 hd lg fcn z17 z18 z19 md z21 z22 z23 z24 hc z26 z27 z28 z29 z30 z31 sm z33 z34)), (z21, .inl (cI, 4, .inl (nF (va_up pp k (f_sortn w))))), (z22, .inl (cI, 4, .inl (nF (va_up pa k v)))), (z23, .inl (cI, 4, .inl (nF pb)))] H := hP
      have hD : va_D A [(x0, .inr (8, mO ax z1 z2 z3 fc z5 z6 z7 qs z9 z10 z11 z12 z13 hd lg fcn z17 z18 z19 md z21 z22 z23 z24 hc z26 z27 z28 z29 z30 z31 sm z33 z34)), (z21, .inl (cI, 4, .inl (nF (va_up pp k (f_sortn w))))), (z22, .inl (cI, 4, .inl (nF (va_up pa k v)))), (z23, .inl (cI, 4, .inl (nF pb)))] := hD
      have ea4 : (va_up pa k v) = va_up pa k (f_sort1 w v) := by (first | (exfalso; omega; done) | (rw [f_sort1, if_pos (by omega)]) | (rw [f_sort1, if_neg (by omega), f_way1, if_pos (by omega)]) | (rw [f_sort1, if_neg (by omega), f_way1, if_neg (by omega)]))
      rw [ea4] at hP hD
      have hP : va_P (dC, dI) qCl [(x0, .inr (8, mO ax z1 z2 z3 fc z5 z6 z7 qs z9 z10 z11 z12 z13 hd lg fcn z17 z18 z19 md z21 z22 z23 z24 hc z26 z27 z28 z29 z30 z31 sm z33 z34)), (z21, .inl (cI, 4, .inl (nF (va_up pp k (f_sortn w))))), (z22, .inl (cI, 4, .inl (nF (va_up pa k (f_sort1 w v))))), (z23, .inl (cI, 4, .inl (nF pb)))] H := hP
      have hD : va_D A [(x0, .inr (8, mO ax z1 z2 z3 fc z5 z6 z7 qs z9 z10 z11 z12 z13 hd lg fcn z17 z18 z19 md z21 z22 z23 z24 hc z26 z27 z28 z29 z30 z31 sm z33 z34)), (z21, .inl (cI, 4, .inl (nF (va_up pp k (f_sortn w))))), (z22, .inl (cI, 4, .inl (nF (va_up pa k (f_sort1 w v))))), (z23, .inl (cI, 4, .inl (nF pb)))] := hD
      refine lv_aload_n hx hb dX8_sortAt_49 rfl (lv_at hl 0 rfl) ?_
      refine va_get (D := (dC, dI)) (ci := 8) (v := .ref z23) (C := RX8) (T := TX8) (N := 35) hx hb hts uX8 hown hK hP 0 rfl rfl 23 (by decide) (hts _ kfX8_62) (fun _ h9 => h9) rfl dX8_sortAt_50 ?_
      refine lv_iload_n hx hb dX8_sortAt_53 rfl (lv_at hl 1 rfl) ?_
      refine lv_iload_n hx hb dX8_sortAt_54 rfl (lv_at hl 2 rfl) ?_
      refine lv_bipush (v := (nI (10))) hx hb dX8_sortAt_55 (by decide) ?_
      refine q_icmp_ge (x := w) (y := 10) (tgt := 65) hx hb dX8_sortAt_57 (by decide) (by omega) (by omega) (fun c57_5 => ?_) (fun c57_5 => ?_)
      · refine lv_iload_n hx hb dX8_sortAt_65 rfl (lv_at hl 2 rfl) ?_
        refine lv_iconst (v := (nI (2))) hx hb dX8_sortAt_66 (by decide) ?_
        refine q_irem (x := w) (y := 2) hx hb (by omega) (by omega) (by omega) dX8_sortAt_67 ?_
        refine q_if_ne (x := w % 2) (tgt := 76) hx hb dX8_sortAt_68 (by decide) (by omega) (fun c68_6 => ?_) (fun c68_6 => ?_)
        · refine lv_iload_n hx hb dX8_sortAt_76 rfl (lv_at hl 3 rfl) ?_
          refine q_iastN hx hb hK hP hD hS 3 0 rfl rfl (j := k) (x := v) (by omega) (by omega) dX8_sortAt_77 (fun H locs hP hD hS => ?_)
          have hP : va_P (dC, dI) qCl [(x0, .inr (8, mO ax z1 z2 z3 fc z5 z6 z7 qs z9 z10 z11 z12 z13 hd lg fcn z17 z18 z19 md z21 z22 z23 z24 hc z26 z27 z28 z29 z30 z31 sm z33 z34)), (z21, .inl (cI, 4, .inl (nF (va_up pp k (f_sortn w))))), (z22, .inl (cI, 4, .inl (nF (va_up pa k (f_sort1 w v))))), (z23, .inl (cI, 4, .inl (nF (va_up pb k v))))] H := hP
          have hD : va_D A [(x0, .inr (8, mO ax z1 z2 z3 fc z5 z6 z7 qs z9 z10 z11 z12 z13 hd lg fcn z17 z18 z19 md z21 z22 z23 z24 hc z26 z27 z28 z29 z30 z31 sm z33 z34)), (z21, .inl (cI, 4, .inl (nF (va_up pp k (f_sortn w))))), (z22, .inl (cI, 4, .inl (nF (va_up pa k (f_sort1 w v))))), (z23, .inl (cI, 4, .inl (nF (va_up pb k v))))] := hD
          have ea7 : (va_up pb k v) = va_up pb k (f_sort2 w v) := by (first | (exfalso; omega; done) | (rw [f_sort2, if_pos (by omega)]) | (rw [f_sort2, if_neg (by omega), f_way2, if_pos (by omega)]) | (rw [f_sort2, if_neg (by omega), f_way2, if_neg (by omega)]))
          rw [ea7] at hP hD
          have hP : va_P (dC, dI) qCl [(x0, .inr (8, mO ax z1 z2 z3 fc z5 z6 z7 qs z9 z10 z11 z12 z13 hd lg fcn z17 z18 z19 md z21 z22 z23 z24 hc z26 z27 z28 z29 z30 z31 sm z33 z34)), (z21, .inl (cI, 4, .inl (nF (va_up pp k (f_sortn w))))), (z22, .inl (cI, 4, .inl (nF (va_up pa k (f_sort1 w v))))), (z23, .inl (cI, 4, .inl (nF (va_up pb k (f_sort2 w v)))))] H := hP
          have hD : va_D A [(x0, .inr (8, mO ax z1 z2 z3 fc z5 z6 z7 qs z9 z10 z11 z12 z13 hd lg fcn z17 z18 z19 md z21 z22 z23 z24 hc z26 z27 z28 z29 z30 z31 sm z33 z34)), (z21, .inl (cI, 4, .inl (nF (va_up pp k (f_sortn w))))), (z22, .inl (cI, 4, .inl (nF (va_up pa k (f_sort1 w v))))), (z23, .inl (cI, 4, .inl (nF (va_up pb k (f_sort2 w v)))))] := hD
          subst hQ
          subst hAe
          have hP9 := hP.sub (ws' := [(x0, .inr (8, mO ax z1 z2 z3 fc z5 z6 z7 qs z9 z10 z11 z12 z13 hd lg fcn z17 z18 z19 md z21 z22 z23 z24 hc z26 z27 z28 z29 z30 z31 sm z33 z34)), (z21, .inl (cI, 4, .inl (nF (va_up pp k (f_sortn w))))), (z22, .inl (cI, 4, .inl (nF (va_up pa k (f_sort1 w v))))), (z23, .inl (cI, 4, .inl (nF (va_up pb k (f_sort2 w v)))))]) [0, 1, 2, 3] rfl
          exact W.vret hx hb hr (fun t9 h9 _ => ⟨⟨(), rfl, trivial, by show va_P _ _ _ t9.heap; rw [h9]; exact hP9⟩, hS.F h9⟩) hS.2.2 dX8_sortAt_78
        · refine lv_bipush (v := (nI (6))) hx hb dX8_sortAt_71 (by decide) ?_
          refine lv_goto (tgt := 77) hx hb dX8_sortAt_73 (by decide) ?_
          refine q_iastN hx hb hK hP hD hS 3 0 rfl rfl (j := k) (x := 6) (by omega) (by omega) dX8_sortAt_77 (fun H locs hP hD hS => ?_)
          have hP : va_P (dC, dI) qCl [(x0, .inr (8, mO ax z1 z2 z3 fc z5 z6 z7 qs z9 z10 z11 z12 z13 hd lg fcn z17 z18 z19 md z21 z22 z23 z24 hc z26 z27 z28 z29 z30 z31 sm z33 z34)), (z21, .inl (cI, 4, .inl (nF (va_up pp k (f_sortn w))))), (z22, .inl (cI, 4, .inl (nF (va_up pa k (f_sort1 w v))))), (z23, .inl (cI, 4, .inl (nF (va_up pb k 6))))] H := hP
          have hD : va_D A [(x0, .inr (8, mO ax z1 z2 z3 fc z5 z6 z7 qs z9 z10 z11 z12 z13 hd lg fcn z17 z18 z19 md z21 z22 z23 z24 hc z26 z27 z28 z29 z30 z31 sm z33 z34)), (z21, .inl (cI, 4, .inl (nF (va_up pp k (f_sortn w))))), (z22, .inl (cI, 4, .inl (nF (va_up pa k (f_sort1 w v))))), (z23, .inl (cI, 4, .inl (nF (va_up pb k 6))))] := hD
          have ea8 : (va_up pb k 6) = va_up pb k (f_sort2 w v) := by (first | (exfalso; omega; done) | (rw [f_sort2, if_pos (by omega)]) | (rw [f_sort2, if_neg (by omega), f_way2, if_pos (by omega)]) | (rw [f_sort2, if_neg (by omega), f_way2, if_neg (by omega)]))
          rw [ea8] at hP hD
          have hP : va_P (dC, dI) qCl [(x0, .inr (8, mO ax z1 z2 z3 fc z5 z6 z7 qs z9 z10 z11 z12 z13 hd lg fcn z17 z18 z19 md z21 z22 z23 z24 hc z26 z27 z28 z29 z30 z31 sm z33 z34)), (z21, .inl (cI, 4, .inl (nF (va_up pp k (f_sortn w))))), (z22, .inl (cI, 4, .inl (nF (va_up pa k (f_sort1 w v))))), (z23, .inl (cI, 4, .inl (nF (va_up pb k (f_sort2 w v)))))] H := hP
          have hD : va_D A [(x0, .inr (8, mO ax z1 z2 z3 fc z5 z6 z7 qs z9 z10 z11 z12 z13 hd lg fcn z17 z18 z19 md z21 z22 z23 z24 hc z26 z27 z28 z29 z30 z31 sm z33 z34)), (z21, .inl (cI, 4, .inl (nF (va_up pp k (f_sortn w))))), (z22, .inl (cI, 4, .inl (nF (va_up pa k (f_sort1 w v))))), (z23, .inl (cI, 4, .inl (nF (va_up pb k (f_sort2 w v)))))] := hD
          subst hQ
          subst hAe
          have hP9 := hP.sub (ws' := [(x0, .inr (8, mO ax z1 z2 z3 fc z5 z6 z7 qs z9 z10 z11 z12 z13 hd lg fcn z17 z18 z19 md z21 z22 z23 z24 hc z26 z27 z28 z29 z30 z31 sm z33 z34)), (z21, .inl (cI, 4, .inl (nF (va_up pp k (f_sortn w))))), (z22, .inl (cI, 4, .inl (nF (va_up pa k (f_sort1 w v))))), (z23, .inl (cI, 4, .inl (nF (va_up pb k (f_sort2 w v)))))]) [0, 1, 2, 3] rfl
          exact W.vret hx hb hr (fun t9 h9 _ => ⟨⟨(), rfl, trivial, by show va_P _ _ _ t9.heap; rw [h9]; exact hP9⟩, hS.F h9⟩) hS.2.2 dX8_sortAt_78
      · refine lv_bipush (v := (nI (7))) hx hb dX8_sortAt_60 (by decide) ?_
        refine lv_goto (tgt := 77) hx hb dX8_sortAt_62 (by decide) ?_
        refine q_iastN hx hb hK hP hD hS 3 0 rfl rfl (j := k) (x := 7) (by omega) (by omega) dX8_sortAt_77 (fun H locs hP hD hS => ?_)
        have hP : va_P (dC, dI) qCl [(x0, .inr (8, mO ax z1 z2 z3 fc z5 z6 z7 qs z9 z10 z11 z12 z13 hd lg fcn z17 z18 z19 md z21 z22 z23 z24 hc z26 z27 z28 z29 z30 z31 sm z33 z34)), (z21, .inl (cI, 4, .inl (nF (va_up pp k (f_sortn w))))), (z22, .inl (cI, 4, .inl (nF (va_up pa k (f_sort1 w v))))), (z23, .inl (cI, 4, .inl (nF (va_up pb k 7))))] H := hP
        have hD : va_D A [(x0, .inr (8, mO ax z1 z2 z3 fc z5 z6 z7 qs z9 z10 z11 z12 z13 hd lg fcn z17 z18 z19 md z21 z22 z23 z24 hc z26 z27 z28 z29 z30 z31 sm z33 z34)), (z21, .inl (cI, 4, .inl (nF (va_up pp k (f_sortn w))))), (z22, .inl (cI, 4, .inl (nF (va_up pa k (f_sort1 w v))))), (z23, .inl (cI, 4, .inl (nF (va_up pb k 7))))] := hD
        have ea9 : (va_up pb k 7) = va_up pb k (f_sort2 w v) := by (first | (exfalso; omega; done) | (rw [f_sort2, if_pos (by omega)]) | (rw [f_sort2, if_neg (by omega), f_way2, if_pos (by omega)]) | (rw [f_sort2, if_neg (by omega), f_way2, if_neg (by omega)]))
        rw [ea9] at hP hD
        have hP : va_P (dC, dI) qCl [(x0, .inr (8, mO ax z1 z2 z3 fc z5 z6 z7 qs z9 z10 z11 z12 z13 hd lg fcn z17 z18 z19 md z21 z22 z23 z24 hc z26 z27 z28 z29 z30 z31 sm z33 z34)), (z21, .inl (cI, 4, .inl (nF (va_up pp k (f_sortn w))))), (z22, .inl (cI, 4, .inl (nF (va_up pa k (f_sort1 w v))))), (z23, .inl (cI, 4, .inl (nF (va_up pb k (f_sort2 w v)))))] H := hP
        have hD : va_D A [(x0, .inr (8, mO ax z1 z2 z3 fc z5 z6 z7 qs z9 z10 z11 z12 z13 hd lg fcn z17 z18 z19 md z21 z22 z23 z24 hc z26 z27 z28 z29 z30 z31 sm z33 z34)), (z21, .inl (cI, 4, .inl (nF (va_up pp k (f_sortn w))))), (z22, .inl (cI, 4, .inl (nF (va_up pa k (f_sort1 w v))))), (z23, .inl (cI, 4, .inl (nF (va_up pb k (f_sort2 w v)))))] := hD
        subst hQ
        subst hAe
        have hP9 := hP.sub (ws' := [(x0, .inr (8, mO ax z1 z2 z3 fc z5 z6 z7 qs z9 z10 z11 z12 z13 hd lg fcn z17 z18 z19 md z21 z22 z23 z24 hc z26 z27 z28 z29 z30 z31 sm z33 z34)), (z21, .inl (cI, 4, .inl (nF (va_up pp k (f_sortn w))))), (z22, .inl (cI, 4, .inl (nF (va_up pa k (f_sort1 w v))))), (z23, .inl (cI, 4, .inl (nF (va_up pb k (f_sort2 w v)))))]) [0, 1, 2, 3] rfl
        exact W.vret hx hb hr (fun t9 h9 _ => ⟨⟨(), rfl, trivial, by show va_P _ _ _ t9.heap; rw [h9]; exact hP9⟩, hS.F h9⟩) hS.2.2 dX8_sortAt_78
    · refine lv_iload_n hx hb dX8_sortAt_36 rfl (lv_at hl 2 rfl) ?_
      refine lv_iconst (v := (nI (2))) hx hb dX8_sortAt_37 (by decide) ?_
      refine q_irem (x := w) (y := 2) hx hb (by omega) (by omega) (by omega) dX8_sortAt_38 ?_
      refine q_if_ne (x := w % 2) (tgt := 46) hx hb dX8_sortAt_39 (by decide) (by omega) (fun c39_10 => ?_) (fun c39_10 => ?_)
      · refine lv_bipush (v := (nI (6))) hx hb dX8_sortAt_46 (by decide) ?_
        refine q_iastN hx hb hK hP hD hS 2 0 rfl rfl (j := k) (x := 6) (by omega) (by omega) dX8_sortAt_48 (fun H locs hP hD hS => ?_)
        have hP : va_P (dC, dI) qCl [(x0, .inr (8, mO ax z1 z2 z3 fc z5 z6 z7 qs z9 z10 z11 z12 z13 hd lg fcn z17 z18 z19 md z21 z22 z23 z24 hc z26 z27 z28 z29 z30 z31 sm z33 z34)), (z21, .inl (cI, 4, .inl (nF (va_up pp k (f_sortn w))))), (z22, .inl (cI, 4, .inl (nF (va_up pa k 6)))), (z23, .inl (cI, 4, .inl (nF pb)))] H := hP
        have hD : va_D A [(x0, .inr (8, mO ax z1 z2 z3 fc z5 z6 z7 qs z9 z10 z11 z12 z13 hd lg fcn z17 z18 z19 md z21 z22 z23 z24 hc z26 z27 z28 z29 z30 z31 sm z33 z34)), (z21, .inl (cI, 4, .inl (nF (va_up pp k (f_sortn w))))), (z22, .inl (cI, 4, .inl (nF (va_up pa k 6)))), (z23, .inl (cI, 4, .inl (nF pb)))] := hD
        have ea11 : (va_up pa k 6) = va_up pa k (f_sort1 w v) := by (first | (exfalso; omega; done) | (rw [f_sort1, if_pos (by omega)]) | (rw [f_sort1, if_neg (by omega), f_way1, if_pos (by omega)]) | (rw [f_sort1, if_neg (by omega), f_way1, if_neg (by omega)]))
        rw [ea11] at hP hD
        have hP : va_P (dC, dI) qCl [(x0, .inr (8, mO ax z1 z2 z3 fc z5 z6 z7 qs z9 z10 z11 z12 z13 hd lg fcn z17 z18 z19 md z21 z22 z23 z24 hc z26 z27 z28 z29 z30 z31 sm z33 z34)), (z21, .inl (cI, 4, .inl (nF (va_up pp k (f_sortn w))))), (z22, .inl (cI, 4, .inl (nF (va_up pa k (f_sort1 w v))))), (z23, .inl (cI, 4, .inl (nF pb)))] H := hP
        have hD : va_D A [(x0, .inr (8, mO ax z1 z2 z3 fc z5 z6 z7 qs z9 z10 z11 z12 z13 hd lg fcn z17 z18 z19 md z21 z22 z23 z24 hc z26 z27 z28 z29 z30 z31 sm z33 z34)), (z21, .inl (cI, 4, .inl (nF (va_up pp k (f_sortn w))))), (z22, .inl (cI, 4, .inl (nF (va_up pa k (f_sort1 w v))))), (z23, .inl (cI, 4, .inl (nF pb)))] := hD
        refine lv_aload_n hx hb dX8_sortAt_49 rfl (lv_at hl 0 rfl) ?_
        refine va_get (D := (dC, dI)) (ci := 8) (v := .ref z23) (C := RX8) (T := TX8) (N := 35) hx hb hts uX8 hown hK hP 0 rfl rfl 23 (by decide) (hts _ kfX8_62) (fun _ h9 => h9) rfl dX8_sortAt_50 ?_
        refine lv_iload_n hx hb dX8_sortAt_53 rfl (lv_at hl 1 rfl) ?_
        refine lv_iload_n hx hb dX8_sortAt_54 rfl (lv_at hl 2 rfl) ?_
        refine lv_bipush (v := (nI (10))) hx hb dX8_sortAt_55 (by decide) ?_
        refine q_icmp_ge (x := w) (y := 10) (tgt := 65) hx hb dX8_sortAt_57 (by decide) (by omega) (by omega) (fun c57_12 => ?_) (fun c57_12 => ?_)
        · refine lv_iload_n hx hb dX8_sortAt_65 rfl (lv_at hl 2 rfl) ?_
          refine lv_iconst (v := (nI (2))) hx hb dX8_sortAt_66 (by decide) ?_
          refine q_irem (x := w) (y := 2) hx hb (by omega) (by omega) (by omega) dX8_sortAt_67 ?_
          refine q_if_ne (x := w % 2) (tgt := 76) hx hb dX8_sortAt_68 (by decide) (by omega) (fun c68_13 => ?_) (fun c68_13 => ?_)
          · refine lv_iload_n hx hb dX8_sortAt_76 rfl (lv_at hl 3 rfl) ?_
            refine q_iastN hx hb hK hP hD hS 3 0 rfl rfl (j := k) (x := v) (by omega) (by omega) dX8_sortAt_77 (fun H locs hP hD hS => ?_)
            have hP : va_P (dC, dI) qCl [(x0, .inr (8, mO ax z1 z2 z3 fc z5 z6 z7 qs z9 z10 z11 z12 z13 hd lg fcn z17 z18 z19 md z21 z22 z23 z24 hc z26 z27 z28 z29 z30 z31 sm z33 z34)), (z21, .inl (cI, 4, .inl (nF (va_up pp k (f_sortn w))))), (z22, .inl (cI, 4, .inl (nF (va_up pa k (f_sort1 w v))))), (z23, .inl (cI, 4, .inl (nF (va_up pb k v))))] H := hP
            have hD : va_D A [(x0, .inr (8, mO ax z1 z2 z3 fc z5 z6 z7 qs z9 z10 z11 z12 z13 hd lg fcn z17 z18 z19 md z21 z22 z23 z24 hc z26 z27 z28 z29 z30 z31 sm z33 z34)), (z21, .inl (cI, 4, .inl (nF (va_up pp k (f_sortn w))))), (z22, .inl (cI, 4, .inl (nF (va_up pa k (f_sort1 w v))))), (z23, .inl (cI, 4, .inl (nF (va_up pb k v))))] := hD
            have ea14 : (va_up pb k v) = va_up pb k (f_sort2 w v) := by (first | (exfalso; omega; done) | (rw [f_sort2, if_pos (by omega)]) | (rw [f_sort2, if_neg (by omega), f_way2, if_pos (by omega)]) | (rw [f_sort2, if_neg (by omega), f_way2, if_neg (by omega)]))
            rw [ea14] at hP hD
            have hP : va_P (dC, dI) qCl [(x0, .inr (8, mO ax z1 z2 z3 fc z5 z6 z7 qs z9 z10 z11 z12 z13 hd lg fcn z17 z18 z19 md z21 z22 z23 z24 hc z26 z27 z28 z29 z30 z31 sm z33 z34)), (z21, .inl (cI, 4, .inl (nF (va_up pp k (f_sortn w))))), (z22, .inl (cI, 4, .inl (nF (va_up pa k (f_sort1 w v))))), (z23, .inl (cI, 4, .inl (nF (va_up pb k (f_sort2 w v)))))] H := hP
            have hD : va_D A [(x0, .inr (8, mO ax z1 z2 z3 fc z5 z6 z7 qs z9 z10 z11 z12 z13 hd lg fcn z17 z18 z19 md z21 z22 z23 z24 hc z26 z27 z28 z29 z30 z31 sm z33 z34)), (z21, .inl (cI, 4, .inl (nF (va_up pp k (f_sortn w))))), (z22, .inl (cI, 4, .inl (nF (va_up pa k (f_sort1 w v))))), (z23, .inl (cI, 4, .inl (nF (va_up pb k (f_sort2 w v)))))] := hD
            subst hQ
            subst hAe
            have hP9 := hP.sub (ws' := [(x0, .inr (8, mO ax z1 z2 z3 fc z5 z6 z7 qs z9 z10 z11 z12 z13 hd lg fcn z17 z18 z19 md z21 z22 z23 z24 hc z26 z27 z28 z29 z30 z31 sm z33 z34)), (z21, .inl (cI, 4, .inl (nF (va_up pp k (f_sortn w))))), (z22, .inl (cI, 4, .inl (nF (va_up pa k (f_sort1 w v))))), (z23, .inl (cI, 4, .inl (nF (va_up pb k (f_sort2 w v)))))]) [0, 1, 2, 3] rfl
            exact W.vret hx hb hr (fun t9 h9 _ => ⟨⟨(), rfl, trivial, by show va_P _ _ _ t9.heap; rw [h9]; exact hP9⟩, hS.F h9⟩) hS.2.2 dX8_sortAt_78
          · refine lv_bipush (v := (nI (6))) hx hb dX8_sortAt_71 (by decide) ?_
            refine lv_goto (tgt := 77) hx hb dX8_sortAt_73 (by decide) ?_
            refine q_iastN hx hb hK hP hD hS 3 0 rfl rfl (j := k) (x := 6) (by omega) (by omega) dX8_sortAt_77 (fun H locs hP hD hS => ?_)
            have hP : va_P (dC, dI) qCl [(x0, .inr (8, mO ax z1 z2 z3 fc z5 z6 z7 qs z9 z10 z11 z12 z13 hd lg fcn z17 z18 z19 md z21 z22 z23 z24 hc z26 z27 z28 z29 z30 z31 sm z33 z34)), (z21, .inl (cI, 4, .inl (nF (va_up pp k (f_sortn w))))), (z22, .inl (cI, 4, .inl (nF (va_up pa k (f_sort1 w v))))), (z23, .inl (cI, 4, .inl (nF (va_up pb k 6))))] H := hP
            have hD : va_D A [(x0, .inr (8, mO ax z1 z2 z3 fc z5 z6 z7 qs z9 z10 z11 z12 z13 hd lg fcn z17 z18 z19 md z21 z22 z23 z24 hc z26 z27 z28 z29 z30 z31 sm z33 z34)), (z21, .inl (cI, 4, .inl (nF (va_up pp k (f_sortn w))))), (z22, .inl (cI, 4, .inl (nF (va_up pa k (f_sort1 w v))))), (z23, .inl (cI, 4, .inl (nF (va_up pb k 6))))] := hD
            have ea15 : (va_up pb k 6) = va_up pb k (f_sort2 w v) := by (first | (exfalso; omega; done) | (rw [f_sort2, if_pos (by omega)]) | (rw [f_sort2, if_neg (by omega), f_way2, if_pos (by omega)]) | (rw [f_sort2, if_neg (by omega), f_way2, if_neg (by omega)]))
            rw [ea15] at hP hD
            have hP : va_P (dC, dI) qCl [(x0, .inr (8, mO ax z1 z2 z3 fc z5 z6 z7 qs z9 z10 z11 z12 z13 hd lg fcn z17 z18 z19 md z21 z22 z23 z24 hc z26 z27 z28 z29 z30 z31 sm z33 z34)), (z21, .inl (cI, 4, .inl (nF (va_up pp k (f_sortn w))))), (z22, .inl (cI, 4, .inl (nF (va_up pa k (f_sort1 w v))))), (z23, .inl (cI, 4, .inl (nF (va_up pb k (f_sort2 w v)))))] H := hP
            have hD : va_D A [(x0, .inr (8, mO ax z1 z2 z3 fc z5 z6 z7 qs z9 z10 z11 z12 z13 hd lg fcn z17 z18 z19 md z21 z22 z23 z24 hc z26 z27 z28 z29 z30 z31 sm z33 z34)), (z21, .inl (cI, 4, .inl (nF (va_up pp k (f_sortn w))))), (z22, .inl (cI, 4, .inl (nF (va_up pa k (f_sort1 w v))))), (z23, .inl (cI, 4, .inl (nF (va_up pb k (f_sort2 w v)))))] := hD
            subst hQ
            subst hAe
            have hP9 := hP.sub (ws' := [(x0, .inr (8, mO ax z1 z2 z3 fc z5 z6 z7 qs z9 z10 z11 z12 z13 hd lg fcn z17 z18 z19 md z21 z22 z23 z24 hc z26 z27 z28 z29 z30 z31 sm z33 z34)), (z21, .inl (cI, 4, .inl (nF (va_up pp k (f_sortn w))))), (z22, .inl (cI, 4, .inl (nF (va_up pa k (f_sort1 w v))))), (z23, .inl (cI, 4, .inl (nF (va_up pb k (f_sort2 w v)))))]) [0, 1, 2, 3] rfl
            exact W.vret hx hb hr (fun t9 h9 _ => ⟨⟨(), rfl, trivial, by show va_P _ _ _ t9.heap; rw [h9]; exact hP9⟩, hS.F h9⟩) hS.2.2 dX8_sortAt_78
        · refine lv_bipush (v := (nI (7))) hx hb dX8_sortAt_60 (by decide) ?_
          refine lv_goto (tgt := 77) hx hb dX8_sortAt_62 (by decide) ?_
          refine q_iastN hx hb hK hP hD hS 3 0 rfl rfl (j := k) (x := 7) (by omega) (by omega) dX8_sortAt_77 (fun H locs hP hD hS => ?_)
          have hP : va_P (dC, dI) qCl [(x0, .inr (8, mO ax z1 z2 z3 fc z5 z6 z7 qs z9 z10 z11 z12 z13 hd lg fcn z17 z18 z19 md z21 z22 z23 z24 hc z26 z27 z28 z29 z30 z31 sm z33 z34)), (z21, .inl (cI, 4, .inl (nF (va_up pp k (f_sortn w))))), (z22, .inl (cI, 4, .inl (nF (va_up pa k (f_sort1 w v))))), (z23, .inl (cI, 4, .inl (nF (va_up pb k 7))))] H := hP
          have hD : va_D A [(x0, .inr (8, mO ax z1 z2 z3 fc z5 z6 z7 qs z9 z10 z11 z12 z13 hd lg fcn z17 z18 z19 md z21 z22 z23 z24 hc z26 z27 z28 z29 z30 z31 sm z33 z34)), (z21, .inl (cI, 4, .inl (nF (va_up pp k (f_sortn w))))), (z22, .inl (cI, 4, .inl (nF (va_up pa k (f_sort1 w v))))), (z23, .inl (cI, 4, .inl (nF (va_up pb k 7))))] := hD
          have ea16 : (va_up pb k 7) = va_up pb k (f_sort2 w v) := by (first | (exfalso; omega; done) | (rw [f_sort2, if_pos (by omega)]) | (rw [f_sort2, if_neg (by omega), f_way2, if_pos (by omega)]) | (rw [f_sort2, if_neg (by omega), f_way2, if_neg (by omega)]))
          rw [ea16] at hP hD
          have hP : va_P (dC, dI) qCl [(x0, .inr (8, mO ax z1 z2 z3 fc z5 z6 z7 qs z9 z10 z11 z12 z13 hd lg fcn z17 z18 z19 md z21 z22 z23 z24 hc z26 z27 z28 z29 z30 z31 sm z33 z34)), (z21, .inl (cI, 4, .inl (nF (va_up pp k (f_sortn w))))), (z22, .inl (cI, 4, .inl (nF (va_up pa k (f_sort1 w v))))), (z23, .inl (cI, 4, .inl (nF (va_up pb k (f_sort2 w v)))))] H := hP
          have hD : va_D A [(x0, .inr (8, mO ax z1 z2 z3 fc z5 z6 z7 qs z9 z10 z11 z12 z13 hd lg fcn z17 z18 z19 md z21 z22 z23 z24 hc z26 z27 z28 z29 z30 z31 sm z33 z34)), (z21, .inl (cI, 4, .inl (nF (va_up pp k (f_sortn w))))), (z22, .inl (cI, 4, .inl (nF (va_up pa k (f_sort1 w v))))), (z23, .inl (cI, 4, .inl (nF (va_up pb k (f_sort2 w v)))))] := hD
          subst hQ
          subst hAe
          have hP9 := hP.sub (ws' := [(x0, .inr (8, mO ax z1 z2 z3 fc z5 z6 z7 qs z9 z10 z11 z12 z13 hd lg fcn z17 z18 z19 md z21 z22 z23 z24 hc z26 z27 z28 z29 z30 z31 sm z33 z34)), (z21, .inl (cI, 4, .inl (nF (va_up pp k (f_sortn w))))), (z22, .inl (cI, 4, .inl (nF (va_up pa k (f_sort1 w v))))), (z23, .inl (cI, 4, .inl (nF (va_up pb k (f_sort2 w v)))))]) [0, 1, 2, 3] rfl
          exact W.vret hx hb hr (fun t9 h9 _ => ⟨⟨(), rfl, trivial, by show va_P _ _ _ t9.heap; rw [h9]; exact hP9⟩, hS.F h9⟩) hS.2.2 dX8_sortAt_78
      · refine lv_iload_n hx hb dX8_sortAt_42 rfl (lv_at hl 3 rfl) ?_
        refine lv_goto (tgt := 48) hx hb dX8_sortAt_43 (by decide) ?_
        refine q_iastN hx hb hK hP hD hS 2 0 rfl rfl (j := k) (x := v) (by omega) (by omega) dX8_sortAt_48 (fun H locs hP hD hS => ?_)
        have hP : va_P (dC, dI) qCl [(x0, .inr (8, mO ax z1 z2 z3 fc z5 z6 z7 qs z9 z10 z11 z12 z13 hd lg fcn z17 z18 z19 md z21 z22 z23 z24 hc z26 z27 z28 z29 z30 z31 sm z33 z34)), (z21, .inl (cI, 4, .inl (nF (va_up pp k (f_sortn w))))), (z22, .inl (cI, 4, .inl (nF (va_up pa k v)))), (z23, .inl (cI, 4, .inl (nF pb)))] H := hP
        have hD : va_D A [(x0, .inr (8, mO ax z1 z2 z3 fc z5 z6 z7 qs z9 z10 z11 z12 z13 hd lg fcn z17 z18 z19 md z21 z22 z23 z24 hc z26 z27 z28 z29 z30 z31 sm z33 z34)), (z21, .inl (cI, 4, .inl (nF (va_up pp k (f_sortn w))))), (z22, .inl (cI, 4, .inl (nF (va_up pa k v)))), (z23, .inl (cI, 4, .inl (nF pb)))] := hD
        have ea17 : (va_up pa k v) = va_up pa k (f_sort1 w v) := by (first | (exfalso; omega; done) | (rw [f_sort1, if_pos (by omega)]) | (rw [f_sort1, if_neg (by omega), f_way1, if_pos (by omega)]) | (rw [f_sort1, if_neg (by omega), f_way1, if_neg (by omega)]))
        rw [ea17] at hP hD
        have hP : va_P (dC, dI) qCl [(x0, .inr (8, mO ax z1 z2 z3 fc z5 z6 z7 qs z9 z10 z11 z12 z13 hd lg fcn z17 z18 z19 md z21 z22 z23 z24 hc z26 z27 z28 z29 z30 z31 sm z33 z34)), (z21, .inl (cI, 4, .inl (nF (va_up pp k (f_sortn w))))), (z22, .inl (cI, 4, .inl (nF (va_up pa k (f_sort1 w v))))), (z23, .inl (cI, 4, .inl (nF pb)))] H := hP
        have hD : va_D A [(x0, .inr (8, mO ax z1 z2 z3 fc z5 z6 z7 qs z9 z10 z11 z12 z13 hd lg fcn z17 z18 z19 md z21 z22 z23 z24 hc z26 z27 z28 z29 z30 z31 sm z33 z34)), (z21, .inl (cI, 4, .inl (nF (va_up pp k (f_sortn w))))), (z22, .inl (cI, 4, .inl (nF (va_up pa k (f_sort1 w v))))), (z23, .inl (cI, 4, .inl (nF pb)))] := hD
        refine lv_aload_n hx hb dX8_sortAt_49 rfl (lv_at hl 0 rfl) ?_
        refine va_get (D := (dC, dI)) (ci := 8) (v := .ref z23) (C := RX8) (T := TX8) (N := 35) hx hb hts uX8 hown hK hP 0 rfl rfl 23 (by decide) (hts _ kfX8_62) (fun _ h9 => h9) rfl dX8_sortAt_50 ?_
        refine lv_iload_n hx hb dX8_sortAt_53 rfl (lv_at hl 1 rfl) ?_
        refine lv_iload_n hx hb dX8_sortAt_54 rfl (lv_at hl 2 rfl) ?_
        refine lv_bipush (v := (nI (10))) hx hb dX8_sortAt_55 (by decide) ?_
        refine q_icmp_ge (x := w) (y := 10) (tgt := 65) hx hb dX8_sortAt_57 (by decide) (by omega) (by omega) (fun c57_18 => ?_) (fun c57_18 => ?_)
        · refine lv_iload_n hx hb dX8_sortAt_65 rfl (lv_at hl 2 rfl) ?_
          refine lv_iconst (v := (nI (2))) hx hb dX8_sortAt_66 (by decide) ?_
          refine q_irem (x := w) (y := 2) hx hb (by omega) (by omega) (by omega) dX8_sortAt_67 ?_
          refine q_if_ne (x := w % 2) (tgt := 76) hx hb dX8_sortAt_68 (by decide) (by omega) (fun c68_19 => ?_) (fun c68_19 => ?_)
          · refine lv_iload_n hx hb dX8_sortAt_76 rfl (lv_at hl 3 rfl) ?_
            refine q_iastN hx hb hK hP hD hS 3 0 rfl rfl (j := k) (x := v) (by omega) (by omega) dX8_sortAt_77 (fun H locs hP hD hS => ?_)
            have hP : va_P (dC, dI) qCl [(x0, .inr (8, mO ax z1 z2 z3 fc z5 z6 z7 qs z9 z10 z11 z12 z13 hd lg fcn z17 z18 z19 md z21 z22 z23 z24 hc z26 z27 z28 z29 z30 z31 sm z33 z34)), (z21, .inl (cI, 4, .inl (nF (va_up pp k (f_sortn w))))), (z22, .inl (cI, 4, .inl (nF (va_up pa k (f_sort1 w v))))), (z23, .inl (cI, 4, .inl (nF (va_up pb k v))))] H := hP
            have hD : va_D A [(x0, .inr (8, mO ax z1 z2 z3 fc z5 z6 z7 qs z9 z10 z11 z12 z13 hd lg fcn z17 z18 z19 md z21 z22 z23 z24 hc z26 z27 z28 z29 z30 z31 sm z33 z34)), (z21, .inl (cI, 4, .inl (nF (va_up pp k (f_sortn w))))), (z22, .inl (cI, 4, .inl (nF (va_up pa k (f_sort1 w v))))), (z23, .inl (cI, 4, .inl (nF (va_up pb k v))))] := hD
            have ea20 : (va_up pb k v) = va_up pb k (f_sort2 w v) := by (first | (exfalso; omega; done) | (rw [f_sort2, if_pos (by omega)]) | (rw [f_sort2, if_neg (by omega), f_way2, if_pos (by omega)]) | (rw [f_sort2, if_neg (by omega), f_way2, if_neg (by omega)]))
            rw [ea20] at hP hD
            have hP : va_P (dC, dI) qCl [(x0, .inr (8, mO ax z1 z2 z3 fc z5 z6 z7 qs z9 z10 z11 z12 z13 hd lg fcn z17 z18 z19 md z21 z22 z23 z24 hc z26 z27 z28 z29 z30 z31 sm z33 z34)), (z21, .inl (cI, 4, .inl (nF (va_up pp k (f_sortn w))))), (z22, .inl (cI, 4, .inl (nF (va_up pa k (f_sort1 w v))))), (z23, .inl (cI, 4, .inl (nF (va_up pb k (f_sort2 w v)))))] H := hP
            have hD : va_D A [(x0, .inr (8, mO ax z1 z2 z3 fc z5 z6 z7 qs z9 z10 z11 z12 z13 hd lg fcn z17 z18 z19 md z21 z22 z23 z24 hc z26 z27 z28 z29 z30 z31 sm z33 z34)), (z21, .inl (cI, 4, .inl (nF (va_up pp k (f_sortn w))))), (z22, .inl (cI, 4, .inl (nF (va_up pa k (f_sort1 w v))))), (z23, .inl (cI, 4, .inl (nF (va_up pb k (f_sort2 w v)))))] := hD
            subst hQ
            subst hAe
            have hP9 := hP.sub (ws' := [(x0, .inr (8, mO ax z1 z2 z3 fc z5 z6 z7 qs z9 z10 z11 z12 z13 hd lg fcn z17 z18 z19 md z21 z22 z23 z24 hc z26 z27 z28 z29 z30 z31 sm z33 z34)), (z21, .inl (cI, 4, .inl (nF (va_up pp k (f_sortn w))))), (z22, .inl (cI, 4, .inl (nF (va_up pa k (f_sort1 w v))))), (z23, .inl (cI, 4, .inl (nF (va_up pb k (f_sort2 w v)))))]) [0, 1, 2, 3] rfl
            exact W.vret hx hb hr (fun t9 h9 _ => ⟨⟨(), rfl, trivial, by show va_P _ _ _ t9.heap; rw [h9]; exact hP9⟩, hS.F h9⟩) hS.2.2 dX8_sortAt_78
          · refine lv_bipush (v := (nI (6))) hx hb dX8_sortAt_71 (by decide) ?_
            refine lv_goto (tgt := 77) hx hb dX8_sortAt_73 (by decide) ?_
            refine q_iastN hx hb hK hP hD hS 3 0 rfl rfl (j := k) (x := 6) (by omega) (by omega) dX8_sortAt_77 (fun H locs hP hD hS => ?_)
            have hP : va_P (dC, dI) qCl [(x0, .inr (8, mO ax z1 z2 z3 fc z5 z6 z7 qs z9 z10 z11 z12 z13 hd lg fcn z17 z18 z19 md z21 z22 z23 z24 hc z26 z27 z28 z29 z30 z31 sm z33 z34)), (z21, .inl (cI, 4, .inl (nF (va_up pp k (f_sortn w))))), (z22, .inl (cI, 4, .inl (nF (va_up pa k (f_sort1 w v))))), (z23, .inl (cI, 4, .inl (nF (va_up pb k 6))))] H := hP
            have hD : va_D A [(x0, .inr (8, mO ax z1 z2 z3 fc z5 z6 z7 qs z9 z10 z11 z12 z13 hd lg fcn z17 z18 z19 md z21 z22 z23 z24 hc z26 z27 z28 z29 z30 z31 sm z33 z34)), (z21, .inl (cI, 4, .inl (nF (va_up pp k (f_sortn w))))), (z22, .inl (cI, 4, .inl (nF (va_up pa k (f_sort1 w v))))), (z23, .inl (cI, 4, .inl (nF (va_up pb k 6))))] := hD
            have ea21 : (va_up pb k 6) = va_up pb k (f_sort2 w v) := by (first | (exfalso; omega; done) | (rw [f_sort2, if_pos (by omega)]) | (rw [f_sort2, if_neg (by omega), f_way2, if_pos (by omega)]) | (rw [f_sort2, if_neg (by omega), f_way2, if_neg (by omega)]))
            rw [ea21] at hP hD
            have hP : va_P (dC, dI) qCl [(x0, .inr (8, mO ax z1 z2 z3 fc z5 z6 z7 qs z9 z10 z11 z12 z13 hd lg fcn z17 z18 z19 md z21 z22 z23 z24 hc z26 z27 z28 z29 z30 z31 sm z33 z34)), (z21, .inl (cI, 4, .inl (nF (va_up pp k (f_sortn w))))), (z22, .inl (cI, 4, .inl (nF (va_up pa k (f_sort1 w v))))), (z23, .inl (cI, 4, .inl (nF (va_up pb k (f_sort2 w v)))))] H := hP
            have hD : va_D A [(x0, .inr (8, mO ax z1 z2 z3 fc z5 z6 z7 qs z9 z10 z11 z12 z13 hd lg fcn z17 z18 z19 md z21 z22 z23 z24 hc z26 z27 z28 z29 z30 z31 sm z33 z34)), (z21, .inl (cI, 4, .inl (nF (va_up pp k (f_sortn w))))), (z22, .inl (cI, 4, .inl (nF (va_up pa k (f_sort1 w v))))), (z23, .inl (cI, 4, .inl (nF (va_up pb k (f_sort2 w v)))))] := hD
            subst hQ
            subst hAe
            have hP9 := hP.sub (ws' := [(x0, .inr (8, mO ax z1 z2 z3 fc z5 z6 z7 qs z9 z10 z11 z12 z13 hd lg fcn z17 z18 z19 md z21 z22 z23 z24 hc z26 z27 z28 z29 z30 z31 sm z33 z34)), (z21, .inl (cI, 4, .inl (nF (va_up pp k (f_sortn w))))), (z22, .inl (cI, 4, .inl (nF (va_up pa k (f_sort1 w v))))), (z23, .inl (cI, 4, .inl (nF (va_up pb k (f_sort2 w v)))))]) [0, 1, 2, 3] rfl
            exact W.vret hx hb hr (fun t9 h9 _ => ⟨⟨(), rfl, trivial, by show va_P _ _ _ t9.heap; rw [h9]; exact hP9⟩, hS.F h9⟩) hS.2.2 dX8_sortAt_78
        · refine lv_bipush (v := (nI (7))) hx hb dX8_sortAt_60 (by decide) ?_
          refine lv_goto (tgt := 77) hx hb dX8_sortAt_62 (by decide) ?_
          refine q_iastN hx hb hK hP hD hS 3 0 rfl rfl (j := k) (x := 7) (by omega) (by omega) dX8_sortAt_77 (fun H locs hP hD hS => ?_)
          have hP : va_P (dC, dI) qCl [(x0, .inr (8, mO ax z1 z2 z3 fc z5 z6 z7 qs z9 z10 z11 z12 z13 hd lg fcn z17 z18 z19 md z21 z22 z23 z24 hc z26 z27 z28 z29 z30 z31 sm z33 z34)), (z21, .inl (cI, 4, .inl (nF (va_up pp k (f_sortn w))))), (z22, .inl (cI, 4, .inl (nF (va_up pa k (f_sort1 w v))))), (z23, .inl (cI, 4, .inl (nF (va_up pb k 7))))] H := hP
          have hD : va_D A [(x0, .inr (8, mO ax z1 z2 z3 fc z5 z6 z7 qs z9 z10 z11 z12 z13 hd lg fcn z17 z18 z19 md z21 z22 z23 z24 hc z26 z27 z28 z29 z30 z31 sm z33 z34)), (z21, .inl (cI, 4, .inl (nF (va_up pp k (f_sortn w))))), (z22, .inl (cI, 4, .inl (nF (va_up pa k (f_sort1 w v))))), (z23, .inl (cI, 4, .inl (nF (va_up pb k 7))))] := hD
          have ea22 : (va_up pb k 7) = va_up pb k (f_sort2 w v) := by (first | (exfalso; omega; done) | (rw [f_sort2, if_pos (by omega)]) | (rw [f_sort2, if_neg (by omega), f_way2, if_pos (by omega)]) | (rw [f_sort2, if_neg (by omega), f_way2, if_neg (by omega)]))
          rw [ea22] at hP hD
          have hP : va_P (dC, dI) qCl [(x0, .inr (8, mO ax z1 z2 z3 fc z5 z6 z7 qs z9 z10 z11 z12 z13 hd lg fcn z17 z18 z19 md z21 z22 z23 z24 hc z26 z27 z28 z29 z30 z31 sm z33 z34)), (z21, .inl (cI, 4, .inl (nF (va_up pp k (f_sortn w))))), (z22, .inl (cI, 4, .inl (nF (va_up pa k (f_sort1 w v))))), (z23, .inl (cI, 4, .inl (nF (va_up pb k (f_sort2 w v)))))] H := hP
          have hD : va_D A [(x0, .inr (8, mO ax z1 z2 z3 fc z5 z6 z7 qs z9 z10 z11 z12 z13 hd lg fcn z17 z18 z19 md z21 z22 z23 z24 hc z26 z27 z28 z29 z30 z31 sm z33 z34)), (z21, .inl (cI, 4, .inl (nF (va_up pp k (f_sortn w))))), (z22, .inl (cI, 4, .inl (nF (va_up pa k (f_sort1 w v))))), (z23, .inl (cI, 4, .inl (nF (va_up pb k (f_sort2 w v)))))] := hD
          subst hQ
          subst hAe
          have hP9 := hP.sub (ws' := [(x0, .inr (8, mO ax z1 z2 z3 fc z5 z6 z7 qs z9 z10 z11 z12 z13 hd lg fcn z17 z18 z19 md z21 z22 z23 z24 hc z26 z27 z28 z29 z30 z31 sm z33 z34)), (z21, .inl (cI, 4, .inl (nF (va_up pp k (f_sortn w))))), (z22, .inl (cI, 4, .inl (nF (va_up pa k (f_sort1 w v))))), (z23, .inl (cI, 4, .inl (nF (va_up pb k (f_sort2 w v)))))]) [0, 1, 2, 3] rfl
          exact W.vret hx hb hr (fun t9 h9 _ => ⟨⟨(), rfl, trivial, by show va_P _ _ _ t9.heap; rw [h9]; exact hP9⟩, hS.F h9⟩) hS.2.2 dX8_sortAt_78
  · refine lv_iload_n hx hb dX8_sortAt_11 rfl (lv_at hl 2 rfl) ?_
    refine lv_goto (tgt := 24) hx hb dX8_sortAt_12 (by decide) ?_
    refine q_iastN hx hb hK hP hD hS 1 0 rfl rfl (j := k) (x := w) (by omega) (by omega) dX8_sortAt_24 (fun H locs hP hD hS => ?_)
    have hP : va_P (dC, dI) qCl [(x0, .inr (8, mO ax z1 z2 z3 fc z5 z6 z7 qs z9 z10 z11 z12 z13 hd lg fcn z17 z18 z19 md z21 z22 z23 z24 hc z26 z27 z28 z29 z30 z31 sm z33 z34)), (z21, .inl (cI, 4, .inl (nF (va_up pp k w)))), (z22, .inl (cI, 4, .inl (nF pa))), (z23, .inl (cI, 4, .inl (nF pb)))] H := hP
    have hD : va_D A [(x0, .inr (8, mO ax z1 z2 z3 fc z5 z6 z7 qs z9 z10 z11 z12 z13 hd lg fcn z17 z18 z19 md z21 z22 z23 z24 hc z26 z27 z28 z29 z30 z31 sm z33 z34)), (z21, .inl (cI, 4, .inl (nF (va_up pp k w)))), (z22, .inl (cI, 4, .inl (nF pa))), (z23, .inl (cI, 4, .inl (nF pb)))] := hD
    have ea23 : (va_up pp k w) = va_up pp k (f_sortn w) := by (first | (exfalso; omega; done) | (rw [f_sortn, if_pos (by omega)]) | (rw [f_sortn, if_neg (by omega), f_wayn]))
    rw [ea23] at hP hD
    have hP : va_P (dC, dI) qCl [(x0, .inr (8, mO ax z1 z2 z3 fc z5 z6 z7 qs z9 z10 z11 z12 z13 hd lg fcn z17 z18 z19 md z21 z22 z23 z24 hc z26 z27 z28 z29 z30 z31 sm z33 z34)), (z21, .inl (cI, 4, .inl (nF (va_up pp k (f_sortn w))))), (z22, .inl (cI, 4, .inl (nF pa))), (z23, .inl (cI, 4, .inl (nF pb)))] H := hP
    have hD : va_D A [(x0, .inr (8, mO ax z1 z2 z3 fc z5 z6 z7 qs z9 z10 z11 z12 z13 hd lg fcn z17 z18 z19 md z21 z22 z23 z24 hc z26 z27 z28 z29 z30 z31 sm z33 z34)), (z21, .inl (cI, 4, .inl (nF (va_up pp k (f_sortn w))))), (z22, .inl (cI, 4, .inl (nF pa))), (z23, .inl (cI, 4, .inl (nF pb)))] := hD
    refine lv_aload_n hx hb dX8_sortAt_25 rfl (lv_at hl 0 rfl) ?_
    refine va_get (D := (dC, dI)) (ci := 8) (v := .ref z22) (C := RX8) (T := TX8) (N := 35) hx hb hts uX8 hown hK hP 0 rfl rfl 22 (by decide) (hts _ kfX8_59) (fun _ h9 => h9) rfl dX8_sortAt_26 ?_
    refine lv_iload_n hx hb dX8_sortAt_29 rfl (lv_at hl 1 rfl) ?_
    refine lv_iload_n hx hb dX8_sortAt_30 rfl (lv_at hl 2 rfl) ?_
    refine lv_bipush (v := (nI (10))) hx hb dX8_sortAt_31 (by decide) ?_
    refine q_icmp_lt (x := w) (y := 10) (tgt := 42) hx hb dX8_sortAt_33 (by decide) (by omega) (by omega) (fun c33_24 => ?_) (fun c33_24 => ?_)
    · refine lv_iload_n hx hb dX8_sortAt_42 rfl (lv_at hl 3 rfl) ?_
      refine lv_goto (tgt := 48) hx hb dX8_sortAt_43 (by decide) ?_
      refine q_iastN hx hb hK hP hD hS 2 0 rfl rfl (j := k) (x := v) (by omega) (by omega) dX8_sortAt_48 (fun H locs hP hD hS => ?_)
      have hP : va_P (dC, dI) qCl [(x0, .inr (8, mO ax z1 z2 z3 fc z5 z6 z7 qs z9 z10 z11 z12 z13 hd lg fcn z17 z18 z19 md z21 z22 z23 z24 hc z26 z27 z28 z29 z30 z31 sm z33 z34)), (z21, .inl (cI, 4, .inl (nF (va_up pp k (f_sortn w))))), (z22, .inl (cI, 4, .inl (nF (va_up pa k v)))), (z23, .inl (cI, 4, .inl (nF pb)))] H := hP
      have hD : va_D A [(x0, .inr (8, mO ax z1 z2 z3 fc z5 z6 z7 qs z9 z10 z11 z12 z13 hd lg fcn z17 z18 z19 md z21 z22 z23 z24 hc z26 z27 z28 z29 z30 z31 sm z33 z34)), (z21, .inl (cI, 4, .inl (nF (va_up pp k (f_sortn w))))), (z22, .inl (cI, 4, .inl (nF (va_up pa k v)))), (z23, .inl (cI, 4, .inl (nF pb)))] := hD
      have ea25 : (va_up pa k v) = va_up pa k (f_sort1 w v) := by (first | (exfalso; omega; done) | (rw [f_sort1, if_pos (by omega)]) | (rw [f_sort1, if_neg (by omega), f_way1, if_pos (by omega)]) | (rw [f_sort1, if_neg (by omega), f_way1, if_neg (by omega)]))
      rw [ea25] at hP hD
      have hP : va_P (dC, dI) qCl [(x0, .inr (8, mO ax z1 z2 z3 fc z5 z6 z7 qs z9 z10 z11 z12 z13 hd lg fcn z17 z18 z19 md z21 z22 z23 z24 hc z26 z27 z28 z29 z30 z31 sm z33 z34)), (z21, .inl (cI, 4, .inl (nF (va_up pp k (f_sortn w))))), (z22, .inl (cI, 4, .inl (nF (va_up pa k (f_sort1 w v))))), (z23, .inl (cI, 4, .inl (nF pb)))] H := hP
      have hD : va_D A [(x0, .inr (8, mO ax z1 z2 z3 fc z5 z6 z7 qs z9 z10 z11 z12 z13 hd lg fcn z17 z18 z19 md z21 z22 z23 z24 hc z26 z27 z28 z29 z30 z31 sm z33 z34)), (z21, .inl (cI, 4, .inl (nF (va_up pp k (f_sortn w))))), (z22, .inl (cI, 4, .inl (nF (va_up pa k (f_sort1 w v))))), (z23, .inl (cI, 4, .inl (nF pb)))] := hD
      refine lv_aload_n hx hb dX8_sortAt_49 rfl (lv_at hl 0 rfl) ?_
      refine va_get (D := (dC, dI)) (ci := 8) (v := .ref z23) (C := RX8) (T := TX8) (N := 35) hx hb hts uX8 hown hK hP 0 rfl rfl 23 (by decide) (hts _ kfX8_62) (fun _ h9 => h9) rfl dX8_sortAt_50 ?_
      refine lv_iload_n hx hb dX8_sortAt_53 rfl (lv_at hl 1 rfl) ?_
      refine lv_iload_n hx hb dX8_sortAt_54 rfl (lv_at hl 2 rfl) ?_
      refine lv_bipush (v := (nI (10))) hx hb dX8_sortAt_55 (by decide) ?_
      refine q_icmp_ge (x := w) (y := 10) (tgt := 65) hx hb dX8_sortAt_57 (by decide) (by omega) (by omega) (fun c57_26 => ?_) (fun c57_26 => ?_)
      · refine lv_iload_n hx hb dX8_sortAt_65 rfl (lv_at hl 2 rfl) ?_
        refine lv_iconst (v := (nI (2))) hx hb dX8_sortAt_66 (by decide) ?_
        refine q_irem (x := w) (y := 2) hx hb (by omega) (by omega) (by omega) dX8_sortAt_67 ?_
        refine q_if_ne (x := w % 2) (tgt := 76) hx hb dX8_sortAt_68 (by decide) (by omega) (fun c68_27 => ?_) (fun c68_27 => ?_)
        · refine lv_iload_n hx hb dX8_sortAt_76 rfl (lv_at hl 3 rfl) ?_
          refine q_iastN hx hb hK hP hD hS 3 0 rfl rfl (j := k) (x := v) (by omega) (by omega) dX8_sortAt_77 (fun H locs hP hD hS => ?_)
          have hP : va_P (dC, dI) qCl [(x0, .inr (8, mO ax z1 z2 z3 fc z5 z6 z7 qs z9 z10 z11 z12 z13 hd lg fcn z17 z18 z19 md z21 z22 z23 z24 hc z26 z27 z28 z29 z30 z31 sm z33 z34)), (z21, .inl (cI, 4, .inl (nF (va_up pp k (f_sortn w))))), (z22, .inl (cI, 4, .inl (nF (va_up pa k (f_sort1 w v))))), (z23, .inl (cI, 4, .inl (nF (va_up pb k v))))] H := hP
          have hD : va_D A [(x0, .inr (8, mO ax z1 z2 z3 fc z5 z6 z7 qs z9 z10 z11 z12 z13 hd lg fcn z17 z18 z19 md z21 z22 z23 z24 hc z26 z27 z28 z29 z30 z31 sm z33 z34)), (z21, .inl (cI, 4, .inl (nF (va_up pp k (f_sortn w))))), (z22, .inl (cI, 4, .inl (nF (va_up pa k (f_sort1 w v))))), (z23, .inl (cI, 4, .inl (nF (va_up pb k v))))] := hD
          have ea28 : (va_up pb k v) = va_up pb k (f_sort2 w v) := by (first | (exfalso; omega; done) | (rw [f_sort2, if_pos (by omega)]) | (rw [f_sort2, if_neg (by omega), f_way2, if_pos (by omega)]) | (rw [f_sort2, if_neg (by omega), f_way2, if_neg (by omega)]))
          rw [ea28] at hP hD
          have hP : va_P (dC, dI) qCl [(x0, .inr (8, mO ax z1 z2 z3 fc z5 z6 z7 qs z9 z10 z11 z12 z13 hd lg fcn z17 z18 z19 md z21 z22 z23 z24 hc z26 z27 z28 z29 z30 z31 sm z33 z34)), (z21, .inl (cI, 4, .inl (nF (va_up pp k (f_sortn w))))), (z22, .inl (cI, 4, .inl (nF (va_up pa k (f_sort1 w v))))), (z23, .inl (cI, 4, .inl (nF (va_up pb k (f_sort2 w v)))))] H := hP
          have hD : va_D A [(x0, .inr (8, mO ax z1 z2 z3 fc z5 z6 z7 qs z9 z10 z11 z12 z13 hd lg fcn z17 z18 z19 md z21 z22 z23 z24 hc z26 z27 z28 z29 z30 z31 sm z33 z34)), (z21, .inl (cI, 4, .inl (nF (va_up pp k (f_sortn w))))), (z22, .inl (cI, 4, .inl (nF (va_up pa k (f_sort1 w v))))), (z23, .inl (cI, 4, .inl (nF (va_up pb k (f_sort2 w v)))))] := hD
          subst hQ
          subst hAe
          have hP9 := hP.sub (ws' := [(x0, .inr (8, mO ax z1 z2 z3 fc z5 z6 z7 qs z9 z10 z11 z12 z13 hd lg fcn z17 z18 z19 md z21 z22 z23 z24 hc z26 z27 z28 z29 z30 z31 sm z33 z34)), (z21, .inl (cI, 4, .inl (nF (va_up pp k (f_sortn w))))), (z22, .inl (cI, 4, .inl (nF (va_up pa k (f_sort1 w v))))), (z23, .inl (cI, 4, .inl (nF (va_up pb k (f_sort2 w v)))))]) [0, 1, 2, 3] rfl
          exact W.vret hx hb hr (fun t9 h9 _ => ⟨⟨(), rfl, trivial, by show va_P _ _ _ t9.heap; rw [h9]; exact hP9⟩, hS.F h9⟩) hS.2.2 dX8_sortAt_78
        · refine lv_bipush (v := (nI (6))) hx hb dX8_sortAt_71 (by decide) ?_
          refine lv_goto (tgt := 77) hx hb dX8_sortAt_73 (by decide) ?_
          refine q_iastN hx hb hK hP hD hS 3 0 rfl rfl (j := k) (x := 6) (by omega) (by omega) dX8_sortAt_77 (fun H locs hP hD hS => ?_)
          have hP : va_P (dC, dI) qCl [(x0, .inr (8, mO ax z1 z2 z3 fc z5 z6 z7 qs z9 z10 z11 z12 z13 hd lg fcn z17 z18 z19 md z21 z22 z23 z24 hc z26 z27 z28 z29 z30 z31 sm z33 z34)), (z21, .inl (cI, 4, .inl (nF (va_up pp k (f_sortn w))))), (z22, .inl (cI, 4, .inl (nF (va_up pa k (f_sort1 w v))))), (z23, .inl (cI, 4, .inl (nF (va_up pb k 6))))] H := hP
          have hD : va_D A [(x0, .inr (8, mO ax z1 z2 z3 fc z5 z6 z7 qs z9 z10 z11 z12 z13 hd lg fcn z17 z18 z19 md z21 z22 z23 z24 hc z26 z27 z28 z29 z30 z31 sm z33 z34)), (z21, .inl (cI, 4, .inl (nF (va_up pp k (f_sortn w))))), (z22, .inl (cI, 4, .inl (nF (va_up pa k (f_sort1 w v))))), (z23, .inl (cI, 4, .inl (nF (va_up pb k 6))))] := hD
          have ea29 : (va_up pb k 6) = va_up pb k (f_sort2 w v) := by (first | (exfalso; omega; done) | (rw [f_sort2, if_pos (by omega)]) | (rw [f_sort2, if_neg (by omega), f_way2, if_pos (by omega)]) | (rw [f_sort2, if_neg (by omega), f_way2, if_neg (by omega)]))
          rw [ea29] at hP hD
          have hP : va_P (dC, dI) qCl [(x0, .inr (8, mO ax z1 z2 z3 fc z5 z6 z7 qs z9 z10 z11 z12 z13 hd lg fcn z17 z18 z19 md z21 z22 z23 z24 hc z26 z27 z28 z29 z30 z31 sm z33 z34)), (z21, .inl (cI, 4, .inl (nF (va_up pp k (f_sortn w))))), (z22, .inl (cI, 4, .inl (nF (va_up pa k (f_sort1 w v))))), (z23, .inl (cI, 4, .inl (nF (va_up pb k (f_sort2 w v)))))] H := hP
          have hD : va_D A [(x0, .inr (8, mO ax z1 z2 z3 fc z5 z6 z7 qs z9 z10 z11 z12 z13 hd lg fcn z17 z18 z19 md z21 z22 z23 z24 hc z26 z27 z28 z29 z30 z31 sm z33 z34)), (z21, .inl (cI, 4, .inl (nF (va_up pp k (f_sortn w))))), (z22, .inl (cI, 4, .inl (nF (va_up pa k (f_sort1 w v))))), (z23, .inl (cI, 4, .inl (nF (va_up pb k (f_sort2 w v)))))] := hD
          subst hQ
          subst hAe
          have hP9 := hP.sub (ws' := [(x0, .inr (8, mO ax z1 z2 z3 fc z5 z6 z7 qs z9 z10 z11 z12 z13 hd lg fcn z17 z18 z19 md z21 z22 z23 z24 hc z26 z27 z28 z29 z30 z31 sm z33 z34)), (z21, .inl (cI, 4, .inl (nF (va_up pp k (f_sortn w))))), (z22, .inl (cI, 4, .inl (nF (va_up pa k (f_sort1 w v))))), (z23, .inl (cI, 4, .inl (nF (va_up pb k (f_sort2 w v)))))]) [0, 1, 2, 3] rfl
          exact W.vret hx hb hr (fun t9 h9 _ => ⟨⟨(), rfl, trivial, by show va_P _ _ _ t9.heap; rw [h9]; exact hP9⟩, hS.F h9⟩) hS.2.2 dX8_sortAt_78
      · refine lv_bipush (v := (nI (7))) hx hb dX8_sortAt_60 (by decide) ?_
        refine lv_goto (tgt := 77) hx hb dX8_sortAt_62 (by decide) ?_
        refine q_iastN hx hb hK hP hD hS 3 0 rfl rfl (j := k) (x := 7) (by omega) (by omega) dX8_sortAt_77 (fun H locs hP hD hS => ?_)
        have hP : va_P (dC, dI) qCl [(x0, .inr (8, mO ax z1 z2 z3 fc z5 z6 z7 qs z9 z10 z11 z12 z13 hd lg fcn z17 z18 z19 md z21 z22 z23 z24 hc z26 z27 z28 z29 z30 z31 sm z33 z34)), (z21, .inl (cI, 4, .inl (nF (va_up pp k (f_sortn w))))), (z22, .inl (cI, 4, .inl (nF (va_up pa k (f_sort1 w v))))), (z23, .inl (cI, 4, .inl (nF (va_up pb k 7))))] H := hP
        have hD : va_D A [(x0, .inr (8, mO ax z1 z2 z3 fc z5 z6 z7 qs z9 z10 z11 z12 z13 hd lg fcn z17 z18 z19 md z21 z22 z23 z24 hc z26 z27 z28 z29 z30 z31 sm z33 z34)), (z21, .inl (cI, 4, .inl (nF (va_up pp k (f_sortn w))))), (z22, .inl (cI, 4, .inl (nF (va_up pa k (f_sort1 w v))))), (z23, .inl (cI, 4, .inl (nF (va_up pb k 7))))] := hD
        have ea30 : (va_up pb k 7) = va_up pb k (f_sort2 w v) := by (first | (exfalso; omega; done) | (rw [f_sort2, if_pos (by omega)]) | (rw [f_sort2, if_neg (by omega), f_way2, if_pos (by omega)]) | (rw [f_sort2, if_neg (by omega), f_way2, if_neg (by omega)]))
        rw [ea30] at hP hD
        have hP : va_P (dC, dI) qCl [(x0, .inr (8, mO ax z1 z2 z3 fc z5 z6 z7 qs z9 z10 z11 z12 z13 hd lg fcn z17 z18 z19 md z21 z22 z23 z24 hc z26 z27 z28 z29 z30 z31 sm z33 z34)), (z21, .inl (cI, 4, .inl (nF (va_up pp k (f_sortn w))))), (z22, .inl (cI, 4, .inl (nF (va_up pa k (f_sort1 w v))))), (z23, .inl (cI, 4, .inl (nF (va_up pb k (f_sort2 w v)))))] H := hP
        have hD : va_D A [(x0, .inr (8, mO ax z1 z2 z3 fc z5 z6 z7 qs z9 z10 z11 z12 z13 hd lg fcn z17 z18 z19 md z21 z22 z23 z24 hc z26 z27 z28 z29 z30 z31 sm z33 z34)), (z21, .inl (cI, 4, .inl (nF (va_up pp k (f_sortn w))))), (z22, .inl (cI, 4, .inl (nF (va_up pa k (f_sort1 w v))))), (z23, .inl (cI, 4, .inl (nF (va_up pb k (f_sort2 w v)))))] := hD
        subst hQ
        subst hAe
        have hP9 := hP.sub (ws' := [(x0, .inr (8, mO ax z1 z2 z3 fc z5 z6 z7 qs z9 z10 z11 z12 z13 hd lg fcn z17 z18 z19 md z21 z22 z23 z24 hc z26 z27 z28 z29 z30 z31 sm z33 z34)), (z21, .inl (cI, 4, .inl (nF (va_up pp k (f_sortn w))))), (z22, .inl (cI, 4, .inl (nF (va_up pa k (f_sort1 w v))))), (z23, .inl (cI, 4, .inl (nF (va_up pb k (f_sort2 w v)))))]) [0, 1, 2, 3] rfl
        exact W.vret hx hb hr (fun t9 h9 _ => ⟨⟨(), rfl, trivial, by show va_P _ _ _ t9.heap; rw [h9]; exact hP9⟩, hS.F h9⟩) hS.2.2 dX8_sortAt_78
    · refine lv_iload_n hx hb dX8_sortAt_36 rfl (lv_at hl 2 rfl) ?_
      refine lv_iconst (v := (nI (2))) hx hb dX8_sortAt_37 (by decide) ?_
      refine q_irem (x := w) (y := 2) hx hb (by omega) (by omega) (by omega) dX8_sortAt_38 ?_
      refine q_if_ne (x := w % 2) (tgt := 46) hx hb dX8_sortAt_39 (by decide) (by omega) (fun c39_31 => ?_) (fun c39_31 => ?_)
      · refine lv_bipush (v := (nI (6))) hx hb dX8_sortAt_46 (by decide) ?_
        refine q_iastN hx hb hK hP hD hS 2 0 rfl rfl (j := k) (x := 6) (by omega) (by omega) dX8_sortAt_48 (fun H locs hP hD hS => ?_)
        have hP : va_P (dC, dI) qCl [(x0, .inr (8, mO ax z1 z2 z3 fc z5 z6 z7 qs z9 z10 z11 z12 z13 hd lg fcn z17 z18 z19 md z21 z22 z23 z24 hc z26 z27 z28 z29 z30 z31 sm z33 z34)), (z21, .inl (cI, 4, .inl (nF (va_up pp k (f_sortn w))))), (z22, .inl (cI, 4, .inl (nF (va_up pa k 6)))), (z23, .inl (cI, 4, .inl (nF pb)))] H := hP
        have hD : va_D A [(x0, .inr (8, mO ax z1 z2 z3 fc z5 z6 z7 qs z9 z10 z11 z12 z13 hd lg fcn z17 z18 z19 md z21 z22 z23 z24 hc z26 z27 z28 z29 z30 z31 sm z33 z34)), (z21, .inl (cI, 4, .inl (nF (va_up pp k (f_sortn w))))), (z22, .inl (cI, 4, .inl (nF (va_up pa k 6)))), (z23, .inl (cI, 4, .inl (nF pb)))] := hD
        have ea32 : (va_up pa k 6) = va_up pa k (f_sort1 w v) := by (first | (exfalso; omega; done) | (rw [f_sort1, if_pos (by omega)]) | (rw [f_sort1, if_neg (by omega), f_way1, if_pos (by omega)]) | (rw [f_sort1, if_neg (by omega), f_way1, if_neg (by omega)]))
        rw [ea32] at hP hD
        have hP : va_P (dC, dI) qCl [(x0, .inr (8, mO ax z1 z2 z3 fc z5 z6 z7 qs z9 z10 z11 z12 z13 hd lg fcn z17 z18 z19 md z21 z22 z23 z24 hc z26 z27 z28 z29 z30 z31 sm z33 z34)), (z21, .inl (cI, 4, .inl (nF (va_up pp k (f_sortn w))))), (z22, .inl (cI, 4, .inl (nF (va_up pa k (f_sort1 w v))))), (z23, .inl (cI, 4, .inl (nF pb)))] H := hP
        have hD : va_D A [(x0, .inr (8, mO ax z1 z2 z3 fc z5 z6 z7 qs z9 z10 z11 z12 z13 hd lg fcn z17 z18 z19 md z21 z22 z23 z24 hc z26 z27 z28 z29 z30 z31 sm z33 z34)), (z21, .inl (cI, 4, .inl (nF (va_up pp k (f_sortn w))))), (z22, .inl (cI, 4, .inl (nF (va_up pa k (f_sort1 w v))))), (z23, .inl (cI, 4, .inl (nF pb)))] := hD
        refine lv_aload_n hx hb dX8_sortAt_49 rfl (lv_at hl 0 rfl) ?_
        refine va_get (D := (dC, dI)) (ci := 8) (v := .ref z23) (C := RX8) (T := TX8) (N := 35) hx hb hts uX8 hown hK hP 0 rfl rfl 23 (by decide) (hts _ kfX8_62) (fun _ h9 => h9) rfl dX8_sortAt_50 ?_
        refine lv_iload_n hx hb dX8_sortAt_53 rfl (lv_at hl 1 rfl) ?_
        refine lv_iload_n hx hb dX8_sortAt_54 rfl (lv_at hl 2 rfl) ?_
        refine lv_bipush (v := (nI (10))) hx hb dX8_sortAt_55 (by decide) ?_
        refine q_icmp_ge (x := w) (y := 10) (tgt := 65) hx hb dX8_sortAt_57 (by decide) (by omega) (by omega) (fun c57_33 => ?_) (fun c57_33 => ?_)
        · refine lv_iload_n hx hb dX8_sortAt_65 rfl (lv_at hl 2 rfl) ?_
          refine lv_iconst (v := (nI (2))) hx hb dX8_sortAt_66 (by decide) ?_
          refine q_irem (x := w) (y := 2) hx hb (by omega) (by omega) (by omega) dX8_sortAt_67 ?_
          refine q_if_ne (x := w % 2) (tgt := 76) hx hb dX8_sortAt_68 (by decide) (by omega) (fun c68_34 => ?_) (fun c68_34 => ?_)
          · refine lv_iload_n hx hb dX8_sortAt_76 rfl (lv_at hl 3 rfl) ?_
            refine q_iastN hx hb hK hP hD hS 3 0 rfl rfl (j := k) (x := v) (by omega) (by omega) dX8_sortAt_77 (fun H locs hP hD hS => ?_)
            have hP : va_P (dC, dI) qCl [(x0, .inr (8, mO ax z1 z2 z3 fc z5 z6 z7 qs z9 z10 z11 z12 z13 hd lg fcn z17 z18 z19 md z21 z22 z23 z24 hc z26 z27 z28 z29 z30 z31 sm z33 z34)), (z21, .inl (cI, 4, .inl (nF (va_up pp k (f_sortn w))))), (z22, .inl (cI, 4, .inl (nF (va_up pa k (f_sort1 w v))))), (z23, .inl (cI, 4, .inl (nF (va_up pb k v))))] H := hP
            have hD : va_D A [(x0, .inr (8, mO ax z1 z2 z3 fc z5 z6 z7 qs z9 z10 z11 z12 z13 hd lg fcn z17 z18 z19 md z21 z22 z23 z24 hc z26 z27 z28 z29 z30 z31 sm z33 z34)), (z21, .inl (cI, 4, .inl (nF (va_up pp k (f_sortn w))))), (z22, .inl (cI, 4, .inl (nF (va_up pa k (f_sort1 w v))))), (z23, .inl (cI, 4, .inl (nF (va_up pb k v))))] := hD
            have ea35 : (va_up pb k v) = va_up pb k (f_sort2 w v) := by (first | (exfalso; omega; done) | (rw [f_sort2, if_pos (by omega)]) | (rw [f_sort2, if_neg (by omega), f_way2, if_pos (by omega)]) | (rw [f_sort2, if_neg (by omega), f_way2, if_neg (by omega)]))
            rw [ea35] at hP hD
            have hP : va_P (dC, dI) qCl [(x0, .inr (8, mO ax z1 z2 z3 fc z5 z6 z7 qs z9 z10 z11 z12 z13 hd lg fcn z17 z18 z19 md z21 z22 z23 z24 hc z26 z27 z28 z29 z30 z31 sm z33 z34)), (z21, .inl (cI, 4, .inl (nF (va_up pp k (f_sortn w))))), (z22, .inl (cI, 4, .inl (nF (va_up pa k (f_sort1 w v))))), (z23, .inl (cI, 4, .inl (nF (va_up pb k (f_sort2 w v)))))] H := hP
            have hD : va_D A [(x0, .inr (8, mO ax z1 z2 z3 fc z5 z6 z7 qs z9 z10 z11 z12 z13 hd lg fcn z17 z18 z19 md z21 z22 z23 z24 hc z26 z27 z28 z29 z30 z31 sm z33 z34)), (z21, .inl (cI, 4, .inl (nF (va_up pp k (f_sortn w))))), (z22, .inl (cI, 4, .inl (nF (va_up pa k (f_sort1 w v))))), (z23, .inl (cI, 4, .inl (nF (va_up pb k (f_sort2 w v)))))] := hD
            subst hQ
            subst hAe
            have hP9 := hP.sub (ws' := [(x0, .inr (8, mO ax z1 z2 z3 fc z5 z6 z7 qs z9 z10 z11 z12 z13 hd lg fcn z17 z18 z19 md z21 z22 z23 z24 hc z26 z27 z28 z29 z30 z31 sm z33 z34)), (z21, .inl (cI, 4, .inl (nF (va_up pp k (f_sortn w))))), (z22, .inl (cI, 4, .inl (nF (va_up pa k (f_sort1 w v))))), (z23, .inl (cI, 4, .inl (nF (va_up pb k (f_sort2 w v)))))]) [0, 1, 2, 3] rfl
            exact W.vret hx hb hr (fun t9 h9 _ => ⟨⟨(), rfl, trivial, by show va_P _ _ _ t9.heap; rw [h9]; exact hP9⟩, hS.F h9⟩) hS.2.2 dX8_sortAt_78
          · refine lv_bipush (v := (nI (6))) hx hb dX8_sortAt_71 (by decide) ?_
            refine lv_goto (tgt := 77) hx hb dX8_sortAt_73 (by decide) ?_
            refine q_iastN hx hb hK hP hD hS 3 0 rfl rfl (j := k) (x := 6) (by omega) (by omega) dX8_sortAt_77 (fun H locs hP hD hS => ?_)
            have hP : va_P (dC, dI) qCl [(x0, .inr (8, mO ax z1 z2 z3 fc z5 z6 z7 qs z9 z10 z11 z12 z13 hd lg fcn z17 z18 z19 md z21 z22 z23 z24 hc z26 z27 z28 z29 z30 z31 sm z33 z34)), (z21, .inl (cI, 4, .inl (nF (va_up pp k (f_sortn w))))), (z22, .inl (cI, 4, .inl (nF (va_up pa k (f_sort1 w v))))), (z23, .inl (cI, 4, .inl (nF (va_up pb k 6))))] H := hP
            have hD : va_D A [(x0, .inr (8, mO ax z1 z2 z3 fc z5 z6 z7 qs z9 z10 z11 z12 z13 hd lg fcn z17 z18 z19 md z21 z22 z23 z24 hc z26 z27 z28 z29 z30 z31 sm z33 z34)), (z21, .inl (cI, 4, .inl (nF (va_up pp k (f_sortn w))))), (z22, .inl (cI, 4, .inl (nF (va_up pa k (f_sort1 w v))))), (z23, .inl (cI, 4, .inl (nF (va_up pb k 6))))] := hD
            have ea36 : (va_up pb k 6) = va_up pb k (f_sort2 w v) := by (first | (exfalso; omega; done) | (rw [f_sort2, if_pos (by omega)]) | (rw [f_sort2, if_neg (by omega), f_way2, if_pos (by omega)]) | (rw [f_sort2, if_neg (by omega), f_way2, if_neg (by omega)]))
            rw [ea36] at hP hD
            have hP : va_P (dC, dI) qCl [(x0, .inr (8, mO ax z1 z2 z3 fc z5 z6 z7 qs z9 z10 z11 z12 z13 hd lg fcn z17 z18 z19 md z21 z22 z23 z24 hc z26 z27 z28 z29 z30 z31 sm z33 z34)), (z21, .inl (cI, 4, .inl (nF (va_up pp k (f_sortn w))))), (z22, .inl (cI, 4, .inl (nF (va_up pa k (f_sort1 w v))))), (z23, .inl (cI, 4, .inl (nF (va_up pb k (f_sort2 w v)))))] H := hP
            have hD : va_D A [(x0, .inr (8, mO ax z1 z2 z3 fc z5 z6 z7 qs z9 z10 z11 z12 z13 hd lg fcn z17 z18 z19 md z21 z22 z23 z24 hc z26 z27 z28 z29 z30 z31 sm z33 z34)), (z21, .inl (cI, 4, .inl (nF (va_up pp k (f_sortn w))))), (z22, .inl (cI, 4, .inl (nF (va_up pa k (f_sort1 w v))))), (z23, .inl (cI, 4, .inl (nF (va_up pb k (f_sort2 w v)))))] := hD
            subst hQ
            subst hAe
            have hP9 := hP.sub (ws' := [(x0, .inr (8, mO ax z1 z2 z3 fc z5 z6 z7 qs z9 z10 z11 z12 z13 hd lg fcn z17 z18 z19 md z21 z22 z23 z24 hc z26 z27 z28 z29 z30 z31 sm z33 z34)), (z21, .inl (cI, 4, .inl (nF (va_up pp k (f_sortn w))))), (z22, .inl (cI, 4, .inl (nF (va_up pa k (f_sort1 w v))))), (z23, .inl (cI, 4, .inl (nF (va_up pb k (f_sort2 w v)))))]) [0, 1, 2, 3] rfl
            exact W.vret hx hb hr (fun t9 h9 _ => ⟨⟨(), rfl, trivial, by show va_P _ _ _ t9.heap; rw [h9]; exact hP9⟩, hS.F h9⟩) hS.2.2 dX8_sortAt_78
        · refine lv_bipush (v := (nI (7))) hx hb dX8_sortAt_60 (by decide) ?_
          refine lv_goto (tgt := 77) hx hb dX8_sortAt_62 (by decide) ?_
          refine q_iastN hx hb hK hP hD hS 3 0 rfl rfl (j := k) (x := 7) (by omega) (by omega) dX8_sortAt_77 (fun H locs hP hD hS => ?_)
          have hP : va_P (dC, dI) qCl [(x0, .inr (8, mO ax z1 z2 z3 fc z5 z6 z7 qs z9 z10 z11 z12 z13 hd lg fcn z17 z18 z19 md z21 z22 z23 z24 hc z26 z27 z28 z29 z30 z31 sm z33 z34)), (z21, .inl (cI, 4, .inl (nF (va_up pp k (f_sortn w))))), (z22, .inl (cI, 4, .inl (nF (va_up pa k (f_sort1 w v))))), (z23, .inl (cI, 4, .inl (nF (va_up pb k 7))))] H := hP
          have hD : va_D A [(x0, .inr (8, mO ax z1 z2 z3 fc z5 z6 z7 qs z9 z10 z11 z12 z13 hd lg fcn z17 z18 z19 md z21 z22 z23 z24 hc z26 z27 z28 z29 z30 z31 sm z33 z34)), (z21, .inl (cI, 4, .inl (nF (va_up pp k (f_sortn w))))), (z22, .inl (cI, 4, .inl (nF (va_up pa k (f_sort1 w v))))), (z23, .inl (cI, 4, .inl (nF (va_up pb k 7))))] := hD
          have ea37 : (va_up pb k 7) = va_up pb k (f_sort2 w v) := by (first | (exfalso; omega; done) | (rw [f_sort2, if_pos (by omega)]) | (rw [f_sort2, if_neg (by omega), f_way2, if_pos (by omega)]) | (rw [f_sort2, if_neg (by omega), f_way2, if_neg (by omega)]))
          rw [ea37] at hP hD
          have hP : va_P (dC, dI) qCl [(x0, .inr (8, mO ax z1 z2 z3 fc z5 z6 z7 qs z9 z10 z11 z12 z13 hd lg fcn z17 z18 z19 md z21 z22 z23 z24 hc z26 z27 z28 z29 z30 z31 sm z33 z34)), (z21, .inl (cI, 4, .inl (nF (va_up pp k (f_sortn w))))), (z22, .inl (cI, 4, .inl (nF (va_up pa k (f_sort1 w v))))), (z23, .inl (cI, 4, .inl (nF (va_up pb k (f_sort2 w v)))))] H := hP
          have hD : va_D A [(x0, .inr (8, mO ax z1 z2 z3 fc z5 z6 z7 qs z9 z10 z11 z12 z13 hd lg fcn z17 z18 z19 md z21 z22 z23 z24 hc z26 z27 z28 z29 z30 z31 sm z33 z34)), (z21, .inl (cI, 4, .inl (nF (va_up pp k (f_sortn w))))), (z22, .inl (cI, 4, .inl (nF (va_up pa k (f_sort1 w v))))), (z23, .inl (cI, 4, .inl (nF (va_up pb k (f_sort2 w v)))))] := hD
          subst hQ
          subst hAe
          have hP9 := hP.sub (ws' := [(x0, .inr (8, mO ax z1 z2 z3 fc z5 z6 z7 qs z9 z10 z11 z12 z13 hd lg fcn z17 z18 z19 md z21 z22 z23 z24 hc z26 z27 z28 z29 z30 z31 sm z33 z34)), (z21, .inl (cI, 4, .inl (nF (va_up pp k (f_sortn w))))), (z22, .inl (cI, 4, .inl (nF (va_up pa k (f_sort1 w v))))), (z23, .inl (cI, 4, .inl (nF (va_up pb k (f_sort2 w v)))))]) [0, 1, 2, 3] rfl
          exact W.vret hx hb hr (fun t9 h9 _ => ⟨⟨(), rfl, trivial, by show va_P _ _ _ t9.heap; rw [h9]; exact hP9⟩, hS.F h9⟩) hS.2.2 dX8_sortAt_78
      · refine lv_iload_n hx hb dX8_sortAt_42 rfl (lv_at hl 3 rfl) ?_
        refine lv_goto (tgt := 48) hx hb dX8_sortAt_43 (by decide) ?_
        refine q_iastN hx hb hK hP hD hS 2 0 rfl rfl (j := k) (x := v) (by omega) (by omega) dX8_sortAt_48 (fun H locs hP hD hS => ?_)
        have hP : va_P (dC, dI) qCl [(x0, .inr (8, mO ax z1 z2 z3 fc z5 z6 z7 qs z9 z10 z11 z12 z13 hd lg fcn z17 z18 z19 md z21 z22 z23 z24 hc z26 z27 z28 z29 z30 z31 sm z33 z34)), (z21, .inl (cI, 4, .inl (nF (va_up pp k (f_sortn w))))), (z22, .inl (cI, 4, .inl (nF (va_up pa k v)))), (z23, .inl (cI, 4, .inl (nF pb)))] H := hP
        have hD : va_D A [(x0, .inr (8, mO ax z1 z2 z3 fc z5 z6 z7 qs z9 z10 z11 z12 z13 hd lg fcn z17 z18 z19 md z21 z22 z23 z24 hc z26 z27 z28 z29 z30 z31 sm z33 z34)), (z21, .inl (cI, 4, .inl (nF (va_up pp k (f_sortn w))))), (z22, .inl (cI, 4, .inl (nF (va_up pa k v)))), (z23, .inl (cI, 4, .inl (nF pb)))] := hD
        have ea38 : (va_up pa k v) = va_up pa k (f_sort1 w v) := by (first | (exfalso; omega; done) | (rw [f_sort1, if_pos (by omega)]) | (rw [f_sort1, if_neg (by omega), f_way1, if_pos (by omega)]) | (rw [f_sort1, if_neg (by omega), f_way1, if_neg (by omega)]))
        rw [ea38] at hP hD
        have hP : va_P (dC, dI) qCl [(x0, .inr (8, mO ax z1 z2 z3 fc z5 z6 z7 qs z9 z10 z11 z12 z13 hd lg fcn z17 z18 z19 md z21 z22 z23 z24 hc z26 z27 z28 z29 z30 z31 sm z33 z34)), (z21, .inl (cI, 4, .inl (nF (va_up pp k (f_sortn w))))), (z22, .inl (cI, 4, .inl (nF (va_up pa k (f_sort1 w v))))), (z23, .inl (cI, 4, .inl (nF pb)))] H := hP
        have hD : va_D A [(x0, .inr (8, mO ax z1 z2 z3 fc z5 z6 z7 qs z9 z10 z11 z12 z13 hd lg fcn z17 z18 z19 md z21 z22 z23 z24 hc z26 z27 z28 z29 z30 z31 sm z33 z34)), (z21, .inl (cI, 4, .inl (nF (va_up pp k (f_sortn w))))), (z22, .inl (cI, 4, .inl (nF (va_up pa k (f_sort1 w v))))), (z23, .inl (cI, 4, .inl (nF pb)))] := hD
        refine lv_aload_n hx hb dX8_sortAt_49 rfl (lv_at hl 0 rfl) ?_
        refine va_get (D := (dC, dI)) (ci := 8) (v := .ref z23) (C := RX8) (T := TX8) (N := 35) hx hb hts uX8 hown hK hP 0 rfl rfl 23 (by decide) (hts _ kfX8_62) (fun _ h9 => h9) rfl dX8_sortAt_50 ?_
        refine lv_iload_n hx hb dX8_sortAt_53 rfl (lv_at hl 1 rfl) ?_
        refine lv_iload_n hx hb dX8_sortAt_54 rfl (lv_at hl 2 rfl) ?_
        refine lv_bipush (v := (nI (10))) hx hb dX8_sortAt_55 (by decide) ?_
        refine q_icmp_ge (x := w) (y := 10) (tgt := 65) hx hb dX8_sortAt_57 (by decide) (by omega) (by omega) (fun c57_39 => ?_) (fun c57_39 => ?_)
        · refine lv_iload_n hx hb dX8_sortAt_65 rfl (lv_at hl 2 rfl) ?_
          refine lv_iconst (v := (nI (2))) hx hb dX8_sortAt_66 (by decide) ?_
          refine q_irem (x := w) (y := 2) hx hb (by omega) (by omega) (by omega) dX8_sortAt_67 ?_
          refine q_if_ne (x := w % 2) (tgt := 76) hx hb dX8_sortAt_68 (by decide) (by omega) (fun c68_40 => ?_) (fun c68_40 => ?_)
          · refine lv_iload_n hx hb dX8_sortAt_76 rfl (lv_at hl 3 rfl) ?_
            refine q_iastN hx hb hK hP hD hS 3 0 rfl rfl (j := k) (x := v) (by omega) (by omega) dX8_sortAt_77 (fun H locs hP hD hS => ?_)
            have hP : va_P (dC, dI) qCl [(x0, .inr (8, mO ax z1 z2 z3 fc z5 z6 z7 qs z9 z10 z11 z12 z13 hd lg fcn z17 z18 z19 md z21 z22 z23 z24 hc z26 z27 z28 z29 z30 z31 sm z33 z34)), (z21, .inl (cI, 4, .inl (nF (va_up pp k (f_sortn w))))), (z22, .inl (cI, 4, .inl (nF (va_up pa k (f_sort1 w v))))), (z23, .inl (cI, 4, .inl (nF (va_up pb k v))))] H := hP
            have hD : va_D A [(x0, .inr (8, mO ax z1 z2 z3 fc z5 z6 z7 qs z9 z10 z11 z12 z13 hd lg fcn z17 z18 z19 md z21 z22 z23 z24 hc z26 z27 z28 z29 z30 z31 sm z33 z34)), (z21, .inl (cI, 4, .inl (nF (va_up pp k (f_sortn w))))), (z22, .inl (cI, 4, .inl (nF (va_up pa k (f_sort1 w v))))), (z23, .inl (cI, 4, .inl (nF (va_up pb k v))))] := hD
            have ea41 : (va_up pb k v) = va_up pb k (f_sort2 w v) := by (first | (exfalso; omega; done) | (rw [f_sort2, if_pos (by omega)]) | (rw [f_sort2, if_neg (by omega), f_way2, if_pos (by omega)]) | (rw [f_sort2, if_neg (by omega), f_way2, if_neg (by omega)]))
            rw [ea41] at hP hD
            have hP : va_P (dC, dI) qCl [(x0, .inr (8, mO ax z1 z2 z3 fc z5 z6 z7 qs z9 z10 z11 z12 z13 hd lg fcn z17 z18 z19 md z21 z22 z23 z24 hc z26 z27 z28 z29 z30 z31 sm z33 z34)), (z21, .inl (cI, 4, .inl (nF (va_up pp k (f_sortn w))))), (z22, .inl (cI, 4, .inl (nF (va_up pa k (f_sort1 w v))))), (z23, .inl (cI, 4, .inl (nF (va_up pb k (f_sort2 w v)))))] H := hP
            have hD : va_D A [(x0, .inr (8, mO ax z1 z2 z3 fc z5 z6 z7 qs z9 z10 z11 z12 z13 hd lg fcn z17 z18 z19 md z21 z22 z23 z24 hc z26 z27 z28 z29 z30 z31 sm z33 z34)), (z21, .inl (cI, 4, .inl (nF (va_up pp k (f_sortn w))))), (z22, .inl (cI, 4, .inl (nF (va_up pa k (f_sort1 w v))))), (z23, .inl (cI, 4, .inl (nF (va_up pb k (f_sort2 w v)))))] := hD
            subst hQ
            subst hAe
            have hP9 := hP.sub (ws' := [(x0, .inr (8, mO ax z1 z2 z3 fc z5 z6 z7 qs z9 z10 z11 z12 z13 hd lg fcn z17 z18 z19 md z21 z22 z23 z24 hc z26 z27 z28 z29 z30 z31 sm z33 z34)), (z21, .inl (cI, 4, .inl (nF (va_up pp k (f_sortn w))))), (z22, .inl (cI, 4, .inl (nF (va_up pa k (f_sort1 w v))))), (z23, .inl (cI, 4, .inl (nF (va_up pb k (f_sort2 w v)))))]) [0, 1, 2, 3] rfl
            exact W.vret hx hb hr (fun t9 h9 _ => ⟨⟨(), rfl, trivial, by show va_P _ _ _ t9.heap; rw [h9]; exact hP9⟩, hS.F h9⟩) hS.2.2 dX8_sortAt_78
          · refine lv_bipush (v := (nI (6))) hx hb dX8_sortAt_71 (by decide) ?_
            refine lv_goto (tgt := 77) hx hb dX8_sortAt_73 (by decide) ?_
            refine q_iastN hx hb hK hP hD hS 3 0 rfl rfl (j := k) (x := 6) (by omega) (by omega) dX8_sortAt_77 (fun H locs hP hD hS => ?_)
            have hP : va_P (dC, dI) qCl [(x0, .inr (8, mO ax z1 z2 z3 fc z5 z6 z7 qs z9 z10 z11 z12 z13 hd lg fcn z17 z18 z19 md z21 z22 z23 z24 hc z26 z27 z28 z29 z30 z31 sm z33 z34)), (z21, .inl (cI, 4, .inl (nF (va_up pp k (f_sortn w))))), (z22, .inl (cI, 4, .inl (nF (va_up pa k (f_sort1 w v))))), (z23, .inl (cI, 4, .inl (nF (va_up pb k 6))))] H := hP
            have hD : va_D A [(x0, .inr (8, mO ax z1 z2 z3 fc z5 z6 z7 qs z9 z10 z11 z12 z13 hd lg fcn z17 z18 z19 md z21 z22 z23 z24 hc z26 z27 z28 z29 z30 z31 sm z33 z34)), (z21, .inl (cI, 4, .inl (nF (va_up pp k (f_sortn w))))), (z22, .inl (cI, 4, .inl (nF (va_up pa k (f_sort1 w v))))), (z23, .inl (cI, 4, .inl (nF (va_up pb k 6))))] := hD
            have ea42 : (va_up pb k 6) = va_up pb k (f_sort2 w v) := by (first | (exfalso; omega; done) | (rw [f_sort2, if_pos (by omega)]) | (rw [f_sort2, if_neg (by omega), f_way2, if_pos (by omega)]) | (rw [f_sort2, if_neg (by omega), f_way2, if_neg (by omega)]))
            rw [ea42] at hP hD
            have hP : va_P (dC, dI) qCl [(x0, .inr (8, mO ax z1 z2 z3 fc z5 z6 z7 qs z9 z10 z11 z12 z13 hd lg fcn z17 z18 z19 md z21 z22 z23 z24 hc z26 z27 z28 z29 z30 z31 sm z33 z34)), (z21, .inl (cI, 4, .inl (nF (va_up pp k (f_sortn w))))), (z22, .inl (cI, 4, .inl (nF (va_up pa k (f_sort1 w v))))), (z23, .inl (cI, 4, .inl (nF (va_up pb k (f_sort2 w v)))))] H := hP
            have hD : va_D A [(x0, .inr (8, mO ax z1 z2 z3 fc z5 z6 z7 qs z9 z10 z11 z12 z13 hd lg fcn z17 z18 z19 md z21 z22 z23 z24 hc z26 z27 z28 z29 z30 z31 sm z33 z34)), (z21, .inl (cI, 4, .inl (nF (va_up pp k (f_sortn w))))), (z22, .inl (cI, 4, .inl (nF (va_up pa k (f_sort1 w v))))), (z23, .inl (cI, 4, .inl (nF (va_up pb k (f_sort2 w v)))))] := hD
            subst hQ
            subst hAe
            have hP9 := hP.sub (ws' := [(x0, .inr (8, mO ax z1 z2 z3 fc z5 z6 z7 qs z9 z10 z11 z12 z13 hd lg fcn z17 z18 z19 md z21 z22 z23 z24 hc z26 z27 z28 z29 z30 z31 sm z33 z34)), (z21, .inl (cI, 4, .inl (nF (va_up pp k (f_sortn w))))), (z22, .inl (cI, 4, .inl (nF (va_up pa k (f_sort1 w v))))), (z23, .inl (cI, 4, .inl (nF (va_up pb k (f_sort2 w v)))))]) [0, 1, 2, 3] rfl
            exact W.vret hx hb hr (fun t9 h9 _ => ⟨⟨(), rfl, trivial, by show va_P _ _ _ t9.heap; rw [h9]; exact hP9⟩, hS.F h9⟩) hS.2.2 dX8_sortAt_78
        · refine lv_bipush (v := (nI (7))) hx hb dX8_sortAt_60 (by decide) ?_
          refine lv_goto (tgt := 77) hx hb dX8_sortAt_62 (by decide) ?_
          refine q_iastN hx hb hK hP hD hS 3 0 rfl rfl (j := k) (x := 7) (by omega) (by omega) dX8_sortAt_77 (fun H locs hP hD hS => ?_)
          have hP : va_P (dC, dI) qCl [(x0, .inr (8, mO ax z1 z2 z3 fc z5 z6 z7 qs z9 z10 z11 z12 z13 hd lg fcn z17 z18 z19 md z21 z22 z23 z24 hc z26 z27 z28 z29 z30 z31 sm z33 z34)), (z21, .inl (cI, 4, .inl (nF (va_up pp k (f_sortn w))))), (z22, .inl (cI, 4, .inl (nF (va_up pa k (f_sort1 w v))))), (z23, .inl (cI, 4, .inl (nF (va_up pb k 7))))] H := hP
          have hD : va_D A [(x0, .inr (8, mO ax z1 z2 z3 fc z5 z6 z7 qs z9 z10 z11 z12 z13 hd lg fcn z17 z18 z19 md z21 z22 z23 z24 hc z26 z27 z28 z29 z30 z31 sm z33 z34)), (z21, .inl (cI, 4, .inl (nF (va_up pp k (f_sortn w))))), (z22, .inl (cI, 4, .inl (nF (va_up pa k (f_sort1 w v))))), (z23, .inl (cI, 4, .inl (nF (va_up pb k 7))))] := hD
          have ea43 : (va_up pb k 7) = va_up pb k (f_sort2 w v) := by (first | (exfalso; omega; done) | (rw [f_sort2, if_pos (by omega)]) | (rw [f_sort2, if_neg (by omega), f_way2, if_pos (by omega)]) | (rw [f_sort2, if_neg (by omega), f_way2, if_neg (by omega)]))
          rw [ea43] at hP hD
          have hP : va_P (dC, dI) qCl [(x0, .inr (8, mO ax z1 z2 z3 fc z5 z6 z7 qs z9 z10 z11 z12 z13 hd lg fcn z17 z18 z19 md z21 z22 z23 z24 hc z26 z27 z28 z29 z30 z31 sm z33 z34)), (z21, .inl (cI, 4, .inl (nF (va_up pp k (f_sortn w))))), (z22, .inl (cI, 4, .inl (nF (va_up pa k (f_sort1 w v))))), (z23, .inl (cI, 4, .inl (nF (va_up pb k (f_sort2 w v)))))] H := hP
          have hD : va_D A [(x0, .inr (8, mO ax z1 z2 z3 fc z5 z6 z7 qs z9 z10 z11 z12 z13 hd lg fcn z17 z18 z19 md z21 z22 z23 z24 hc z26 z27 z28 z29 z30 z31 sm z33 z34)), (z21, .inl (cI, 4, .inl (nF (va_up pp k (f_sortn w))))), (z22, .inl (cI, 4, .inl (nF (va_up pa k (f_sort1 w v))))), (z23, .inl (cI, 4, .inl (nF (va_up pb k (f_sort2 w v)))))] := hD
          subst hQ
          subst hAe
          have hP9 := hP.sub (ws' := [(x0, .inr (8, mO ax z1 z2 z3 fc z5 z6 z7 qs z9 z10 z11 z12 z13 hd lg fcn z17 z18 z19 md z21 z22 z23 z24 hc z26 z27 z28 z29 z30 z31 sm z33 z34)), (z21, .inl (cI, 4, .inl (nF (va_up pp k (f_sortn w))))), (z22, .inl (cI, 4, .inl (nF (va_up pa k (f_sort1 w v))))), (z23, .inl (cI, 4, .inl (nF (va_up pb k (f_sort2 w v)))))]) [0, 1, 2, 3] rfl
          exact W.vret hx hb hr (fun t9 h9 _ => ⟨⟨(), rfl, trivial, by show va_P _ _ _ t9.heap; rw [h9]; exact hP9⟩, hS.F h9⟩) hS.2.2 dX8_sortAt_78
abbrev rm_c_Model_wayAt : Room := { frames := 0, cells := 0, slots := 0, locals := 0 }
set_option maxHeartbeats 4000000 in
set_option maxRecDepth 100000 in
theorem c_Model_wayAt (l : Launch) (dC : Nat → ClassId) (dI : Nat → Nat → Nat) (cI cL cQ cZ : ClassId) (x0 : Nat) (ax : Nat) (z1 : Nat) (z2 : Nat) (z3 : Nat) (fc : Nat) (z5 : Nat) (z6 : Nat) (z7 : Nat) (qs : Nat) (z9 : Nat) (z10 : Nat) (z11 : Nat) (z12 : Nat) (z13 : Nat) (hd : Option Nat) (lg : Bool) (fcn : Nat) (z17 : Nat) (z18 : Nat) (z19 : Nat) (md : Nat) (z21 : Nat) (z22 : Nat) (z23 : Nat) (z24 : Nat) (hc : Nat) (z26 : Nat) (z27 : Nat) (z28 : Nat) (z29 : Nat) (z30 : Nat) (z31 : Nat) (sm : Bool) (z33 : Nat) (z34 : Nat) (pp : Nat → Nat) (pa : Nat → Nat) (pb : Nat → Nat) (k : Nat) (w : Nat) (x : Nat) (y : Nat) (hk : k < 4) (hw : w < 16) : Met l yX8_wayAt wkX8_wayAt rm_c_Model_wayAt (q_W (dC, dI) qCl (qT cI cL cQ cZ) [(x0, .inr (8, mO ax z1 z2 z3 fc z5 z6 z7 qs z9 z10 z11 z12 z13 hd lg fcn z17 z18 z19 md z21 z22 z23 z24 hc z26 z27 z28 z29 z30 z31 sm z33 z34)), (z21, .inl (cI, 4, .inl (nF pp))), (z22, .inl (cI, 4, .inl (nF pa))), (z23, .inl (cI, 4, .inl (nF pb)))] [.ref x0, .int (nI (k)), .int (nI (w)), .int (nI (x)), .int (nI (y))]) (va_Qv (fun (u : Unit) => True) (fun (u : Unit) t => va_P (dC, dI) qCl [(x0, .inr (8, mO ax z1 z2 z3 fc z5 z6 z7 qs z9 z10 z11 z12 z13 hd lg fcn z17 z18 z19 md z21 z22 z23 z24 hc z26 z27 z28 z29 z30 z31 sm z33 z34)), (z21, .inl (cI, 4, .inl (nF (va_up pp k (f_wayn w))))), (z22, .inl (cI, 4, .inl (nF (va_up pa k (f_way1 w x y))))), (z23, .inl (cI, 4, .inl (nF (va_up pb k (f_way2 w x y)))))] t.heap) (q_A [(x0, .inr (8, mO ax z1 z2 z3 fc z5 z6 z7 qs z9 z10 z11 z12 z13 hd lg fcn z17 z18 z19 md z21 z22 z23 z24 hc z26 z27 z28 z29 z30 z31 sm z33 z34)), (z21, .inl (cI, 4, .inl (nF pp))), (z22, .inl (cI, 4, .inl (nF pa))), (z23, .inl (cI, 4, .inl (nF pb)))])) 0 0 (q_A [(x0, .inr (8, mO ax z1 z2 z3 fc z5 z6 z7 qs z9 z10 z11 z12 z13 hd lg fcn z17 z18 z19 md z21 z22 z23 z24 hc z26 z27 z28 z29 z30 z31 sm z33 z34)), (z21, .inl (cI, 4, .inl (nF pp))), (z22, .inl (cI, 4, .inl (nF pa))), (z23, .inl (cI, 4, .inl (nF pb)))]) := by
  refine Met.ofW (cc := cX8_wayAt) (maxL := 5) (ret := none) (by decide) rfl ?_
  intro p e s m args below meth c s₁ B hml hv
  obtain ⟨hargs, hP, hK, hD0⟩ := hv
  have hx := B.exec
  have hb := B.bytes
  have hr := B.returns
  have hts : ∀ w ∈ qW, w.before args s = true := fun w h => atoms_spec (ws := wkX8_wayAt) B.pre w (List.mem_cons_of_mem _ h)
  have hown : s.vm.findClass RX8 = some m.cls := findClass_of_methodNamed B.named
  have hlocks := B.notSynchronized
  refine q_named (fun Q hQ => ?_)
  have hD : va_D (q_A [(x0, .inr (8, mO ax z1 z2 z3 fc z5 z6 z7 qs z9 z10 z11 z12 z13 hd lg fcn z17 z18 z19 md z21 z22 z23 z24 hc z26 z27 z28 z29 z30 z31 sm z33 z34)), (z21, .inl (cI, 4, .inl (nF pp))), (z22, .inl (cI, 4, .inl (nF pa))), (z23, .inl (cI, 4, .inl (nF pb)))]) [(x0, .inr (8, mO ax z1 z2 z3 fc z5 z6 z7 qs z9 z10 z11 z12 z13 hd lg fcn z17 z18 z19 md z21 z22 z23 z24 hc z26 z27 z28 z29 z30 z31 sm z33 z34)), (z21, .inl (cI, 4, .inl (nF pp))), (z22, .inl (cI, 4, .inl (nF pa))), (z23, .inl (cI, 4, .inl (nF pb)))] := ⟨hD0.1, fun k q h => ⟨k, q.2, h⟩⟩
  generalize hAe : q_A [(x0, .inr (8, mO ax z1 z2 z3 fc z5 z6 z7 qs z9 z10 z11 z12 z13 hd lg fcn z17 z18 z19 md z21 z22 z23 z24 hc z26 z27 z28 z29 z30 z31 sm z33 z34)), (z21, .inl (cI, 4, .inl (nF pp))), (z22, .inl (cI, 4, .inl (nF pa))), (z23, .inl (cI, 4, .inl (nF pb)))] = A at hD
  have hS : va_S A s.heap s.heap [] := va_S.rf
  refine q_entry hargs (Nat.le_of_ble_eq_true rfl) (fun ls hl => ?_)
  have hl : lv_has ls 5 [(0, .ref x0), (1, .int (nI (k))), (2, .int (nI (w))), (3, .int (nI (x))), (4, .int (nI (y)))] := hl
  obtain ⟨H, locs, eH, eL⟩ : ∃ (H : Heap) (locs : List Loc), s.heap = H ∧ ([] : List Loc) = locs := ⟨_, _, rfl, rfl⟩
  have hS : va_S A s.heap H locs := by rw [← eH, ← eL]; exact hS
  have hP : va_P (dC, dI) qCl [(x0, .inr (8, mO ax z1 z2 z3 fc z5 z6 z7 qs z9 z10 z11 z12 z13 hd lg fcn z17 z18 z19 md z21 z22 z23 z24 hc z26 z27 z28 z29 z30 z31 sm z33 z34)), (z21, .inl (cI, 4, .inl (nF pp))), (z22, .inl (cI, 4, .inl (nF pa))), (z23, .inl (cI, 4, .inl (nF pb)))] H := by rw [← eH]; exact hP
  refine W_at eH eL ?_
  refine lv_aload_n hx hb dX8_wayAt_0 rfl (lv_at hl 0 rfl) ?_
  refine va_get (D := (dC, dI)) (ci := 8) (v := .ref z21) (C := RX8) (T := TX8) (N := 35) hx hb hts uX8 hown hK hP 0 rfl rfl 21 (by decide) (hts _ kfX8_56) (fun _ h9 => h9) rfl dX8_wayAt_1 ?_
  refine lv_iload_n hx hb dX8_wayAt_4 rfl (lv_at hl 1 rfl) ?_
  refine lv_bipush (v := (nI (32))) hx hb dX8_wayAt_5 (by decide) ?_
  refine lv_iload_n hx hb dX8_wayAt_7 rfl (lv_at hl 2 rfl) ?_
  refine lv_iconst (v := (nI (2))) hx hb dX8_wayAt_8 (by decide) ?_
  refine q_idiv (x := w) (y := 2) hx hb (by omega) (by omega) (by omega) dX8_wayAt_9 ?_
  refine q_iadd (x := 32) (y := w / 2) hx hb dX8_wayAt_10 ?_
  refine q_iastN hx hb hK hP hD hS 1 0 rfl rfl (j := k) (x := 32 + (w / 2)) (by omega) (by omega) dX8_wayAt_11 (fun H locs hP hD hS => ?_)
  have hP : va_P (dC, dI) qCl [(x0, .inr (8, mO ax z1 z2 z3 fc z5 z6 z7 qs z9 z10 z11 z12 z13 hd lg fcn z17 z18 z19 md z21 z22 z23 z24 hc z26 z27 z28 z29 z30 z31 sm z33 z34)), (z21, .inl (cI, 4, .inl (nF (va_up pp k (32 + (w / 2)))))), (z22, .inl (cI, 4, .inl (nF pa))), (z23, .inl (cI, 4, .inl (nF pb)))] H := hP
  have hD : va_D A [(x0, .inr (8, mO ax z1 z2 z3 fc z5 z6 z7 qs z9 z10 z11 z12 z13 hd lg fcn z17 z18 z19 md z21 z22 z23 z24 hc z26 z27 z28 z29 z30 z31 sm z33 z34)), (z21, .inl (cI, 4, .inl (nF (va_up pp k (32 + (w / 2)))))), (z22, .inl (cI, 4, .inl (nF pa))), (z23, .inl (cI, 4, .inl (nF pb)))] := hD
  have hP : va_P (dC, dI) qCl [(x0, .inr (8, mO ax z1 z2 z3 fc z5 z6 z7 qs z9 z10 z11 z12 z13 hd lg fcn z17 z18 z19 md z21 z22 z23 z24 hc z26 z27 z28 z29 z30 z31 sm z33 z34)), (z21, .inl (cI, 4, .inl (nF (va_up pp k (f_wayn w))))), (z22, .inl (cI, 4, .inl (nF pa))), (z23, .inl (cI, 4, .inl (nF pb)))] H := hP
  have hD : va_D A [(x0, .inr (8, mO ax z1 z2 z3 fc z5 z6 z7 qs z9 z10 z11 z12 z13 hd lg fcn z17 z18 z19 md z21 z22 z23 z24 hc z26 z27 z28 z29 z30 z31 sm z33 z34)), (z21, .inl (cI, 4, .inl (nF (va_up pp k (f_wayn w))))), (z22, .inl (cI, 4, .inl (nF pa))), (z23, .inl (cI, 4, .inl (nF pb)))] := hD
  refine lv_aload_n hx hb dX8_wayAt_12 rfl (lv_at hl 0 rfl) ?_
  refine va_get (D := (dC, dI)) (ci := 8) (v := .ref z22) (C := RX8) (T := TX8) (N := 35) hx hb hts uX8 hown hK hP 0 rfl rfl 22 (by decide) (hts _ kfX8_59) (fun _ h9 => h9) rfl dX8_wayAt_13 ?_
  refine lv_iload_n hx hb dX8_wayAt_16 rfl (lv_at hl 1 rfl) ?_
  refine lv_iload_n hx hb dX8_wayAt_17 rfl (lv_at hl 2 rfl) ?_
  refine lv_iconst (v := (nI (2))) hx hb dX8_wayAt_18 (by decide) ?_
  refine q_irem (x := w) (y := 2) hx hb (by omega) (by omega) (by omega) dX8_wayAt_19 ?_
  refine q_if_ne (x := w % 2) (tgt := 27) hx hb dX8_wayAt_20 (by decide) (by omega) (fun c20_1 => ?_) (fun c20_1 => ?_)
  · refine lv_iload hx hb dX8_wayAt_27 (lv_at hl 4 rfl) ?_
    refine q_iastN hx hb hK hP hD hS 2 0 rfl rfl (j := k) (x := y) (by omega) (by omega) dX8_wayAt_29 (fun H locs hP hD hS => ?_)
    have hP : va_P (dC, dI) qCl [(x0, .inr (8, mO ax z1 z2 z3 fc z5 z6 z7 qs z9 z10 z11 z12 z13 hd lg fcn z17 z18 z19 md z21 z22 z23 z24 hc z26 z27 z28 z29 z30 z31 sm z33 z34)), (z21, .inl (cI, 4, .inl (nF (va_up pp k (f_wayn w))))), (z22, .inl (cI, 4, .inl (nF (va_up pa k y)))), (z23, .inl (cI, 4, .inl (nF pb)))] H := hP
    have hD : va_D A [(x0, .inr (8, mO ax z1 z2 z3 fc z5 z6 z7 qs z9 z10 z11 z12 z13 hd lg fcn z17 z18 z19 md z21 z22 z23 z24 hc z26 z27 z28 z29 z30 z31 sm z33 z34)), (z21, .inl (cI, 4, .inl (nF (va_up pp k (f_wayn w))))), (z22, .inl (cI, 4, .inl (nF (va_up pa k y)))), (z23, .inl (cI, 4, .inl (nF pb)))] := hD
    have ea2 : (va_up pa k y) = va_up pa k (f_way1 w x y) := by (first | (exfalso; omega; done) | (rw [f_way1, if_pos (by omega)]) | (rw [f_way1, if_neg (by omega)]))
    rw [ea2] at hP hD
    have hP : va_P (dC, dI) qCl [(x0, .inr (8, mO ax z1 z2 z3 fc z5 z6 z7 qs z9 z10 z11 z12 z13 hd lg fcn z17 z18 z19 md z21 z22 z23 z24 hc z26 z27 z28 z29 z30 z31 sm z33 z34)), (z21, .inl (cI, 4, .inl (nF (va_up pp k (f_wayn w))))), (z22, .inl (cI, 4, .inl (nF (va_up pa k (f_way1 w x y))))), (z23, .inl (cI, 4, .inl (nF pb)))] H := hP
    have hD : va_D A [(x0, .inr (8, mO ax z1 z2 z3 fc z5 z6 z7 qs z9 z10 z11 z12 z13 hd lg fcn z17 z18 z19 md z21 z22 z23 z24 hc z26 z27 z28 z29 z30 z31 sm z33 z34)), (z21, .inl (cI, 4, .inl (nF (va_up pp k (f_wayn w))))), (z22, .inl (cI, 4, .inl (nF (va_up pa k (f_way1 w x y))))), (z23, .inl (cI, 4, .inl (nF pb)))] := hD
    refine lv_aload_n hx hb dX8_wayAt_30 rfl (lv_at hl 0 rfl) ?_
    refine va_get (D := (dC, dI)) (ci := 8) (v := .ref z23) (C := RX8) (T := TX8) (N := 35) hx hb hts uX8 hown hK hP 0 rfl rfl 23 (by decide) (hts _ kfX8_62) (fun _ h9 => h9) rfl dX8_wayAt_31 ?_
    refine lv_iload_n hx hb dX8_wayAt_34 rfl (lv_at hl 1 rfl) ?_
    refine lv_iload_n hx hb dX8_wayAt_35 rfl (lv_at hl 2 rfl) ?_
    refine lv_iconst (v := (nI (2))) hx hb dX8_wayAt_36 (by decide) ?_
    refine q_irem (x := w) (y := 2) hx hb (by omega) (by omega) (by omega) dX8_wayAt_37 ?_
    refine q_if_ne (x := w % 2) (tgt := 46) hx hb dX8_wayAt_38 (by decide) (by omega) (fun c38_3 => ?_) (fun c38_3 => ?_)
    · refine lv_iload_n hx hb dX8_wayAt_46 rfl (lv_at hl 3 rfl) ?_
      refine q_iastN hx hb hK hP hD hS 3 0 rfl rfl (j := k) (x := x) (by omega) (by omega) dX8_wayAt_47 (fun H locs hP hD hS => ?_)
      have hP : va_P (dC, dI) qCl [(x0, .inr (8, mO ax z1 z2 z3 fc z5 z6 z7 qs z9 z10 z11 z12 z13 hd lg fcn z17 z18 z19 md z21 z22 z23 z24 hc z26 z27 z28 z29 z30 z31 sm z33 z34)), (z21, .inl (cI, 4, .inl (nF (va_up pp k (f_wayn w))))), (z22, .inl (cI, 4, .inl (nF (va_up pa k (f_way1 w x y))))), (z23, .inl (cI, 4, .inl (nF (va_up pb k x))))] H := hP
      have hD : va_D A [(x0, .inr (8, mO ax z1 z2 z3 fc z5 z6 z7 qs z9 z10 z11 z12 z13 hd lg fcn z17 z18 z19 md z21 z22 z23 z24 hc z26 z27 z28 z29 z30 z31 sm z33 z34)), (z21, .inl (cI, 4, .inl (nF (va_up pp k (f_wayn w))))), (z22, .inl (cI, 4, .inl (nF (va_up pa k (f_way1 w x y))))), (z23, .inl (cI, 4, .inl (nF (va_up pb k x))))] := hD
      have ea4 : (va_up pb k x) = va_up pb k (f_way2 w x y) := by (first | (exfalso; omega; done) | (rw [f_way2, if_pos (by omega)]) | (rw [f_way2, if_neg (by omega)]))
      rw [ea4] at hP hD
      have hP : va_P (dC, dI) qCl [(x0, .inr (8, mO ax z1 z2 z3 fc z5 z6 z7 qs z9 z10 z11 z12 z13 hd lg fcn z17 z18 z19 md z21 z22 z23 z24 hc z26 z27 z28 z29 z30 z31 sm z33 z34)), (z21, .inl (cI, 4, .inl (nF (va_up pp k (f_wayn w))))), (z22, .inl (cI, 4, .inl (nF (va_up pa k (f_way1 w x y))))), (z23, .inl (cI, 4, .inl (nF (va_up pb k (f_way2 w x y)))))] H := hP
      have hD : va_D A [(x0, .inr (8, mO ax z1 z2 z3 fc z5 z6 z7 qs z9 z10 z11 z12 z13 hd lg fcn z17 z18 z19 md z21 z22 z23 z24 hc z26 z27 z28 z29 z30 z31 sm z33 z34)), (z21, .inl (cI, 4, .inl (nF (va_up pp k (f_wayn w))))), (z22, .inl (cI, 4, .inl (nF (va_up pa k (f_way1 w x y))))), (z23, .inl (cI, 4, .inl (nF (va_up pb k (f_way2 w x y)))))] := hD
      subst hQ
      subst hAe
      have hP9 := hP.sub (ws' := [(x0, .inr (8, mO ax z1 z2 z3 fc z5 z6 z7 qs z9 z10 z11 z12 z13 hd lg fcn z17 z18 z19 md z21 z22 z23 z24 hc z26 z27 z28 z29 z30 z31 sm z33 z34)), (z21, .inl (cI, 4, .inl (nF (va_up pp k (f_wayn w))))), (z22, .inl (cI, 4, .inl (nF (va_up pa k (f_way1 w x y))))), (z23, .inl (cI, 4, .inl (nF (va_up pb k (f_way2 w x y)))))]) [0, 1, 2, 3] rfl
      exact W.vret hx hb hr (fun t9 h9 _ => ⟨⟨(), rfl, trivial, by show va_P _ _ _ t9.heap; rw [h9]; exact hP9⟩, hS.F h9⟩) hS.2.2 dX8_wayAt_48
    · refine lv_iload hx hb dX8_wayAt_41 (lv_at hl 4 rfl) ?_
      refine lv_goto (tgt := 47) hx hb dX8_wayAt_43 (by decide) ?_
      refine q_iastN hx hb hK hP hD hS 3 0 rfl rfl (j := k) (x := y) (by omega) (by omega) dX8_wayAt_47 (fun H locs hP hD hS => ?_)
      have hP : va_P (dC, dI) qCl [(x0, .inr (8, mO ax z1 z2 z3 fc z5 z6 z7 qs z9 z10 z11 z12 z13 hd lg fcn z17 z18 z19 md z21 z22 z23 z24 hc z26 z27 z28 z29 z30 z31 sm z33 z34)), (z21, .inl (cI, 4, .inl (nF (va_up pp k (f_wayn w))))), (z22, .inl (cI, 4, .inl (nF (va_up pa k (f_way1 w x y))))), (z23, .inl (cI, 4, .inl (nF (va_up pb k y))))] H := hP
      have hD : va_D A [(x0, .inr (8, mO ax z1 z2 z3 fc z5 z6 z7 qs z9 z10 z11 z12 z13 hd lg fcn z17 z18 z19 md z21 z22 z23 z24 hc z26 z27 z28 z29 z30 z31 sm z33 z34)), (z21, .inl (cI, 4, .inl (nF (va_up pp k (f_wayn w))))), (z22, .inl (cI, 4, .inl (nF (va_up pa k (f_way1 w x y))))), (z23, .inl (cI, 4, .inl (nF (va_up pb k y))))] := hD
      have ea5 : (va_up pb k y) = va_up pb k (f_way2 w x y) := by (first | (exfalso; omega; done) | (rw [f_way2, if_pos (by omega)]) | (rw [f_way2, if_neg (by omega)]))
      rw [ea5] at hP hD
      have hP : va_P (dC, dI) qCl [(x0, .inr (8, mO ax z1 z2 z3 fc z5 z6 z7 qs z9 z10 z11 z12 z13 hd lg fcn z17 z18 z19 md z21 z22 z23 z24 hc z26 z27 z28 z29 z30 z31 sm z33 z34)), (z21, .inl (cI, 4, .inl (nF (va_up pp k (f_wayn w))))), (z22, .inl (cI, 4, .inl (nF (va_up pa k (f_way1 w x y))))), (z23, .inl (cI, 4, .inl (nF (va_up pb k (f_way2 w x y)))))] H := hP
      have hD : va_D A [(x0, .inr (8, mO ax z1 z2 z3 fc z5 z6 z7 qs z9 z10 z11 z12 z13 hd lg fcn z17 z18 z19 md z21 z22 z23 z24 hc z26 z27 z28 z29 z30 z31 sm z33 z34)), (z21, .inl (cI, 4, .inl (nF (va_up pp k (f_wayn w))))), (z22, .inl (cI, 4, .inl (nF (va_up pa k (f_way1 w x y))))), (z23, .inl (cI, 4, .inl (nF (va_up pb k (f_way2 w x y)))))] := hD
      subst hQ
      subst hAe
      have hP9 := hP.sub (ws' := [(x0, .inr (8, mO ax z1 z2 z3 fc z5 z6 z7 qs z9 z10 z11 z12 z13 hd lg fcn z17 z18 z19 md z21 z22 z23 z24 hc z26 z27 z28 z29 z30 z31 sm z33 z34)), (z21, .inl (cI, 4, .inl (nF (va_up pp k (f_wayn w))))), (z22, .inl (cI, 4, .inl (nF (va_up pa k (f_way1 w x y))))), (z23, .inl (cI, 4, .inl (nF (va_up pb k (f_way2 w x y)))))]) [0, 1, 2, 3] rfl
      exact W.vret hx hb hr (fun t9 h9 _ => ⟨⟨(), rfl, trivial, by show va_P _ _ _ t9.heap; rw [h9]; exact hP9⟩, hS.F h9⟩) hS.2.2 dX8_wayAt_48
  · refine lv_iload_n hx hb dX8_wayAt_23 rfl (lv_at hl 3 rfl) ?_
    refine lv_goto (tgt := 29) hx hb dX8_wayAt_24 (by decide) ?_
    refine q_iastN hx hb hK hP hD hS 2 0 rfl rfl (j := k) (x := x) (by omega) (by omega) dX8_wayAt_29 (fun H locs hP hD hS => ?_)
    have hP : va_P (dC, dI) qCl [(x0, .inr (8, mO ax z1 z2 z3 fc z5 z6 z7 qs z9 z10 z11 z12 z13 hd lg fcn z17 z18 z19 md z21 z22 z23 z24 hc z26 z27 z28 z29 z30 z31 sm z33 z34)), (z21, .inl (cI, 4, .inl (nF (va_up pp k (f_wayn w))))), (z22, .inl (cI, 4, .inl (nF (va_up pa k x)))), (z23, .inl (cI, 4, .inl (nF pb)))] H := hP
    have hD : va_D A [(x0, .inr (8, mO ax z1 z2 z3 fc z5 z6 z7 qs z9 z10 z11 z12 z13 hd lg fcn z17 z18 z19 md z21 z22 z23 z24 hc z26 z27 z28 z29 z30 z31 sm z33 z34)), (z21, .inl (cI, 4, .inl (nF (va_up pp k (f_wayn w))))), (z22, .inl (cI, 4, .inl (nF (va_up pa k x)))), (z23, .inl (cI, 4, .inl (nF pb)))] := hD
    have ea6 : (va_up pa k x) = va_up pa k (f_way1 w x y) := by (first | (exfalso; omega; done) | (rw [f_way1, if_pos (by omega)]) | (rw [f_way1, if_neg (by omega)]))
    rw [ea6] at hP hD
    have hP : va_P (dC, dI) qCl [(x0, .inr (8, mO ax z1 z2 z3 fc z5 z6 z7 qs z9 z10 z11 z12 z13 hd lg fcn z17 z18 z19 md z21 z22 z23 z24 hc z26 z27 z28 z29 z30 z31 sm z33 z34)), (z21, .inl (cI, 4, .inl (nF (va_up pp k (f_wayn w))))), (z22, .inl (cI, 4, .inl (nF (va_up pa k (f_way1 w x y))))), (z23, .inl (cI, 4, .inl (nF pb)))] H := hP
    have hD : va_D A [(x0, .inr (8, mO ax z1 z2 z3 fc z5 z6 z7 qs z9 z10 z11 z12 z13 hd lg fcn z17 z18 z19 md z21 z22 z23 z24 hc z26 z27 z28 z29 z30 z31 sm z33 z34)), (z21, .inl (cI, 4, .inl (nF (va_up pp k (f_wayn w))))), (z22, .inl (cI, 4, .inl (nF (va_up pa k (f_way1 w x y))))), (z23, .inl (cI, 4, .inl (nF pb)))] := hD
    refine lv_aload_n hx hb dX8_wayAt_30 rfl (lv_at hl 0 rfl) ?_
    refine va_get (D := (dC, dI)) (ci := 8) (v := .ref z23) (C := RX8) (T := TX8) (N := 35) hx hb hts uX8 hown hK hP 0 rfl rfl 23 (by decide) (hts _ kfX8_62) (fun _ h9 => h9) rfl dX8_wayAt_31 ?_
    refine lv_iload_n hx hb dX8_wayAt_34 rfl (lv_at hl 1 rfl) ?_
    refine lv_iload_n hx hb dX8_wayAt_35 rfl (lv_at hl 2 rfl) ?_
    refine lv_iconst (v := (nI (2))) hx hb dX8_wayAt_36 (by decide) ?_
    refine q_irem (x := w) (y := 2) hx hb (by omega) (by omega) (by omega) dX8_wayAt_37 ?_
    refine q_if_ne (x := w % 2) (tgt := 46) hx hb dX8_wayAt_38 (by decide) (by omega) (fun c38_7 => ?_) (fun c38_7 => ?_)
    · refine lv_iload_n hx hb dX8_wayAt_46 rfl (lv_at hl 3 rfl) ?_
      refine q_iastN hx hb hK hP hD hS 3 0 rfl rfl (j := k) (x := x) (by omega) (by omega) dX8_wayAt_47 (fun H locs hP hD hS => ?_)
      have hP : va_P (dC, dI) qCl [(x0, .inr (8, mO ax z1 z2 z3 fc z5 z6 z7 qs z9 z10 z11 z12 z13 hd lg fcn z17 z18 z19 md z21 z22 z23 z24 hc z26 z27 z28 z29 z30 z31 sm z33 z34)), (z21, .inl (cI, 4, .inl (nF (va_up pp k (f_wayn w))))), (z22, .inl (cI, 4, .inl (nF (va_up pa k (f_way1 w x y))))), (z23, .inl (cI, 4, .inl (nF (va_up pb k x))))] H := hP
      have hD : va_D A [(x0, .inr (8, mO ax z1 z2 z3 fc z5 z6 z7 qs z9 z10 z11 z12 z13 hd lg fcn z17 z18 z19 md z21 z22 z23 z24 hc z26 z27 z28 z29 z30 z31 sm z33 z34)), (z21, .inl (cI, 4, .inl (nF (va_up pp k (f_wayn w))))), (z22, .inl (cI, 4, .inl (nF (va_up pa k (f_way1 w x y))))), (z23, .inl (cI, 4, .inl (nF (va_up pb k x))))] := hD
      have ea8 : (va_up pb k x) = va_up pb k (f_way2 w x y) := by (first | (exfalso; omega; done) | (rw [f_way2, if_pos (by omega)]) | (rw [f_way2, if_neg (by omega)]))
      rw [ea8] at hP hD
      have hP : va_P (dC, dI) qCl [(x0, .inr (8, mO ax z1 z2 z3 fc z5 z6 z7 qs z9 z10 z11 z12 z13 hd lg fcn z17 z18 z19 md z21 z22 z23 z24 hc z26 z27 z28 z29 z30 z31 sm z33 z34)), (z21, .inl (cI, 4, .inl (nF (va_up pp k (f_wayn w))))), (z22, .inl (cI, 4, .inl (nF (va_up pa k (f_way1 w x y))))), (z23, .inl (cI, 4, .inl (nF (va_up pb k (f_way2 w x y)))))] H := hP
      have hD : va_D A [(x0, .inr (8, mO ax z1 z2 z3 fc z5 z6 z7 qs z9 z10 z11 z12 z13 hd lg fcn z17 z18 z19 md z21 z22 z23 z24 hc z26 z27 z28 z29 z30 z31 sm z33 z34)), (z21, .inl (cI, 4, .inl (nF (va_up pp k (f_wayn w))))), (z22, .inl (cI, 4, .inl (nF (va_up pa k (f_way1 w x y))))), (z23, .inl (cI, 4, .inl (nF (va_up pb k (f_way2 w x y)))))] := hD
      subst hQ
      subst hAe
      have hP9 := hP.sub (ws' := [(x0, .inr (8, mO ax z1 z2 z3 fc z5 z6 z7 qs z9 z10 z11 z12 z13 hd lg fcn z17 z18 z19 md z21 z22 z23 z24 hc z26 z27 z28 z29 z30 z31 sm z33 z34)), (z21, .inl (cI, 4, .inl (nF (va_up pp k (f_wayn w))))), (z22, .inl (cI, 4, .inl (nF (va_up pa k (f_way1 w x y))))), (z23, .inl (cI, 4, .inl (nF (va_up pb k (f_way2 w x y)))))]) [0, 1, 2, 3] rfl
      exact W.vret hx hb hr (fun t9 h9 _ => ⟨⟨(), rfl, trivial, by show va_P _ _ _ t9.heap; rw [h9]; exact hP9⟩, hS.F h9⟩) hS.2.2 dX8_wayAt_48
    · refine lv_iload hx hb dX8_wayAt_41 (lv_at hl 4 rfl) ?_
      refine lv_goto (tgt := 47) hx hb dX8_wayAt_43 (by decide) ?_
      refine q_iastN hx hb hK hP hD hS 3 0 rfl rfl (j := k) (x := y) (by omega) (by omega) dX8_wayAt_47 (fun H locs hP hD hS => ?_)
      have hP : va_P (dC, dI) qCl [(x0, .inr (8, mO ax z1 z2 z3 fc z5 z6 z7 qs z9 z10 z11 z12 z13 hd lg fcn z17 z18 z19 md z21 z22 z23 z24 hc z26 z27 z28 z29 z30 z31 sm z33 z34)), (z21, .inl (cI, 4, .inl (nF (va_up pp k (f_wayn w))))), (z22, .inl (cI, 4, .inl (nF (va_up pa k (f_way1 w x y))))), (z23, .inl (cI, 4, .inl (nF (va_up pb k y))))] H := hP
      have hD : va_D A [(x0, .inr (8, mO ax z1 z2 z3 fc z5 z6 z7 qs z9 z10 z11 z12 z13 hd lg fcn z17 z18 z19 md z21 z22 z23 z24 hc z26 z27 z28 z29 z30 z31 sm z33 z34)), (z21, .inl (cI, 4, .inl (nF (va_up pp k (f_wayn w))))), (z22, .inl (cI, 4, .inl (nF (va_up pa k (f_way1 w x y))))), (z23, .inl (cI, 4, .inl (nF (va_up pb k y))))] := hD
      have ea9 : (va_up pb k y) = va_up pb k (f_way2 w x y) := by (first | (exfalso; omega; done) | (rw [f_way2, if_pos (by omega)]) | (rw [f_way2, if_neg (by omega)]))
      rw [ea9] at hP hD
      have hP : va_P (dC, dI) qCl [(x0, .inr (8, mO ax z1 z2 z3 fc z5 z6 z7 qs z9 z10 z11 z12 z13 hd lg fcn z17 z18 z19 md z21 z22 z23 z24 hc z26 z27 z28 z29 z30 z31 sm z33 z34)), (z21, .inl (cI, 4, .inl (nF (va_up pp k (f_wayn w))))), (z22, .inl (cI, 4, .inl (nF (va_up pa k (f_way1 w x y))))), (z23, .inl (cI, 4, .inl (nF (va_up pb k (f_way2 w x y)))))] H := hP
      have hD : va_D A [(x0, .inr (8, mO ax z1 z2 z3 fc z5 z6 z7 qs z9 z10 z11 z12 z13 hd lg fcn z17 z18 z19 md z21 z22 z23 z24 hc z26 z27 z28 z29 z30 z31 sm z33 z34)), (z21, .inl (cI, 4, .inl (nF (va_up pp k (f_wayn w))))), (z22, .inl (cI, 4, .inl (nF (va_up pa k (f_way1 w x y))))), (z23, .inl (cI, 4, .inl (nF (va_up pb k (f_way2 w x y)))))] := hD
      subst hQ
      subst hAe
      have hP9 := hP.sub (ws' := [(x0, .inr (8, mO ax z1 z2 z3 fc z5 z6 z7 qs z9 z10 z11 z12 z13 hd lg fcn z17 z18 z19 md z21 z22 z23 z24 hc z26 z27 z28 z29 z30 z31 sm z33 z34)), (z21, .inl (cI, 4, .inl (nF (va_up pp k (f_wayn w))))), (z22, .inl (cI, 4, .inl (nF (va_up pa k (f_way1 w x y))))), (z23, .inl (cI, 4, .inl (nF (va_up pb k (f_way2 w x y)))))]) [0, 1, 2, 3] rfl
      exact W.vret hx hb hr (fun t9 h9 _ => ⟨⟨(), rfl, trivial, by show va_P _ _ _ t9.heap; rw [h9]; exact hP9⟩, hS.F h9⟩) hS.2.2 dX8_wayAt_48
abbrev rm_c_Model_join : Room := { frames := 0, cells := 0, slots := 0, locals := 0 }
set_option maxHeartbeats 4000000 in
set_option maxRecDepth 100000 in
theorem c_Model_join (l : Launch) (dC : Nat → ClassId) (dI : Nat → Nat → Nat) (cI cL cQ cZ : ClassId) (x0 : Nat) (ax : Nat) (z1 : Nat) (z2 : Nat) (z3 : Nat) (fc : Nat) (z5 : Nat) (z6 : Nat) (z7 : Nat) (qs : Nat) (z9 : Nat) (z10 : Nat) (z11 : Nat) (z12 : Nat) (z13 : Nat) (hd : Option Nat) (lg : Bool) (fcn : Nat) (z17 : Nat) (z18 : Nat) (z19 : Nat) (md : Nat) (z21 : Nat) (z22 : Nat) (z23 : Nat) (z24 : Nat) (hc : Nat) (z26 : Nat) (z27 : Nat) (z28 : Nat) (z29 : Nat) (z30 : Nat) (z31 : Nat) (sm : Bool) (z33 : Nat) (z34 : Nat) (pp : Nat → Nat) (pa : Nat → Nat) (pb : Nat → Nat) (he : Nat → Option Nat) (x : Nat) (y : Nat) (hmd : md ≤ 4) (hpp : ∀ j, pp j < 64) (hpa : ∀ j, pa j < 18) (hpb : ∀ j, pb j < 18) (hhc : hc ≤ 2) (hhe : m_hok he hc) (hx9 : x < 18) (hy9 : y < 18) : Met l yX8_join wkX8_join rm_c_Model_join (q_W (dC, dI) qCl (qT cI cL cQ cZ) [(x0, .inr (8, mO ax z1 z2 z3 fc z5 z6 z7 qs z9 z10 z11 z12 z13 hd lg fcn z17 z18 z19 md z21 z22 z23 z24 hc z26 z27 z28 z29 z30 z31 sm z33 z34)), (z21, .inl (cI, 4, .inl (nF pp))), (z22, .inl (cI, 4, .inl (nF pa))), (z23, .inl (cI, 4, .inl (nF pb))), (z24, .inl (cI, 2, .inl (oF he)))] [.ref x0, .int (nI (x)), .int (nI (y))]) (va_Qi (fun (r : Int32) (u : Nat × (Nat → Nat) × (Nat → Nat) × (Nat → Option Nat)) => (r = (nI (u.1))) ∧ (m_jn pp pa pb he md hc x y u.1 u.2.1 u.2.2.1 u.2.2.2)) (fun (u : Nat × (Nat → Nat) × (Nat → Nat) × (Nat → Option Nat)) t => va_P (dC, dI) qCl [(x0, .inr (8, mO ax z1 z2 z3 fc z5 z6 z7 qs z9 z10 z11 z12 z13 hd lg fcn z17 z18 z19 md z21 z22 z23 z24 hc z26 z27 z28 z29 z30 z31 sm z33 z34)), (z21, .inl (cI, 4, .inl (nF pp))), (z22, .inl (cI, 4, .inl (nF u.2.1))), (z23, .inl (cI, 4, .inl (nF u.2.2.1))), (z24, .inl (cI, 2, .inl (oF u.2.2.2)))] t.heap) (q_A [(x0, .inr (8, mO ax z1 z2 z3 fc z5 z6 z7 qs z9 z10 z11 z12 z13 hd lg fcn z17 z18 z19 md z21 z22 z23 z24 hc z26 z27 z28 z29 z30 z31 sm z33 z34)), (z21, .inl (cI, 4, .inl (nF pp))), (z22, .inl (cI, 4, .inl (nF pa))), (z23, .inl (cI, 4, .inl (nF pb))), (z24, .inl (cI, 2, .inl (oF he)))])) 0 0 (q_A [(x0, .inr (8, mO ax z1 z2 z3 fc z5 z6 z7 qs z9 z10 z11 z12 z13 hd lg fcn z17 z18 z19 md z21 z22 z23 z24 hc z26 z27 z28 z29 z30 z31 sm z33 z34)), (z21, .inl (cI, 4, .inl (nF pp))), (z22, .inl (cI, 4, .inl (nF pa))), (z23, .inl (cI, 4, .inl (nF pb))), (z24, .inl (cI, 2, .inl (oF he)))]) := by
  refine Met.ofW (cc := cX8_join) (maxL := 6) (ret := (some .int)) (by decide) rfl ?_
  intro p e s m args below meth c s₁ B hml hv
  obtain ⟨hargs, hP, hK, hD0⟩ := hv
  have hx := B.exec
  have hb := B.bytes
  have hr := B.returns
  have hts : ∀ w ∈ qW, w.before args s = true := fun w h => atoms_spec (ws := wkX8_join) B.pre w (List.mem_cons_of_mem _ h)
  have hown : s.vm.findClass RX8 = some m.cls := findClass_of_methodNamed B.named
  have hlocks := B.notSynchronized
  refine q_named (fun Q hQ => ?_)
  have hD : va_D (q_A [(x0, .inr (8, mO ax z1 z2 z3 fc z5 z6 z7 qs z9 z10 z11 z12 z13 hd lg fcn z17 z18 z19 md z21 z22 z23 z24 hc z26 z27 z28 z29 z30 z31 sm z33 z34)), (z21, .inl (cI, 4, .inl (nF pp))), (z22, .inl (cI, 4, .inl (nF pa))), (z23, .inl (cI, 4, .inl (nF pb))), (z24, .inl (cI, 2, .inl (oF he)))]) [(x0, .inr (8, mO ax z1 z2 z3 fc z5 z6 z7 qs z9 z10 z11 z12 z13 hd lg fcn z17 z18 z19 md z21 z22 z23 z24 hc z26 z27 z28 z29 z30 z31 sm z33 z34)), (z21, .inl (cI, 4, .inl (nF pp))), (z22, .inl (cI, 4, .inl (nF pa))), (z23, .inl (cI, 4, .inl (nF pb))), (z24, .inl (cI, 2, .inl (oF he)))] := ⟨hD0.1, fun k q h => ⟨k, q.2, h⟩⟩
  generalize hAe : q_A [(x0, .inr (8, mO ax z1 z2 z3 fc z5 z6 z7 qs z9 z10 z11 z12 z13 hd lg fcn z17 z18 z19 md z21 z22 z23 z24 hc z26 z27 z28 z29 z30 z31 sm z33 z34)), (z21, .inl (cI, 4, .inl (nF pp))), (z22, .inl (cI, 4, .inl (nF pa))), (z23, .inl (cI, 4, .inl (nF pb))), (z24, .inl (cI, 2, .inl (oF he)))] = A at hD
  have hS : va_S A s.heap s.heap [] := va_S.rf
  refine q_entry hargs (Nat.le_of_ble_eq_true rfl) (fun ls hl => ?_)
  have hl : lv_has ls 6 [(0, .ref x0), (1, .int (nI (x))), (2, .int (nI (y)))] := hl
  obtain ⟨H, locs, eH, eL⟩ : ∃ (H : Heap) (locs : List Loc), s.heap = H ∧ ([] : List Loc) = locs := ⟨_, _, rfl, rfl⟩
  have hS : va_S A s.heap H locs := by rw [← eH, ← eL]; exact hS
  have hP : va_P (dC, dI) qCl [(x0, .inr (8, mO ax z1 z2 z3 fc z5 z6 z7 qs z9 z10 z11 z12 z13 hd lg fcn z17 z18 z19 md z21 z22 z23 z24 hc z26 z27 z28 z29 z30 z31 sm z33 z34)), (z21, .inl (cI, 4, .inl (nF pp))), (z22, .inl (cI, 4, .inl (nF pa))), (z23, .inl (cI, 4, .inl (nF pb))), (z24, .inl (cI, 2, .inl (oF he)))] H := by rw [← eH]; exact hP
  refine W_at eH eL ?_
  refine lv_iload_n hx hb dX8_join_0 rfl (lv_at hl 1 rfl) ?_
  refine lv_bipush (v := (nI (6))) hx hb dX8_join_1 (by decide) ?_
  refine q_icmp_eq (x := x) (y := 6) (tgt := 17) hx hb dX8_join_3 (by decide) (by omega) (by omega) (fun c3_1 => ?_) (fun c3_1 => ?_)
  · refine lv_iload_n hx hb dX8_join_17 rfl (lv_at hl 1 rfl) ?_
    refine lv_bipush (v := (nI (6))) hx hb dX8_join_18 (by decide) ?_
    refine q_icmp_ne (x := x) (y := 6) (tgt := 27) hx hb dX8_join_20 (by decide) (by omega) (by omega) (fun c20_2 => ?_) (fun c20_2 => ?_)
    · refine lv_iload_n hx hb dX8_join_27 rfl (lv_at hl 1 rfl) ?_
      subst hQ
      subst hAe
      have hP9 := hP.sub (ws' := [(x0, .inr (8, mO ax z1 z2 z3 fc z5 z6 z7 qs z9 z10 z11 z12 z13 hd lg fcn z17 z18 z19 md z21 z22 z23 z24 hc z26 z27 z28 z29 z30 z31 sm z33 z34)), (z21, .inl (cI, 4, .inl (nF pp))), (z22, .inl (cI, 4, .inl (nF pa))), (z23, .inl (cI, 4, .inl (nF pb))), (z24, .inl (cI, 2, .inl (oF he)))]) [0, 1, 2, 3, 4] rfl
      exact W.iret (v := (nI (x))) hx hb hr (fun t9 h9 _ => ⟨⟨(nI (x)), (x, pa, pb, he), rfl, ⟨rfl, (show m_jn pp pa pb he md hc x y x pa pb he from by (rw [m_jn, if_pos (by omega)]; first | (rw [if_pos (by omega)]; exact ⟨rfl, rfl, rfl, rfl⟩) | (rw [if_neg (by omega)]; exact ⟨rfl, rfl, rfl, rfl⟩)))⟩, by show va_P _ _ _ t9.heap; rw [h9]; exact hP9⟩, hS.F h9⟩) hS.2.2 dX8_join_28
    · refine lv_iload_n hx hb dX8_join_23 rfl (lv_at hl 2 rfl) ?_
      refine lv_goto (tgt := 28) hx hb dX8_join_24 (by decide) ?_
      subst hQ
      subst hAe
      have hP9 := hP.sub (ws' := [(x0, .inr (8, mO ax z1 z2 z3 fc z5 z6 z7 qs z9 z10 z11 z12 z13 hd lg fcn z17 z18 z19 md z21 z22 z23 z24 hc z26 z27 z28 z29 z30 z31 sm z33 z34)), (z21, .inl (cI, 4, .inl (nF pp))), (z22, .inl (cI, 4, .inl (nF pa))), (z23, .inl (cI, 4, .inl (nF pb))), (z24, .inl (cI, 2, .inl (oF he)))]) [0, 1, 2, 3, 4] rfl
      exact W.iret (v := (nI (y))) hx hb hr (fun t9 h9 _ => ⟨⟨(nI (y)), (y, pa, pb, he), rfl, ⟨rfl, (show m_jn pp pa pb he md hc x y y pa pb he from by (rw [m_jn, if_pos (by omega)]; first | (rw [if_pos (by omega)]; exact ⟨rfl, rfl, rfl, rfl⟩) | (rw [if_neg (by omega)]; exact ⟨rfl, rfl, rfl, rfl⟩)))⟩, by show va_P _ _ _ t9.heap; rw [h9]; exact hP9⟩, hS.F h9⟩) hS.2.2 dX8_join_28
  · refine lv_iload_n hx hb dX8_join_6 rfl (lv_at hl 2 rfl) ?_
    refine lv_bipush (v := (nI (6))) hx hb dX8_join_7 (by decide) ?_
    refine q_icmp_eq (x := y) (y := 6) (tgt := 17) hx hb dX8_join_9 (by decide) (by omega) (by omega) (fun c9_3 => ?_) (fun c9_3 => ?_)
    · refine lv_iload_n hx hb dX8_join_17 rfl (lv_at hl 1 rfl) ?_
      refine lv_bipush (v := (nI (6))) hx hb dX8_join_18 (by decide) ?_
      refine q_icmp_ne (x := x) (y := 6) (tgt := 27) hx hb dX8_join_20 (by decide) (by omega) (by omega) (fun c20_4 => ?_) (fun c20_4 => ?_)
      · refine lv_iload_n hx hb dX8_join_27 rfl (lv_at hl 1 rfl) ?_
        subst hQ
        subst hAe
        have hP9 := hP.sub (ws' := [(x0, .inr (8, mO ax z1 z2 z3 fc z5 z6 z7 qs z9 z10 z11 z12 z13 hd lg fcn z17 z18 z19 md z21 z22 z23 z24 hc z26 z27 z28 z29 z30 z31 sm z33 z34)), (z21, .inl (cI, 4, .inl (nF pp))), (z22, .inl (cI, 4, .inl (nF pa))), (z23, .inl (cI, 4, .inl (nF pb))), (z24, .inl (cI, 2, .inl (oF he)))]) [0, 1, 2, 3, 4] rfl
        exact W.iret (v := (nI (x))) hx hb hr (fun t9 h9 _ => ⟨⟨(nI (x)), (x, pa, pb, he), rfl, ⟨rfl, (show m_jn pp pa pb he md hc x y x pa pb he from by (rw [m_jn, if_pos (by omega)]; first | (rw [if_pos (by omega)]; exact ⟨rfl, rfl, rfl, rfl⟩) | (rw [if_neg (by omega)]; exact ⟨rfl, rfl, rfl, rfl⟩)))⟩, by show va_P _ _ _ t9.heap; rw [h9]; exact hP9⟩, hS.F h9⟩) hS.2.2 dX8_join_28
      · refine lv_iload_n hx hb dX8_join_23 rfl (lv_at hl 2 rfl) ?_
        refine lv_goto (tgt := 28) hx hb dX8_join_24 (by decide) ?_
        subst hQ
        subst hAe
        have hP9 := hP.sub (ws' := [(x0, .inr (8, mO ax z1 z2 z3 fc z5 z6 z7 qs z9 z10 z11 z12 z13 hd lg fcn z17 z18 z19 md z21 z22 z23 z24 hc z26 z27 z28 z29 z30 z31 sm z33 z34)), (z21, .inl (cI, 4, .inl (nF pp))), (z22, .inl (cI, 4, .inl (nF pa))), (z23, .inl (cI, 4, .inl (nF pb))), (z24, .inl (cI, 2, .inl (oF he)))]) [0, 1, 2, 3, 4] rfl
        exact W.iret (v := (nI (y))) hx hb hr (fun t9 h9 _ => ⟨⟨(nI (y)), (y, pa, pb, he), rfl, ⟨rfl, (show m_jn pp pa pb he md hc x y y pa pb he from by (rw [m_jn, if_pos (by omega)]; first | (rw [if_pos (by omega)]; exact ⟨rfl, rfl, rfl, rfl⟩) | (rw [if_neg (by omega)]; exact ⟨rfl, rfl, rfl, rfl⟩)))⟩, by show va_P _ _ _ t9.heap; rw [h9]; exact hP9⟩, hS.F h9⟩) hS.2.2 dX8_join_28
    · refine lv_iload_n hx hb dX8_join_12 rfl (lv_at hl 1 rfl) ?_
      refine lv_iload_n hx hb dX8_join_13 rfl (lv_at hl 2 rfl) ?_
      refine q_icmp_ne (x := x) (y := y) (tgt := 29) hx hb dX8_join_14 (by decide) (by omega) (by omega) (fun c14_5 => ?_) (fun c14_5 => ?_)
      · have L52 : ∀ (lo : Nat) (hi : Nat) (ls : Array Slot) (H : Heap) (locs : List Loc), (lo = min x y) → (hi = max x y) → (¬ (x = 6 ∨ y = 6 ∨ x = y)) → lv_has ls 6 [(0, .ref x0), (1, .int (nI (x))), (2, .int (nI (y))), (3, .int (nI (lo))), (4, .int (nI (hi)))] → va_P (dC, dI) qCl [(x0, .inr (8, mO ax z1 z2 z3 fc z5 z6 z7 qs z9 z10 z11 z12 z13 hd lg fcn z17 z18 z19 md z21 z22 z23 z24 hc z26 z27 z28 z29 z30 z31 sm z33 z34)), (z21, .inl (cI, 4, .inl (nF pp))), (z22, .inl (cI, 4, .inl (nF pa))), (z23, .inl (cI, 4, .inl (nF pb))), (z24, .inl (cI, 2, .inl (oF he)))] H → va_D A [(x0, .inr (8, mO ax z1 z2 z3 fc z5 z6 z7 qs z9 z10 z11 z12 z13 hd lg fcn z17 z18 z19 md z21 z22 z23 z24 hc z26 z27 z28 z29 z30 z31 sm z33 z34)), (z21, .inl (cI, 4, .inl (nF pp))), (z22, .inl (cI, 4, .inl (nF pa))), (z23, .inl (cI, 4, .inl (nF pb))), (z24, .inl (cI, 2, .inl (oF he)))] → va_S A s.heap H locs → W p l e (headSpec wkX8_join rm_c_Model_join).room s m args below meth c H locs 0 0 Q (F0 m 52 ls []) := by
          intro lo hi ls H locs hlo hhi hne hl hP hD hS
          refine lv_iconst (v := (nI (0))) hx hb dX8_join_52 (by decide) ?_
          refine lv_istore (lv' := [(5, .int (nI (0))), (0, .ref x0), (1, .int (nI (x))), (2, .int (nI (y))), (3, .int (nI (lo))), (4, .int (nI (hi)))]) hx hb dX8_join_53 hl (by decide) rfl (fun ls hl => ?_)
          have L55 : ∀ (fu : Nat) (g2 : Nat → Nat) (g3 : Nat → Nat) (i : Nat) (ls : Array Slot) (H : Heap) (locs : List Loc), md - i < fu → (i ≤ md) → (g2 = f_ren pa i hi lo) → (g3 = m_rnb pp pb i hi lo) → lv_has ls 6 [(5, .int (nI (i))), (0, .ref x0), (1, .int (nI (x))), (2, .int (nI (y))), (3, .int (nI (lo))), (4, .int (nI (hi)))] → va_P (dC, dI) qCl [(x0, .inr (8, mO ax z1 z2 z3 fc z5 z6 z7 qs z9 z10 z11 z12 z13 hd lg fcn z17 z18 z19 md z21 z22 z23 z24 hc z26 z27 z28 z29 z30 z31 sm z33 z34)), (z21, .inl (cI, 4, .inl (nF pp))), (z22, .inl (cI, 4, .inl (nF g2))), (z23, .inl (cI, 4, .inl (nF g3))), (z24, .inl (cI, 2, .inl (oF he)))] H → va_D A [(x0, .inr (8, mO ax z1 z2 z3 fc z5 z6 z7 qs z9 z10 z11 z12 z13 hd lg fcn z17 z18 z19 md z21 z22 z23 z24 hc z26 z27 z28 z29 z30 z31 sm z33 z34)), (z21, .inl (cI, 4, .inl (nF pp))), (z22, .inl (cI, 4, .inl (nF g2))), (z23, .inl (cI, 4, .inl (nF g3))), (z24, .inl (cI, 2, .inl (oF he)))] → va_S A s.heap H locs → W p l e (headSpec wkX8_join rm_c_Model_join).room s m args below meth c H locs 0 0 Q (F0 m 55 ls []) := by
            intro fu
            induction fu with
            | zero => intro g2 g3 i ls H locs hmu; exact absurd hmu (Nat.not_lt_zero _)
            | succ fu ih55 =>
              intro g2 g3 i ls H locs hmu hi9 h2 h3 hl hP hD hS
              refine lv_iload hx hb dX8_join_55 (lv_at hl 0 rfl) ?_
              refine lv_aload_n hx hb dX8_join_57 rfl (lv_at hl 1 rfl) ?_
              refine va_get (D := (dC, dI)) (ci := 8) (v := .int (nI (md))) (C := RX8) (T := TX8) (N := 35) hx hb hts uX8 hown hK hP 0 rfl rfl 20 (by decide) (hts _ kfX8_121) (fun _ h9 => h9) rfl dX8_join_58 ?_
              refine q_icmp_ge (x := i) (y := md) (tgt := 142) hx hb dX8_join_61 (by decide) (by omega) (by omega) (fun c61_6 => ?_) (fun c61_6 => ?_)
              · have ea7 : (g2) = f_ren pa md hi lo := by (rw [h2, show i = md by omega])
                rw [ea7] at hP hD
                have hP : va_P (dC, dI) qCl [(x0, .inr (8, mO ax z1 z2 z3 fc z5 z6 z7 qs z9 z10 z11 z12 z13 hd lg fcn z17 z18 z19 md z21 z22 z23 z24 hc z26 z27 z28 z29 z30 z31 sm z33 z34)), (z21, .inl (cI, 4, .inl (nF pp))), (z22, .inl (cI, 4, .inl (nF (f_ren pa md hi lo)))), (z23, .inl (cI, 4, .inl (nF g3))), (z24, .inl (cI, 2, .inl (oF he)))] H := hP
                have hD : va_D A [(x0, .inr (8, mO ax z1 z2 z3 fc z5 z6 z7 qs z9 z10 z11 z12 z13 hd lg fcn z17 z18 z19 md z21 z22 z23 z24 hc z26 z27 z28 z29 z30 z31 sm z33 z34)), (z21, .inl (cI, 4, .inl (nF pp))), (z22, .inl (cI, 4, .inl (nF (f_ren pa md hi lo)))), (z23, .inl (cI, 4, .inl (nF g3))), (z24, .inl (cI, 2, .inl (oF he)))] := hD
                have ea8 : (g3) = m_rnb pp pb md hi lo := by (rw [h3, show i = md by omega])
                rw [ea8] at hP hD
                have hP : va_P (dC, dI) qCl [(x0, .inr (8, mO ax z1 z2 z3 fc z5 z6 z7 qs z9 z10 z11 z12 z13 hd lg fcn z17 z18 z19 md z21 z22 z23 z24 hc z26 z27 z28 z29 z30 z31 sm z33 z34)), (z21, .inl (cI, 4, .inl (nF pp))), (z22, .inl (cI, 4, .inl (nF (f_ren pa md hi lo)))), (z23, .inl (cI, 4, .inl (nF (m_rnb pp pb md hi lo)))), (z24, .inl (cI, 2, .inl (oF he)))] H := hP
                have hD : va_D A [(x0, .inr (8, mO ax z1 z2 z3 fc z5 z6 z7 qs z9 z10 z11 z12 z13 hd lg fcn z17 z18 z19 md z21 z22 z23 z24 hc z26 z27 z28 z29 z30 z31 sm z33 z34)), (z21, .inl (cI, 4, .inl (nF pp))), (z22, .inl (cI, 4, .inl (nF (f_ren pa md hi lo)))), (z23, .inl (cI, 4, .inl (nF (m_rnb pp pb md hi lo)))), (z24, .inl (cI, 2, .inl (oF he)))] := hD
                refine lv_iconst (v := (nI (0))) hx hb dX8_join_142 (by decide) ?_
                refine lv_istore (lv' := [(5, .int (nI (0))), (0, .ref x0), (1, .int (nI (x))), (2, .int (nI (y))), (3, .int (nI (lo))), (4, .int (nI (hi)))]) hx hb dX8_join_143 hl (by decide) rfl (fun ls hl => ?_)
                have L145 : ∀ (fu : Nat) (g4 : Nat → Option Nat) (q : Nat) (ls : Array Slot) (H : Heap) (locs : List Loc), hc - q < fu → (q ≤ hc) → (g4 = m_rnh he q hi lo) → lv_has ls 6 [(5, .int (nI (q))), (0, .ref x0), (1, .int (nI (x))), (2, .int (nI (y))), (3, .int (nI (lo))), (4, .int (nI (hi)))] → va_P (dC, dI) qCl [(x0, .inr (8, mO ax z1 z2 z3 fc z5 z6 z7 qs z9 z10 z11 z12 z13 hd lg fcn z17 z18 z19 md z21 z22 z23 z24 hc z26 z27 z28 z29 z30 z31 sm z33 z34)), (z21, .inl (cI, 4, .inl (nF pp))), (z22, .inl (cI, 4, .inl (nF (f_ren pa md hi lo)))), (z23, .inl (cI, 4, .inl (nF (m_rnb pp pb md hi lo)))), (z24, .inl (cI, 2, .inl (oF g4)))] H → va_D A [(x0, .inr (8, mO ax z1 z2 z3 fc z5 z6 z7 qs z9 z10 z11 z12 z13 hd lg fcn z17 z18 z19 md z21 z22 z23 z24 hc z26 z27 z28 z29 z30 z31 sm z33 z34)), (z21, .inl (cI, 4, .inl (nF pp))), (z22, .inl (cI, 4, .inl (nF (f_ren pa md hi lo)))), (z23, .inl (cI, 4, .inl (nF (m_rnb pp pb md hi lo)))), (z24, .inl (cI, 2, .inl (oF g4)))] → va_S A s.heap H locs → W p l e (headSpec wkX8_join rm_c_Model_join).room s m args below meth c H locs 0 0 Q (F0 m 145 ls []) := by
                  intro fu
                  induction fu with
                  | zero => intro g4 q ls H locs hmu; exact absurd hmu (Nat.not_lt_zero _)
                  | succ fu ih145 =>
                    intro g4 q ls H locs hmu hq h4 hl hP hD hS
                    refine lv_iload hx hb dX8_join_145 (lv_at hl 0 rfl) ?_
                    refine lv_aload_n hx hb dX8_join_147 rfl (lv_at hl 1 rfl) ?_
                    refine va_get (D := (dC, dI)) (ci := 8) (v := .int (nI (hc))) (C := RX8) (T := TX8) (N := 35) hx hb hts uX8 hown hK hP 0 rfl rfl 25 (by decide) (hts _ kfX8_118) (fun _ h9 => h9) rfl dX8_join_148 ?_
                    refine q_icmp_ge (x := q) (y := hc) (tgt := 190) hx hb dX8_join_151 (by decide) (by omega) (by omega) (fun c151_9 => ?_) (fun c151_9 => ?_)
                    · have ea10 : (g4) = m_rnh he hc hi lo := by (rw [h4, show q = hc by omega])
                      rw [ea10] at hP hD
                      have hP : va_P (dC, dI) qCl [(x0, .inr (8, mO ax z1 z2 z3 fc z5 z6 z7 qs z9 z10 z11 z12 z13 hd lg fcn z17 z18 z19 md z21 z22 z23 z24 hc z26 z27 z28 z29 z30 z31 sm z33 z34)), (z21, .inl (cI, 4, .inl (nF pp))), (z22, .inl (cI, 4, .inl (nF (f_ren pa md hi lo)))), (z23, .inl (cI, 4, .inl (nF (m_rnb pp pb md hi lo)))), (z24, .inl (cI, 2, .inl (oF (m_rnh he hc hi lo))))] H := hP
                      have hD : va_D A [(x0, .inr (8, mO ax z1 z2 z3 fc z5 z6 z7 qs z9 z10 z11 z12 z13 hd lg fcn z17 z18 z19 md z21 z22 z23 z24 hc z26 z27 z28 z29 z30 z31 sm z33 z34)), (z21, .inl (cI, 4, .inl (nF pp))), (z22, .inl (cI, 4, .inl (nF (f_ren pa md hi lo)))), (z23, .inl (cI, 4, .inl (nF (m_rnb pp pb md hi lo)))), (z24, .inl (cI, 2, .inl (oF (m_rnh he hc hi lo))))] := hD
                      refine lv_iload_n hx hb dX8_join_190 rfl (lv_at hl 4 rfl) ?_
                      subst hQ
                      subst hAe
                      have hP9 := hP.sub (ws' := [(x0, .inr (8, mO ax z1 z2 z3 fc z5 z6 z7 qs z9 z10 z11 z12 z13 hd lg fcn z17 z18 z19 md z21 z22 z23 z24 hc z26 z27 z28 z29 z30 z31 sm z33 z34)), (z21, .inl (cI, 4, .inl (nF pp))), (z22, .inl (cI, 4, .inl (nF (f_ren pa md hi lo)))), (z23, .inl (cI, 4, .inl (nF (m_rnb pp pb md hi lo)))), (z24, .inl (cI, 2, .inl (oF (m_rnh he hc hi lo))))]) [0, 1, 2, 3, 4] rfl
                      exact W.iret (v := (nI (lo))) hx hb hr (fun t9 h9 _ => ⟨⟨(nI (lo)), (lo, f_ren pa md hi lo, m_rnb pp pb md hi lo, m_rnh he hc hi lo), rfl, ⟨rfl, (show m_jn pp pa pb he md hc x y lo (f_ren pa md hi lo) (m_rnb pp pb md hi lo) (m_rnh he hc hi lo) from by (rw [m_jn, if_neg hne, ← hlo, ← hhi]; exact ⟨rfl, rfl, rfl, rfl⟩))⟩, by show va_P _ _ _ t9.heap; rw [h9]; exact hP9⟩, hS.F h9⟩) hS.2.2 dX8_join_191
                    · refine lv_aload_n hx hb dX8_join_154 rfl (lv_at hl 1 rfl) ?_
                      refine va_get (D := (dC, dI)) (ci := 8) (v := .ref z24) (C := RX8) (T := TX8) (N := 35) hx hb hts uX8 hown hK hP 0 rfl rfl 24 (by decide) (hts _ kfX8_65) (fun _ h9 => h9) rfl dX8_join_155 ?_
                      refine lv_iload hx hb dX8_join_158 (lv_at hl 0 rfl) ?_
                      refine lv_aload_n hx hb dX8_join_160 rfl (lv_at hl 1 rfl) ?_
                      refine va_get (D := (dC, dI)) (ci := 8) (v := .ref z24) (C := RX8) (T := TX8) (N := 35) hx hb hts uX8 hown hK hP 0 rfl rfl 24 (by decide) (hts _ kfX8_65) (fun _ h9 => h9) rfl dX8_join_161 ?_
                      refine lv_iload hx hb dX8_join_164 (lv_at hl 0 rfl) ?_
                      refine q_ialdO hx hb hK hP 4 0 rfl rfl (j := q) (by omega) (by omega) dX8_join_166 ?_
                      refine q_top (show (oI (g4 q)) = (nI (m_h he q)) from (congrArg oI (show g4 q = some (m_h he q) by rw [h4, m_rnh_at]; exact (hhe q (by omega)).1))) ?_
                      have bq3 := (hhe q (by omega)).2
                      refine lv_iload hx hb dX8_join_167 (lv_at hl 5 rfl) ?_
                      refine q_icmp_ne (x := m_h he q) (y := hi) (tgt := 176) hx hb dX8_join_169 (by decide) (by omega) (by omega) (fun c169_11 => ?_) (fun c169_11 => ?_)
                      · refine lv_aload_n hx hb dX8_join_176 rfl (lv_at hl 1 rfl) ?_
                        refine va_get (D := (dC, dI)) (ci := 8) (v := .ref z24) (C := RX8) (T := TX8) (N := 35) hx hb hts uX8 hown hK hP 0 rfl rfl 24 (by decide) (hts _ kfX8_65) (fun _ h9 => h9) rfl dX8_join_177 ?_
                        refine lv_iload hx hb dX8_join_180 (lv_at hl 0 rfl) ?_
                        refine q_ialdO hx hb hK hP 4 0 rfl rfl (j := q) (by omega) (by omega) dX8_join_182 ?_
                        refine q_top (show (oI (g4 q)) = (oI (he q)) from (congrArg oI (by rw [h4, m_rnh_at]))) ?_
                        refine q_iastO hx hb hK hP hD hS 4 0 rfl rfl (j := q) (x := he q) (by omega) (by omega) dX8_join_183 (fun H locs hP hD hS => ?_)
                        have hP : va_P (dC, dI) qCl [(x0, .inr (8, mO ax z1 z2 z3 fc z5 z6 z7 qs z9 z10 z11 z12 z13 hd lg fcn z17 z18 z19 md z21 z22 z23 z24 hc z26 z27 z28 z29 z30 z31 sm z33 z34)), (z21, .inl (cI, 4, .inl (nF pp))), (z22, .inl (cI, 4, .inl (nF (f_ren pa md hi lo)))), (z23, .inl (cI, 4, .inl (nF (m_rnb pp pb md hi lo)))), (z24, .inl (cI, 2, .inl (oF (va_up g4 q (he q)))))] H := hP
                        have hD : va_D A [(x0, .inr (8, mO ax z1 z2 z3 fc z5 z6 z7 qs z9 z10 z11 z12 z13 hd lg fcn z17 z18 z19 md z21 z22 z23 z24 hc z26 z27 z28 z29 z30 z31 sm z33 z34)), (z21, .inl (cI, 4, .inl (nF pp))), (z22, .inl (cI, 4, .inl (nF (f_ren pa md hi lo)))), (z23, .inl (cI, 4, .inl (nF (m_rnb pp pb md hi lo)))), (z24, .inl (cI, 2, .inl (oF (va_up g4 q (he q)))))] := hD
                        refine lv_iinc (v := (nI (q + 1))) (lv' := [(5, .int (nI (q + 1))), (0, .ref x0), (1, .int (nI (x))), (2, .int (nI (y))), (3, .int (nI (lo))), (4, .int (nI (hi)))]) hx hb dX8_join_184 hl (k := 0) rfl (q_inc _) (by decide) rfl (fun ls hl => ?_)
                        refine lv_goto (tgt := 145) hx hb dX8_join_187 (by decide) ?_
                        exact ih145 (va_up g4 q (he q)) (q + 1) ls _ _ (by omega) (show (q + 1) ≤ hc from by omega) (show (va_up g4 q (he q)) = m_rnh he (q + 1) hi lo from by (rw [h4]; exact m_rnh_s lo (by first | (exact Or.inl ⟨(m_h_some (hhe q (by omega)).1).mp (by assumption), rfl⟩) | (exact Or.inr ⟨fun h9 => absurd ((m_h_some (hhe q (by omega)).1).mpr h9) (by assumption), rfl⟩)))) (lv_sub hl [0, 1, 2, 3, 4, 5] rfl) (hP.sub [0, 1, 2, 3, 4] rfl) (hD.sub [0, 1, 2, 3, 4] (by decide) rfl) hS
                      · refine lv_iload_n hx hb dX8_join_172 rfl (lv_at hl 4 rfl) ?_
                        refine lv_goto (tgt := 183) hx hb dX8_join_173 (by decide) ?_
                        refine q_iastO hx hb hK hP hD hS 4 0 rfl rfl (j := q) (x := some lo) (by omega) (by omega) dX8_join_183 (fun H locs hP hD hS => ?_)
                        have hP : va_P (dC, dI) qCl [(x0, .inr (8, mO ax z1 z2 z3 fc z5 z6 z7 qs z9 z10 z11 z12 z13 hd lg fcn z17 z18 z19 md z21 z22 z23 z24 hc z26 z27 z28 z29 z30 z31 sm z33 z34)), (z21, .inl (cI, 4, .inl (nF pp))), (z22, .inl (cI, 4, .inl (nF (f_ren pa md hi lo)))), (z23, .inl (cI, 4, .inl (nF (m_rnb pp pb md hi lo)))), (z24, .inl (cI, 2, .inl (oF (va_up g4 q (some lo)))))] H := hP
                        have hD : va_D A [(x0, .inr (8, mO ax z1 z2 z3 fc z5 z6 z7 qs z9 z10 z11 z12 z13 hd lg fcn z17 z18 z19 md z21 z22 z23 z24 hc z26 z27 z28 z29 z30 z31 sm z33 z34)), (z21, .inl (cI, 4, .inl (nF pp))), (z22, .inl (cI, 4, .inl (nF (f_ren pa md hi lo)))), (z23, .inl (cI, 4, .inl (nF (m_rnb pp pb md hi lo)))), (z24, .inl (cI, 2, .inl (oF (va_up g4 q (some lo)))))] := hD
                        refine lv_iinc (v := (nI (q + 1))) (lv' := [(5, .int (nI (q + 1))), (0, .ref x0), (1, .int (nI (x))), (2, .int (nI (y))), (3, .int (nI (lo))), (4, .int (nI (hi)))]) hx hb dX8_join_184 hl (k := 0) rfl (q_inc _) (by decide) rfl (fun ls hl => ?_)
                        refine lv_goto (tgt := 145) hx hb dX8_join_187 (by decide) ?_
                        exact ih145 (va_up g4 q (some lo)) (q + 1) ls _ _ (by omega) (show (q + 1) ≤ hc from by omega) (show (va_up g4 q (some lo)) = m_rnh he (q + 1) hi lo from by (rw [h4]; exact m_rnh_s lo (by first | (exact Or.inl ⟨(m_h_some (hhe q (by omega)).1).mp (by assumption), rfl⟩) | (exact Or.inr ⟨fun h9 => absurd ((m_h_some (hhe q (by omega)).1).mpr h9) (by assumption), rfl⟩)))) (lv_sub hl [0, 1, 2, 3, 4, 5] rfl) (hP.sub [0, 1, 2, 3, 4] rfl) (hD.sub [0, 1, 2, 3, 4] (by decide) rfl) hS
                exact L145 _ he 0 ls _ _ (by exact Nat.lt_succ_self _) (show 0 ≤ hc from by omega) (show he = m_rnh he 0 hi lo from by (exact (m_rnh_0 _ _ _).symm)) (lv_sub hl [0, 1, 2, 3, 4, 5] rfl) (hP.sub [0, 1, 2, 3, 4] rfl) (hD.sub [0, 1, 2, 3, 4] (by decide) rfl) hS
              · refine lv_aload_n hx hb dX8_join_64 rfl (lv_at hl 1 rfl) ?_
                refine va_get (D := (dC, dI)) (ci := 8) (v := .ref z22) (C := RX8) (T := TX8) (N := 35) hx hb hts uX8 hown hK hP 0 rfl rfl 22 (by decide) (hts _ kfX8_59) (fun _ h9 => h9) rfl dX8_join_65 ?_
                refine lv_iload hx hb dX8_join_68 (lv_at hl 0 rfl) ?_
                refine lv_aload_n hx hb dX8_join_70 rfl (lv_at hl 1 rfl) ?_
                refine va_get (D := (dC, dI)) (ci := 8) (v := .ref z22) (C := RX8) (T := TX8) (N := 35) hx hb hts uX8 hown hK hP 0 rfl rfl 22 (by decide) (hts _ kfX8_59) (fun _ h9 => h9) rfl dX8_join_71 ?_
                refine lv_iload hx hb dX8_join_74 (lv_at hl 0 rfl) ?_
                refine q_ialdN hx hb hK hP 2 0 rfl rfl (j := i) (by omega) (by omega) dX8_join_76 ?_
                refine q_top (show (nI (g2 i)) = (nI (pa i)) from (congrArg nI (by rw [h2, f_ren_at]))) ?_
                have bq1 := hpa i
                refine lv_iload hx hb dX8_join_77 (lv_at hl 5 rfl) ?_
                refine q_icmp_ne (x := pa i) (y := hi) (tgt := 86) hx hb dX8_join_79 (by decide) (by omega) (by omega) (fun c79_12 => ?_) (fun c79_12 => ?_)
                · refine lv_aload_n hx hb dX8_join_86 rfl (lv_at hl 1 rfl) ?_
                  refine va_get (D := (dC, dI)) (ci := 8) (v := .ref z22) (C := RX8) (T := TX8) (N := 35) hx hb hts uX8 hown hK hP 0 rfl rfl 22 (by decide) (hts _ kfX8_59) (fun _ h9 => h9) rfl dX8_join_87 ?_
                  refine lv_iload hx hb dX8_join_90 (lv_at hl 0 rfl) ?_
                  refine q_ialdN hx hb hK hP 2 0 rfl rfl (j := i) (by omega) (by omega) dX8_join_92 ?_
                  refine q_top (show (nI (g2 i)) = (nI (pa i)) from (congrArg nI (by rw [h2, f_ren_at]))) ?_
                  refine q_iastN hx hb hK hP hD hS 2 0 rfl rfl (j := i) (x := pa i) (by omega) (by omega) dX8_join_93 (fun H locs hP hD hS => ?_)
                  have hP : va_P (dC, dI) qCl [(x0, .inr (8, mO ax z1 z2 z3 fc z5 z6 z7 qs z9 z10 z11 z12 z13 hd lg fcn z17 z18 z19 md z21 z22 z23 z24 hc z26 z27 z28 z29 z30 z31 sm z33 z34)), (z21, .inl (cI, 4, .inl (nF pp))), (z22, .inl (cI, 4, .inl (nF (va_up g2 i (pa i))))), (z23, .inl (cI, 4, .inl (nF g3))), (z24, .inl (cI, 2, .inl (oF he)))] H := hP
                  have hD : va_D A [(x0, .inr (8, mO ax z1 z2 z3 fc z5 z6 z7 qs z9 z10 z11 z12 z13 hd lg fcn z17 z18 z19 md z21 z22 z23 z24 hc z26 z27 z28 z29 z30 z31 sm z33 z34)), (z21, .inl (cI, 4, .inl (nF pp))), (z22, .inl (cI, 4, .inl (nF (va_up g2 i (pa i))))), (z23, .inl (cI, 4, .inl (nF g3))), (z24, .inl (cI, 2, .inl (oF he)))] := hD
                  refine lv_aload_n hx hb dX8_join_94 rfl (lv_at hl 1 rfl) ?_
                  refine va_get (D := (dC, dI)) (ci := 8) (v := .ref z23) (C := RX8) (T := TX8) (N := 35) hx hb hts uX8 hown hK hP 0 rfl rfl 23 (by decide) (hts _ kfX8_62) (fun _ h9 => h9) rfl dX8_join_95 ?_
                  refine lv_iload hx hb dX8_join_98 (lv_at hl 0 rfl) ?_
                  refine lv_aload_n hx hb dX8_join_100 rfl (lv_at hl 1 rfl) ?_
                  refine va_get (D := (dC, dI)) (ci := 8) (v := .ref z21) (C := RX8) (T := TX8) (N := 35) hx hb hts uX8 hown hK hP 0 rfl rfl 21 (by decide) (hts _ kfX8_56) (fun _ h9 => h9) rfl dX8_join_101 ?_
                  refine lv_iload hx hb dX8_join_104 (lv_at hl 0 rfl) ?_
                  refine q_ialdN hx hb hK hP 1 0 rfl rfl (j := i) (by omega) (by omega) dX8_join_106 ?_
                  have bd13 := hpp i
                  refine lv_bipush (v := (nI (32))) hx hb dX8_join_107 (by decide) ?_
                  refine q_icmp_lt (x := pp i) (y := 32) (tgt := 128) hx hb dX8_join_109 (by decide) (by omega) (by omega) (fun c109_14 => ?_) (fun c109_14 => ?_)
                  · refine lv_aload_n hx hb dX8_join_128 rfl (lv_at hl 1 rfl) ?_
                    refine va_get (D := (dC, dI)) (ci := 8) (v := .ref z23) (C := RX8) (T := TX8) (N := 35) hx hb hts uX8 hown hK hP 0 rfl rfl 23 (by decide) (hts _ kfX8_62) (fun _ h9 => h9) rfl dX8_join_129 ?_
                    refine lv_iload hx hb dX8_join_132 (lv_at hl 0 rfl) ?_
                    refine q_ialdN hx hb hK hP 3 0 rfl rfl (j := i) (by omega) (by omega) dX8_join_134 ?_
                    refine q_top (show (nI (g3 i)) = (nI (pb i)) from (congrArg nI (by rw [h3, m_rnb_at]))) ?_
                    refine q_iastN hx hb hK hP hD hS 3 0 rfl rfl (j := i) (x := pb i) (by omega) (by omega) dX8_join_135 (fun H locs hP hD hS => ?_)
                    have hP : va_P (dC, dI) qCl [(x0, .inr (8, mO ax z1 z2 z3 fc z5 z6 z7 qs z9 z10 z11 z12 z13 hd lg fcn z17 z18 z19 md z21 z22 z23 z24 hc z26 z27 z28 z29 z30 z31 sm z33 z34)), (z21, .inl (cI, 4, .inl (nF pp))), (z22, .inl (cI, 4, .inl (nF (va_up g2 i (pa i))))), (z23, .inl (cI, 4, .inl (nF (va_up g3 i (pb i))))), (z24, .inl (cI, 2, .inl (oF he)))] H := hP
                    have hD : va_D A [(x0, .inr (8, mO ax z1 z2 z3 fc z5 z6 z7 qs z9 z10 z11 z12 z13 hd lg fcn z17 z18 z19 md z21 z22 z23 z24 hc z26 z27 z28 z29 z30 z31 sm z33 z34)), (z21, .inl (cI, 4, .inl (nF pp))), (z22, .inl (cI, 4, .inl (nF (va_up g2 i (pa i))))), (z23, .inl (cI, 4, .inl (nF (va_up g3 i (pb i))))), (z24, .inl (cI, 2, .inl (oF he)))] := hD
                    refine lv_iinc (v := (nI (i + 1))) (lv' := [(5, .int (nI (i + 1))), (0, .ref x0), (1, .int (nI (x))), (2, .int (nI (y))), (3, .int (nI (lo))), (4, .int (nI (hi)))]) hx hb dX8_join_136 hl (k := 0) rfl (q_inc _) (by decide) rfl (fun ls hl => ?_)
                    refine lv_goto (tgt := 55) hx hb dX8_join_139 (by decide) ?_
                    exact ih55 (va_up g2 i (pa i)) (va_up g3 i (pb i)) (i + 1) ls _ _ (by omega) (show (i + 1) ≤ md from by omega) (show (va_up g2 i (pa i)) = f_ren pa (i + 1) hi lo from by (rw [h2]; first | (exact f_ren_t lo (by assumption)) | (exact f_ren_n lo (by assumption)))) (show (va_up g3 i (pb i)) = m_rnb pp pb (i + 1) hi lo from by (rw [h3]; first | (exact m_rnb_t lo ⟨by omega, by assumption⟩) | (exact m_rnb_f lo (by omega)))) (lv_sub hl [0, 1, 2, 3, 4, 5] rfl) (hP.sub [0, 1, 2, 3, 4] rfl) (hD.sub [0, 1, 2, 3, 4] (by decide) rfl) hS
                  · refine lv_aload_n hx hb dX8_join_112 rfl (lv_at hl 1 rfl) ?_
                    refine va_get (D := (dC, dI)) (ci := 8) (v := .ref z23) (C := RX8) (T := TX8) (N := 35) hx hb hts uX8 hown hK hP 0 rfl rfl 23 (by decide) (hts _ kfX8_62) (fun _ h9 => h9) rfl dX8_join_113 ?_
                    refine lv_iload hx hb dX8_join_116 (lv_at hl 0 rfl) ?_
                    refine q_ialdN hx hb hK hP 3 0 rfl rfl (j := i) (by omega) (by omega) dX8_join_118 ?_
                    refine q_top (show (nI (g3 i)) = (nI (pb i)) from (congrArg nI (by rw [h3, m_rnb_at]))) ?_
                    have bq2 := hpb i
                    refine lv_iload hx hb dX8_join_119 (lv_at hl 5 rfl) ?_
                    refine q_icmp_ne (x := pb i) (y := hi) (tgt := 128) hx hb dX8_join_121 (by decide) (by omega) (by omega) (fun c121_15 => ?_) (fun c121_15 => ?_)
                    · refine lv_aload_n hx hb dX8_join_128 rfl (lv_at hl 1 rfl) ?_
                      refine va_get (D := (dC, dI)) (ci := 8) (v := .ref z23) (C := RX8) (T := TX8) (N := 35) hx hb hts uX8 hown hK hP 0 rfl rfl 23 (by decide) (hts _ kfX8_62) (fun _ h9 => h9) rfl dX8_join_129 ?_
                      refine lv_iload hx hb dX8_join_132 (lv_at hl 0 rfl) ?_
                      refine q_ialdN hx hb hK hP 3 0 rfl rfl (j := i) (by omega) (by omega) dX8_join_134 ?_
                      refine q_top (show (nI (g3 i)) = (nI (pb i)) from (congrArg nI (by rw [h3, m_rnb_at]))) ?_
                      refine q_iastN hx hb hK hP hD hS 3 0 rfl rfl (j := i) (x := pb i) (by omega) (by omega) dX8_join_135 (fun H locs hP hD hS => ?_)
                      have hP : va_P (dC, dI) qCl [(x0, .inr (8, mO ax z1 z2 z3 fc z5 z6 z7 qs z9 z10 z11 z12 z13 hd lg fcn z17 z18 z19 md z21 z22 z23 z24 hc z26 z27 z28 z29 z30 z31 sm z33 z34)), (z21, .inl (cI, 4, .inl (nF pp))), (z22, .inl (cI, 4, .inl (nF (va_up g2 i (pa i))))), (z23, .inl (cI, 4, .inl (nF (va_up g3 i (pb i))))), (z24, .inl (cI, 2, .inl (oF he)))] H := hP
                      have hD : va_D A [(x0, .inr (8, mO ax z1 z2 z3 fc z5 z6 z7 qs z9 z10 z11 z12 z13 hd lg fcn z17 z18 z19 md z21 z22 z23 z24 hc z26 z27 z28 z29 z30 z31 sm z33 z34)), (z21, .inl (cI, 4, .inl (nF pp))), (z22, .inl (cI, 4, .inl (nF (va_up g2 i (pa i))))), (z23, .inl (cI, 4, .inl (nF (va_up g3 i (pb i))))), (z24, .inl (cI, 2, .inl (oF he)))] := hD
                      refine lv_iinc (v := (nI (i + 1))) (lv' := [(5, .int (nI (i + 1))), (0, .ref x0), (1, .int (nI (x))), (2, .int (nI (y))), (3, .int (nI (lo))), (4, .int (nI (hi)))]) hx hb dX8_join_136 hl (k := 0) rfl (q_inc _) (by decide) rfl (fun ls hl => ?_)
                      refine lv_goto (tgt := 55) hx hb dX8_join_139 (by decide) ?_
                      exact ih55 (va_up g2 i (pa i)) (va_up g3 i (pb i)) (i + 1) ls _ _ (by omega) (show (i + 1) ≤ md from by omega) (show (va_up g2 i (pa i)) = f_ren pa (i + 1) hi lo from by (rw [h2]; first | (exact f_ren_t lo (by assumption)) | (exact f_ren_n lo (by assumption)))) (show (va_up g3 i (pb i)) = m_rnb pp pb (i + 1) hi lo from by (rw [h3]; first | (exact m_rnb_t lo ⟨by omega, by assumption⟩) | (exact m_rnb_f lo (by omega)))) (lv_sub hl [0, 1, 2, 3, 4, 5] rfl) (hP.sub [0, 1, 2, 3, 4] rfl) (hD.sub [0, 1, 2, 3, 4] (by decide) rfl) hS
                    · refine lv_iload_n hx hb dX8_join_124 rfl (lv_at hl 4 rfl) ?_
                      refine lv_goto (tgt := 135) hx hb dX8_join_125 (by decide) ?_
                      refine q_iastN hx hb hK hP hD hS 3 0 rfl rfl (j := i) (x := lo) (by omega) (by omega) dX8_join_135 (fun H locs hP hD hS => ?_)
                      have hP : va_P (dC, dI) qCl [(x0, .inr (8, mO ax z1 z2 z3 fc z5 z6 z7 qs z9 z10 z11 z12 z13 hd lg fcn z17 z18 z19 md z21 z22 z23 z24 hc z26 z27 z28 z29 z30 z31 sm z33 z34)), (z21, .inl (cI, 4, .inl (nF pp))), (z22, .inl (cI, 4, .inl (nF (va_up g2 i (pa i))))), (z23, .inl (cI, 4, .inl (nF (va_up g3 i lo)))), (z24, .inl (cI, 2, .inl (oF he)))] H := hP
                      have hD : va_D A [(x0, .inr (8, mO ax z1 z2 z3 fc z5 z6 z7 qs z9 z10 z11 z12 z13 hd lg fcn z17 z18 z19 md z21 z22 z23 z24 hc z26 z27 z28 z29 z30 z31 sm z33 z34)), (z21, .inl (cI, 4, .inl (nF pp))), (z22, .inl (cI, 4, .inl (nF (va_up g2 i (pa i))))), (z23, .inl (cI, 4, .inl (nF (va_up g3 i lo)))), (z24, .inl (cI, 2, .inl (oF he)))] := hD
                      refine lv_iinc (v := (nI (i + 1))) (lv' := [(5, .int (nI (i + 1))), (0, .ref x0), (1, .int (nI (x))), (2, .int (nI (y))), (3, .int (nI (lo))), (4, .int (nI (hi)))]) hx hb dX8_join_136 hl (k := 0) rfl (q_inc _) (by decide) rfl (fun ls hl => ?_)
                      refine lv_goto (tgt := 55) hx hb dX8_join_139 (by decide) ?_
                      exact ih55 (va_up g2 i (pa i)) (va_up g3 i lo) (i + 1) ls _ _ (by omega) (show (i + 1) ≤ md from by omega) (show (va_up g2 i (pa i)) = f_ren pa (i + 1) hi lo from by (rw [h2]; first | (exact f_ren_t lo (by assumption)) | (exact f_ren_n lo (by assumption)))) (show (va_up g3 i lo) = m_rnb pp pb (i + 1) hi lo from by (rw [h3]; first | (exact m_rnb_t lo ⟨by omega, by assumption⟩) | (exact m_rnb_f lo (by omega)))) (lv_sub hl [0, 1, 2, 3, 4, 5] rfl) (hP.sub [0, 1, 2, 3, 4] rfl) (hD.sub [0, 1, 2, 3, 4] (by decide) rfl) hS
                · refine lv_iload_n hx hb dX8_join_82 rfl (lv_at hl 4 rfl) ?_
                  refine lv_goto (tgt := 93) hx hb dX8_join_83 (by decide) ?_
                  refine q_iastN hx hb hK hP hD hS 2 0 rfl rfl (j := i) (x := lo) (by omega) (by omega) dX8_join_93 (fun H locs hP hD hS => ?_)
                  have hP : va_P (dC, dI) qCl [(x0, .inr (8, mO ax z1 z2 z3 fc z5 z6 z7 qs z9 z10 z11 z12 z13 hd lg fcn z17 z18 z19 md z21 z22 z23 z24 hc z26 z27 z28 z29 z30 z31 sm z33 z34)), (z21, .inl (cI, 4, .inl (nF pp))), (z22, .inl (cI, 4, .inl (nF (va_up g2 i lo)))), (z23, .inl (cI, 4, .inl (nF g3))), (z24, .inl (cI, 2, .inl (oF he)))] H := hP
                  have hD : va_D A [(x0, .inr (8, mO ax z1 z2 z3 fc z5 z6 z7 qs z9 z10 z11 z12 z13 hd lg fcn z17 z18 z19 md z21 z22 z23 z24 hc z26 z27 z28 z29 z30 z31 sm z33 z34)), (z21, .inl (cI, 4, .inl (nF pp))), (z22, .inl (cI, 4, .inl (nF (va_up g2 i lo)))), (z23, .inl (cI, 4, .inl (nF g3))), (z24, .inl (cI, 2, .inl (oF he)))] := hD
                  refine lv_aload_n hx hb dX8_join_94 rfl (lv_at hl 1 rfl) ?_
                  refine va_get (D := (dC, dI)) (ci := 8) (v := .ref z23) (C := RX8) (T := TX8) (N := 35) hx hb hts uX8 hown hK hP 0 rfl rfl 23 (by decide) (hts _ kfX8_62) (fun _ h9 => h9) rfl dX8_join_95 ?_
                  refine lv_iload hx hb dX8_join_98 (lv_at hl 0 rfl) ?_
                  refine lv_aload_n hx hb dX8_join_100 rfl (lv_at hl 1 rfl) ?_
                  refine va_get (D := (dC, dI)) (ci := 8) (v := .ref z21) (C := RX8) (T := TX8) (N := 35) hx hb hts uX8 hown hK hP 0 rfl rfl 21 (by decide) (hts _ kfX8_56) (fun _ h9 => h9) rfl dX8_join_101 ?_
                  refine lv_iload hx hb dX8_join_104 (lv_at hl 0 rfl) ?_
                  refine q_ialdN hx hb hK hP 1 0 rfl rfl (j := i) (by omega) (by omega) dX8_join_106 ?_
                  have bd16 := hpp i
                  refine lv_bipush (v := (nI (32))) hx hb dX8_join_107 (by decide) ?_
                  refine q_icmp_lt (x := pp i) (y := 32) (tgt := 128) hx hb dX8_join_109 (by decide) (by omega) (by omega) (fun c109_17 => ?_) (fun c109_17 => ?_)
                  · refine lv_aload_n hx hb dX8_join_128 rfl (lv_at hl 1 rfl) ?_
                    refine va_get (D := (dC, dI)) (ci := 8) (v := .ref z23) (C := RX8) (T := TX8) (N := 35) hx hb hts uX8 hown hK hP 0 rfl rfl 23 (by decide) (hts _ kfX8_62) (fun _ h9 => h9) rfl dX8_join_129 ?_
                    refine lv_iload hx hb dX8_join_132 (lv_at hl 0 rfl) ?_
                    refine q_ialdN hx hb hK hP 3 0 rfl rfl (j := i) (by omega) (by omega) dX8_join_134 ?_
                    refine q_top (show (nI (g3 i)) = (nI (pb i)) from (congrArg nI (by rw [h3, m_rnb_at]))) ?_
                    refine q_iastN hx hb hK hP hD hS 3 0 rfl rfl (j := i) (x := pb i) (by omega) (by omega) dX8_join_135 (fun H locs hP hD hS => ?_)
                    have hP : va_P (dC, dI) qCl [(x0, .inr (8, mO ax z1 z2 z3 fc z5 z6 z7 qs z9 z10 z11 z12 z13 hd lg fcn z17 z18 z19 md z21 z22 z23 z24 hc z26 z27 z28 z29 z30 z31 sm z33 z34)), (z21, .inl (cI, 4, .inl (nF pp))), (z22, .inl (cI, 4, .inl (nF (va_up g2 i lo)))), (z23, .inl (cI, 4, .inl (nF (va_up g3 i (pb i))))), (z24, .inl (cI, 2, .inl (oF he)))] H := hP
                    have hD : va_D A [(x0, .inr (8, mO ax z1 z2 z3 fc z5 z6 z7 qs z9 z10 z11 z12 z13 hd lg fcn z17 z18 z19 md z21 z22 z23 z24 hc z26 z27 z28 z29 z30 z31 sm z33 z34)), (z21, .inl (cI, 4, .inl (nF pp))), (z22, .inl (cI, 4, .inl (nF (va_up g2 i lo)))), (z23, .inl (cI, 4, .inl (nF (va_up g3 i (pb i))))), (z24, .inl (cI, 2, .inl (oF he)))] := hD
                    refine lv_iinc (v := (nI (i + 1))) (lv' := [(5, .int (nI (i + 1))), (0, .ref x0), (1, .int (nI (x))), (2, .int (nI (y))), (3, .int (nI (lo))), (4, .int (nI (hi)))]) hx hb dX8_join_136 hl (k := 0) rfl (q_inc _) (by decide) rfl (fun ls hl => ?_)
                    refine lv_goto (tgt := 55) hx hb dX8_join_139 (by decide) ?_
                    exact ih55 (va_up g2 i lo) (va_up g3 i (pb i)) (i + 1) ls _ _ (by omega) (show (i + 1) ≤ md from by omega) (show (va_up g2 i lo) = f_ren pa (i + 1) hi lo from by (rw [h2]; first | (exact f_ren_t lo (by assumption)) | (exact f_ren_n lo (by assumption)))) (show (va_up g3 i (pb i)) = m_rnb pp pb (i + 1) hi lo from by (rw [h3]; first | (exact m_rnb_t lo ⟨by omega, by assumption⟩) | (exact m_rnb_f lo (by omega)))) (lv_sub hl [0, 1, 2, 3, 4, 5] rfl) (hP.sub [0, 1, 2, 3, 4] rfl) (hD.sub [0, 1, 2, 3, 4] (by decide) rfl) hS
                  · refine lv_aload_n hx hb dX8_join_112 rfl (lv_at hl 1 rfl) ?_
                    refine va_get (D := (dC, dI)) (ci := 8) (v := .ref z23) (C := RX8) (T := TX8) (N := 35) hx hb hts uX8 hown hK hP 0 rfl rfl 23 (by decide) (hts _ kfX8_62) (fun _ h9 => h9) rfl dX8_join_113 ?_
                    refine lv_iload hx hb dX8_join_116 (lv_at hl 0 rfl) ?_
                    refine q_ialdN hx hb hK hP 3 0 rfl rfl (j := i) (by omega) (by omega) dX8_join_118 ?_
                    refine q_top (show (nI (g3 i)) = (nI (pb i)) from (congrArg nI (by rw [h3, m_rnb_at]))) ?_
                    have bq2 := hpb i
                    refine lv_iload hx hb dX8_join_119 (lv_at hl 5 rfl) ?_
                    refine q_icmp_ne (x := pb i) (y := hi) (tgt := 128) hx hb dX8_join_121 (by decide) (by omega) (by omega) (fun c121_18 => ?_) (fun c121_18 => ?_)
                    · refine lv_aload_n hx hb dX8_join_128 rfl (lv_at hl 1 rfl) ?_
                      refine va_get (D := (dC, dI)) (ci := 8) (v := .ref z23) (C := RX8) (T := TX8) (N := 35) hx hb hts uX8 hown hK hP 0 rfl rfl 23 (by decide) (hts _ kfX8_62) (fun _ h9 => h9) rfl dX8_join_129 ?_
                      refine lv_iload hx hb dX8_join_132 (lv_at hl 0 rfl) ?_
                      refine q_ialdN hx hb hK hP 3 0 rfl rfl (j := i) (by omega) (by omega) dX8_join_134 ?_
                      refine q_top (show (nI (g3 i)) = (nI (pb i)) from (congrArg nI (by rw [h3, m_rnb_at]))) ?_
                      refine q_iastN hx hb hK hP hD hS 3 0 rfl rfl (j := i) (x := pb i) (by omega) (by omega) dX8_join_135 (fun H locs hP hD hS => ?_)
                      have hP : va_P (dC, dI) qCl [(x0, .inr (8, mO ax z1 z2 z3 fc z5 z6 z7 qs z9 z10 z11 z12 z13 hd lg fcn z17 z18 z19 md z21 z22 z23 z24 hc z26 z27 z28 z29 z30 z31 sm z33 z34)), (z21, .inl (cI, 4, .inl (nF pp))), (z22, .inl (cI, 4, .inl (nF (va_up g2 i lo)))), (z23, .inl (cI, 4, .inl (nF (va_up g3 i (pb i))))), (z24, .inl (cI, 2, .inl (oF he)))] H := hP
                      have hD : va_D A [(x0, .inr (8, mO ax z1 z2 z3 fc z5 z6 z7 qs z9 z10 z11 z12 z13 hd lg fcn z17 z18 z19 md z21 z22 z23 z24 hc z26 z27 z28 z29 z30 z31 sm z33 z34)), (z21, .inl (cI, 4, .inl (nF pp))), (z22, .inl (cI, 4, .inl (nF (va_up g2 i lo)))), (z23, .inl (cI, 4, .inl (nF (va_up g3 i (pb i))))), (z24, .inl (cI, 2, .inl (oF he)))] := hD
                      refine lv_iinc (v := (nI (i + 1))) (lv' := [(5, .int (nI (i + 1))), (0, .ref x0), (1, .int (nI (x))), (2, .int (nI (y))), (3, .int (nI (lo))), (4, .int (nI (hi)))]) hx hb dX8_join_136 hl (k := 0) rfl (q_inc _) (by decide) rfl (fun ls hl => ?_)
                      refine lv_goto (tgt := 55) hx hb dX8_join_139 (by decide) ?_
                      exact ih55 (va_up g2 i lo) (va_up g3 i (pb i)) (i + 1) ls _ _ (by omega) (show (i + 1) ≤ md from by omega) (show (va_up g2 i lo) = f_ren pa (i + 1) hi lo from by (rw [h2]; first | (exact f_ren_t lo (by assumption)) | (exact f_ren_n lo (by assumption)))) (show (va_up g3 i (pb i)) = m_rnb pp pb (i + 1) hi lo from by (rw [h3]; first | (exact m_rnb_t lo ⟨by omega, by assumption⟩) | (exact m_rnb_f lo (by omega)))) (lv_sub hl [0, 1, 2, 3, 4, 5] rfl) (hP.sub [0, 1, 2, 3, 4] rfl) (hD.sub [0, 1, 2, 3, 4] (by decide) rfl) hS
                    · refine lv_iload_n hx hb dX8_join_124 rfl (lv_at hl 4 rfl) ?_
                      refine lv_goto (tgt := 135) hx hb dX8_join_125 (by decide) ?_
                      refine q_iastN hx hb hK hP hD hS 3 0 rfl rfl (j := i) (x := lo) (by omega) (by omega) dX8_join_135 (fun H locs hP hD hS => ?_)
                      have hP : va_P (dC, dI) qCl [(x0, .inr (8, mO ax z1 z2 z3 fc z5 z6 z7 qs z9 z10 z11 z12 z13 hd lg fcn z17 z18 z19 md z21 z22 z23 z24 hc z26 z27 z28 z29 z30 z31 sm z33 z34)), (z21, .inl (cI, 4, .inl (nF pp))), (z22, .inl (cI, 4, .inl (nF (va_up g2 i lo)))), (z23, .inl (cI, 4, .inl (nF (va_up g3 i lo)))), (z24, .inl (cI, 2, .inl (oF he)))] H := hP
                      have hD : va_D A [(x0, .inr (8, mO ax z1 z2 z3 fc z5 z6 z7 qs z9 z10 z11 z12 z13 hd lg fcn z17 z18 z19 md z21 z22 z23 z24 hc z26 z27 z28 z29 z30 z31 sm z33 z34)), (z21, .inl (cI, 4, .inl (nF pp))), (z22, .inl (cI, 4, .inl (nF (va_up g2 i lo)))), (z23, .inl (cI, 4, .inl (nF (va_up g3 i lo)))), (z24, .inl (cI, 2, .inl (oF he)))] := hD
                      refine lv_iinc (v := (nI (i + 1))) (lv' := [(5, .int (nI (i + 1))), (0, .ref x0), (1, .int (nI (x))), (2, .int (nI (y))), (3, .int (nI (lo))), (4, .int (nI (hi)))]) hx hb dX8_join_136 hl (k := 0) rfl (q_inc _) (by decide) rfl (fun ls hl => ?_)
                      refine lv_goto (tgt := 55) hx hb dX8_join_139 (by decide) ?_
                      exact ih55 (va_up g2 i lo) (va_up g3 i lo) (i + 1) ls _ _ (by omega) (show (i + 1) ≤ md from by omega) (show (va_up g2 i lo) = f_ren pa (i + 1) hi lo from by (rw [h2]; first | (exact f_ren_t lo (by assumption)) | (exact f_ren_n lo (by assumption)))) (show (va_up g3 i lo) = m_rnb pp pb (i + 1) hi lo from by (rw [h3]; first | (exact m_rnb_t lo ⟨by omega, by assumption⟩) | (exact m_rnb_f lo (by omega)))) (lv_sub hl [0, 1, 2, 3, 4, 5] rfl) (hP.sub [0, 1, 2, 3, 4] rfl) (hD.sub [0, 1, 2, 3, 4] (by decide) rfl) hS
          exact L55 _ pa pb 0 ls _ _ (by exact Nat.lt_succ_self _) (show 0 ≤ md from by omega) (show pa = f_ren pa 0 hi lo from by (exact (f_ren_0 _ _ _).symm)) (show pb = m_rnb pp pb 0 hi lo from by (exact (m_rnb_0 _ _ _ _).symm)) (lv_sub hl [0, 1, 2, 3, 4, 5] rfl) (hP.sub [0, 1, 2, 3, 4] rfl) (hD.sub [0, 1, 2, 3, 4] (by decide) rfl) hS
        refine lv_iload_n hx hb dX8_join_29 rfl (lv_at hl 1 rfl) ?_
        refine lv_iload_n hx hb dX8_join_30 rfl (lv_at hl 2 rfl) ?_
        refine q_icmp_ge (x := x) (y := y) (tgt := 38) hx hb dX8_join_31 (by decide) (by omega) (by omega) (fun c31_19 => ?_) (fun c31_19 => ?_)
        · refine lv_iload_n hx hb dX8_join_38 rfl (lv_at hl 2 rfl) ?_
          refine lv_istore_n (lv' := [(3, .int (nI (y))), (0, .ref x0), (1, .int (nI (x))), (2, .int (nI (y)))]) hx hb dX8_join_39 rfl hl (by decide) rfl (fun ls hl => ?_)
          refine lv_iload_n hx hb dX8_join_40 rfl (lv_at hl 2 rfl) ?_
          refine lv_iload_n hx hb dX8_join_41 rfl (lv_at hl 3 rfl) ?_
          refine q_icmp_ge (x := x) (y := y) (tgt := 49) hx hb dX8_join_42 (by decide) (by omega) (by omega) (fun c42_20 => ?_) (fun c42_20 => ?_)
          · refine lv_iload_n hx hb dX8_join_49 rfl (lv_at hl 2 rfl) ?_
            refine lv_istore (lv' := [(4, .int (nI (x))), (3, .int (nI (y))), (0, .ref x0), (1, .int (nI (x))), (2, .int (nI (y)))]) hx hb dX8_join_50 hl (by decide) rfl (fun ls hl => ?_)
            exact L52 y x ls _ _ (show y = min x y from by omega) (show x = max x y from by omega) (show ¬ (x = 6 ∨ y = 6 ∨ x = y) from by omega) (lv_sub hl [2, 3, 4, 1, 0] rfl) (hP.sub [0, 1, 2, 3, 4] rfl) (hD.sub [0, 1, 2, 3, 4] (by decide) rfl) hS
          · refine lv_iload_n hx hb dX8_join_45 rfl (lv_at hl 3 rfl) ?_
            refine lv_goto (tgt := 50) hx hb dX8_join_46 (by decide) ?_
            refine lv_istore (lv' := [(4, .int (nI (y))), (3, .int (nI (y))), (0, .ref x0), (1, .int (nI (x))), (2, .int (nI (y)))]) hx hb dX8_join_50 hl (by decide) rfl (fun ls hl => ?_)
            exact L52 y y ls _ _ (show y = min x y from by omega) (show y = max x y from by omega) (show ¬ (x = 6 ∨ y = 6 ∨ x = y) from by omega) (lv_sub hl [2, 3, 4, 1, 0] rfl) (hP.sub [0, 1, 2, 3, 4] rfl) (hD.sub [0, 1, 2, 3, 4] (by decide) rfl) hS
        · refine lv_iload_n hx hb dX8_join_34 rfl (lv_at hl 1 rfl) ?_
          refine lv_goto (tgt := 39) hx hb dX8_join_35 (by decide) ?_
          refine lv_istore_n (lv' := [(3, .int (nI (x))), (0, .ref x0), (1, .int (nI (x))), (2, .int (nI (y)))]) hx hb dX8_join_39 rfl hl (by decide) rfl (fun ls hl => ?_)
          refine lv_iload_n hx hb dX8_join_40 rfl (lv_at hl 2 rfl) ?_
          refine lv_iload_n hx hb dX8_join_41 rfl (lv_at hl 3 rfl) ?_
          refine q_icmp_ge (x := x) (y := y) (tgt := 49) hx hb dX8_join_42 (by decide) (by omega) (by omega) (fun c42_21 => ?_) (fun c42_21 => ?_)
          · refine lv_iload_n hx hb dX8_join_49 rfl (lv_at hl 2 rfl) ?_
            refine lv_istore (lv' := [(4, .int (nI (x))), (3, .int (nI (x))), (0, .ref x0), (1, .int (nI (x))), (2, .int (nI (y)))]) hx hb dX8_join_50 hl (by decide) rfl (fun ls hl => ?_)
            exact L52 x x ls _ _ (show x = min x y from by omega) (show x = max x y from by omega) (show ¬ (x = 6 ∨ y = 6 ∨ x = y) from by omega) (lv_sub hl [2, 3, 4, 1, 0] rfl) (hP.sub [0, 1, 2, 3, 4] rfl) (hD.sub [0, 1, 2, 3, 4] (by decide) rfl) hS
          · refine lv_iload_n hx hb dX8_join_45 rfl (lv_at hl 3 rfl) ?_
            refine lv_goto (tgt := 50) hx hb dX8_join_46 (by decide) ?_
            refine lv_istore (lv' := [(4, .int (nI (y))), (3, .int (nI (x))), (0, .ref x0), (1, .int (nI (x))), (2, .int (nI (y)))]) hx hb dX8_join_50 hl (by decide) rfl (fun ls hl => ?_)
            exact L52 x y ls _ _ (show x = min x y from by omega) (show y = max x y from by omega) (show ¬ (x = 6 ∨ y = 6 ∨ x = y) from by omega) (lv_sub hl [2, 3, 4, 1, 0] rfl) (hP.sub [0, 1, 2, 3, 4] rfl) (hD.sub [0, 1, 2, 3, 4] (by decide) rfl) hS
      · refine lv_iload_n hx hb dX8_join_17 rfl (lv_at hl 1 rfl) ?_
        refine lv_bipush (v := (nI (6))) hx hb dX8_join_18 (by decide) ?_
        refine q_icmp_ne (x := x) (y := 6) (tgt := 27) hx hb dX8_join_20 (by decide) (by omega) (by omega) (fun c20_22 => ?_) (fun c20_22 => ?_)
        · refine lv_iload_n hx hb dX8_join_27 rfl (lv_at hl 1 rfl) ?_
          subst hQ
          subst hAe
          have hP9 := hP.sub (ws' := [(x0, .inr (8, mO ax z1 z2 z3 fc z5 z6 z7 qs z9 z10 z11 z12 z13 hd lg fcn z17 z18 z19 md z21 z22 z23 z24 hc z26 z27 z28 z29 z30 z31 sm z33 z34)), (z21, .inl (cI, 4, .inl (nF pp))), (z22, .inl (cI, 4, .inl (nF pa))), (z23, .inl (cI, 4, .inl (nF pb))), (z24, .inl (cI, 2, .inl (oF he)))]) [0, 1, 2, 3, 4] rfl
          exact W.iret (v := (nI (x))) hx hb hr (fun t9 h9 _ => ⟨⟨(nI (x)), (x, pa, pb, he), rfl, ⟨rfl, (show m_jn pp pa pb he md hc x y x pa pb he from by (rw [m_jn, if_pos (by omega)]; first | (rw [if_pos (by omega)]; exact ⟨rfl, rfl, rfl, rfl⟩) | (rw [if_neg (by omega)]; exact ⟨rfl, rfl, rfl, rfl⟩)))⟩, by show va_P _ _ _ t9.heap; rw [h9]; exact hP9⟩, hS.F h9⟩) hS.2.2 dX8_join_28
        · refine lv_iload_n hx hb dX8_join_23 rfl (lv_at hl 2 rfl) ?_
          refine lv_goto (tgt := 28) hx hb dX8_join_24 (by decide) ?_
          subst hQ
          subst hAe
          have hP9 := hP.sub (ws' := [(x0, .inr (8, mO ax z1 z2 z3 fc z5 z6 z7 qs z9 z10 z11 z12 z13 hd lg fcn z17 z18 z19 md z21 z22 z23 z24 hc z26 z27 z28 z29 z30 z31 sm z33 z34)), (z21, .inl (cI, 4, .inl (nF pp))), (z22, .inl (cI, 4, .inl (nF pa))), (z23, .inl (cI, 4, .inl (nF pb))), (z24, .inl (cI, 2, .inl (oF he)))]) [0, 1, 2, 3, 4] rfl
          exact W.iret (v := (nI (y))) hx hb hr (fun t9 h9 _ => ⟨⟨(nI (y)), (y, pa, pb, he), rfl, ⟨rfl, (show m_jn pp pa pb he md hc x y y pa pb he from by (rw [m_jn, if_pos (by omega)]; first | (rw [if_pos (by omega)]; exact ⟨rfl, rfl, rfl, rfl⟩) | (rw [if_neg (by omega)]; exact ⟨rfl, rfl, rfl, rfl⟩)))⟩, by show va_P _ _ _ t9.heap; rw [h9]; exact hP9⟩, hS.F h9⟩) hS.2.2 dX8_join_28
