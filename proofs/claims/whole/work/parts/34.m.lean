section QOO
variable {p : Program} {l : Launch} {e : Env} {R : Room} {s : State} {m : MethodId} {args : Array Value} {below : List Frame} {meth : Method} {c : Code} {H : Heap} {locs : List Loc} {cells slots : Nat} {Q : State → Prop}
variable {cc : ByteArray} {pc : Nat} {ls : Array Slot} {rest : List Value}
theorem oI_eq {x y : Option Nat} (hx : ∀ k, x = some k → k < 2 ^ 31) (hy : ∀ k, y = some k → k < 2 ^ 31) : oI x = oI y ↔ x = y := by
  cases y with
  | none => exact oI_none hx
  | some b =>
    cases x with
    | none =>
      refine ⟨fun h => ?_, fun h => by cases h⟩
      have := (oI_none hy).mp h.symm
      cases this
    | some a =>
      show nI a = nI b ↔ some a = some b
      rw [nI_eq (hx a rfl) (hy b rfl)]
      simp
theorem q_icmpOO_ne (hexec : p.tables.exec = Jvm.exec) (hb : c.code = cc) {x y : Option Nat} {off : Int} {tgt : Nat} (hdg : decode cc pc = .ok (.if_icmp .ne off, 3)) (ht : (pc : Int) + off = (tgt : Int)) (hx : ∀ k, x = some k → k < 2 ^ 31) (hy : ∀ k, y = some k → k < 2 ^ 31)
    (kt : ¬ x = y → W p l e R s m args below meth c H locs cells slots Q (F0 m tgt ls rest)) (kf : x = y → W p l e R s m args below meth c H locs cells slots Q (F0 m (pc + 3) ls rest)) : W p l e R s m args below meth c H locs cells slots Q (F0 m pc ls (.int (oI y) :: .int (oI x) :: rest)) := lv_icmp_ne hexec hb hdg ht (fun h => kt (fun h2 => absurd ((oI_eq hx hy).mpr h2) (by simpa using h))) (fun h => kf ((oI_eq hx hy).mp (by simpa using h)))
end QOO
theorem m_hn_lt {he : Nat → Nat} {hc i : Nat} : ∀ k, m_hn he hc i = some k → k < 2 ^ 31 := by
  intro k h
  unfold m_hn at h
  split at h
  · cases h
  · split at h <;> (cases h; decide)
def m_hsame (zs : Nat → Nat) (hs : Nat → Option Nat) (he : Nat → Nat) (md hc f : Nat) : Prop := zs f = md ∧ hs (2 * f) = m_hn he hc 0 ∧ hs (2 * f + 1) = m_hn he hc 1
def m_csame (cs le : Nat → Nat) (f i : Nat) : Prop := ∀ k, k < i → cs (4 * f + k) = le k
theorem m_csame_s {cs le : Nat → Nat} {f i : Nat} : m_csame cs le f (i + 1) ↔ m_csame cs le f i ∧ cs (4 * f + i) = le i := by
  constructor
  · intro h; exact ⟨fun k hk => h k (by omega), h i (by omega)⟩
  · rintro ⟨h1, h2⟩ k hk
    by_cases hki : k = i
    · rw [hki]; exact h2
    · exact h1 k (by omega)
def m_ans (bd : Nat → Option Nat) (d : Nat) (o : Option Nat) : Option Nat := match o with
  | none => some 0
  | some u => bd (d + u)
def m_tel (o1 o2 : Option Nat) (fnd : Nat → Bool) (sm : Bool) (fnd1 : Nat → Bool) (sm1 : Bool) : Prop := (∃ a b, o1 = some a ∧ o2 = some b ∧ fnd1 = va_up fnd (16 * a + b) true ∧ sm1 = true) ∨ ((o1 = none ∨ o2 = none) ∧ fnd1 = fnd ∧ sm1 = sm)
def m_rpl (o : Option (Nat × Nat × Nat)) (pp pa pb : Nat → Nat) (k : Nat) (b : Bool) (pp1 pa1 pb1 : Nat → Nat) : Prop := match o with
  | none => b = false ∧ pp1 = pp ∧ pa1 = pa ∧ pb1 = pb
  | some q => b = true ∧ pp1 = va_up pp k q.1 ∧ pa1 = va_up pa k q.2.1 ∧ pb1 = va_up pb k q.2.2
def m_fit (rg x a b : Nat) : Prop := (rg < 10 ∧ x = rg) ∨ (20 ≤ rg ∧ x = 32 + (rg - 20) / 2 ∧ (rg % 2 = 0 ∧ b = 6 ∨ rg % 2 = 1 ∧ a = 6))
theorem f_rw0_n {lf rg x a b : Nat} (hr : rg < 10 ∨ 20 ≤ rg ∧ rg < 36) (h : ¬ m_fit rg x a b) : f_rw 0 lf rg x a b = none := by
  have e : f_mem rg x a b = 7 := by
    unfold m_fit at h
    unfold f_mem
    split <;> (try split) <;> (try split) <;> (try split) <;> omega
  rw [f_rw, if_pos rfl, if_pos e]
theorem f_rw0_a {lf rg x a b : Nat} (hr : rg < 10 ∨ 20 ≤ rg ∧ rg < 36) (h : m_fit rg x a b) (h2 : rg < 10 ∨ rg % 2 = 0) (h7 : a ≠ 7) : f_rw 0 lf rg x a b = some (f_sortn lf, f_sort1 lf a, f_sort2 lf a) := by
  have e : f_mem rg x a b = a := by
    unfold m_fit at h
    unfold f_mem
    split <;> (try split) <;> (try split) <;> (try split) <;> omega
  rw [f_rw, if_pos rfl, e, if_neg h7]
theorem f_rw0_b {lf rg x a b : Nat} (hr : rg < 10 ∨ 20 ≤ rg ∧ rg < 36) (h : m_fit rg x a b) (h2 : 10 ≤ rg ∧ rg % 2 = 1) (h7 : b ≠ 7) : f_rw 0 lf rg x a b = some (f_sortn lf, f_sort1 lf b, f_sort2 lf b) := by
  have e : f_mem rg x a b = b := by
    unfold m_fit at h
    unfold f_mem
    split <;> (try split) <;> (try split) <;> (try split) <;> omega
  rw [f_rw, if_pos rfl, e, if_neg h7]
theorem f_rw1_n {lf rg x a b : Nat} (h : ¬ x = 32 + rg / 2) : f_rw 1 lf rg x a b = none := by
  rw [f_rw, if_neg (by decide), if_neg (fun h2 => h h2.2)]
theorem f_rw1_s {lf rg x a b : Nat} (h : x = 32 + rg / 2) : f_rw 1 lf rg x a b = some (32 + lf / 2, (if lf % 2 = rg % 2 then a else b), (if lf % 2 = rg % 2 then b else a)) := by
  rw [f_rw, if_neg (by decide), if_pos ⟨rfl, h⟩]
  unfold f_wayn f_way1 f_way2
  by_cases h1 : rg % 2 = 0
  · rw [if_pos h1]
    by_cases h2 : lf % 2 = 0
    · simp [h1, h2]
    · simp [h1, h2]
  · rw [if_neg h1]
    by_cases h2 : lf % 2 = 0
    · have : ¬ lf % 2 = rg % 2 := by omega
      simp [h2, this]; omega
    · have : lf % 2 = rg % 2 := by omega
      simp [h2, this]; omega
theorem f_rw2 {k lf rg x a b : Nat} (h0 : ¬ k = 0) (h1 : ¬ k = 1) : f_rw k lf rg x a b = none := by
  rw [f_rw, if_neg h0, if_neg (fun h2 => h1 h2.1)]
theorem m_ans_lt {bd : Nat → Option Nat} (h : ∀ j k, bd j = some k → k < 12) {d : Nat} {o : Option Nat} {v : Nat} (e : m_ans bd d o = some v) : v < 12 := by
  cases o with
  | none => cases e; decide
  | some u => exact h _ _ e
abbrev cX8_isForm : ByteArray := prog_10_method_23_code
def yX8_isForm : MethodName := ⟨RX8, "isForm", "(I)Z"⟩
def wkX8_isForm : List Cond := .code yX8_isForm cX8_isForm 4 (some .boolean) :: qW
set_option maxRecDepth 40000 in
theorem gkX8_isForm : GoodIn qW wkX8_isForm := q_good (qw 769 rfl rfl)
set_option maxRecDepth 40000 in
theorem knX8_isForm : Cond.instanceMethod yX8_isForm ∈ qW := qw 768 rfl rfl
set_option maxRecDepth 40000 in
theorem klX8_isForm : Cond.selects RX8 yX8_isForm yX8_isForm ∈ qW := qw 30 rfl rfl
theorem dX8_isForm_0 : decode cX8_isForm 0 = .ok (.aload_n 0, 1) := by decide +kernel
theorem dX8_isForm_1 : decode cX8_isForm 1 = .ok (.getfield 47, 3) := by decide +kernel
theorem dX8_isForm_4 : decode cX8_isForm 4 = .ok (.iload_n 1, 1) := by decide +kernel
theorem dX8_isForm_5 : decode cX8_isForm 5 = .ok (.iaload, 1) := by decide +kernel
theorem dX8_isForm_6 : decode cX8_isForm 6 = .ok (.aload_n 0, 1) := by decide +kernel
theorem dX8_isForm_7 : decode cX8_isForm 7 = .ok (.getfield 121, 3) := by decide +kernel
theorem dX8_isForm_10 : decode cX8_isForm 10 = .ok (.if_icmp .ne 41, 3) := by decide +kernel
theorem dX8_isForm_13 : decode cX8_isForm 13 = .ok (.aload_n 0, 1) := by decide +kernel
theorem dX8_isForm_14 : decode cX8_isForm 14 = .ok (.getfield 53, 3) := by decide +kernel
theorem dX8_isForm_17 : decode cX8_isForm 17 = .ok (.iconst 2, 1) := by decide +kernel
theorem dX8_isForm_18 : decode cX8_isForm 18 = .ok (.iload_n 1, 1) := by decide +kernel
theorem dX8_isForm_19 : decode cX8_isForm 19 = .ok (.imul, 1) := by decide +kernel
theorem dX8_isForm_20 : decode cX8_isForm 20 = .ok (.iaload, 1) := by decide +kernel
theorem dX8_isForm_21 : decode cX8_isForm 21 = .ok (.aload_n 0, 1) := by decide +kernel
theorem dX8_isForm_22 : decode cX8_isForm 22 = .ok (.iconst 0, 1) := by decide +kernel
theorem dX8_isForm_23 : decode cX8_isForm 23 = .ok (.invokevirtual 156, 3) := by decide +kernel
theorem dX8_isForm_26 : decode cX8_isForm 26 = .ok (.if_icmp .ne 25, 3) := by decide +kernel
theorem dX8_isForm_29 : decode cX8_isForm 29 = .ok (.aload_n 0, 1) := by decide +kernel
theorem dX8_isForm_30 : decode cX8_isForm 30 = .ok (.getfield 53, 3) := by decide +kernel
theorem dX8_isForm_33 : decode cX8_isForm 33 = .ok (.iconst 2, 1) := by decide +kernel
theorem dX8_isForm_34 : decode cX8_isForm 34 = .ok (.iload_n 1, 1) := by decide +kernel
theorem dX8_isForm_35 : decode cX8_isForm 35 = .ok (.imul, 1) := by decide +kernel
theorem dX8_isForm_36 : decode cX8_isForm 36 = .ok (.iconst 1, 1) := by decide +kernel
theorem dX8_isForm_37 : decode cX8_isForm 37 = .ok (.iadd, 1) := by decide +kernel
theorem dX8_isForm_38 : decode cX8_isForm 38 = .ok (.iaload, 1) := by decide +kernel
theorem dX8_isForm_39 : decode cX8_isForm 39 = .ok (.aload_n 0, 1) := by decide +kernel
theorem dX8_isForm_40 : decode cX8_isForm 40 = .ok (.iconst 1, 1) := by decide +kernel
theorem dX8_isForm_41 : decode cX8_isForm 41 = .ok (.invokevirtual 156, 3) := by decide +kernel
theorem dX8_isForm_44 : decode cX8_isForm 44 = .ok (.if_icmp .ne 7, 3) := by decide +kernel
theorem dX8_isForm_47 : decode cX8_isForm 47 = .ok (.iconst 1, 1) := by decide +kernel
theorem dX8_isForm_48 : decode cX8_isForm 48 = .ok (.goto 4, 3) := by decide +kernel
theorem dX8_isForm_51 : decode cX8_isForm 51 = .ok (.iconst 0, 1) := by decide +kernel
theorem dX8_isForm_52 : decode cX8_isForm 52 = .ok (.istore_n 2, 1) := by decide +kernel
theorem dX8_isForm_53 : decode cX8_isForm 53 = .ok (.iconst 0, 1) := by decide +kernel
theorem dX8_isForm_54 : decode cX8_isForm 54 = .ok (.istore_n 3, 1) := by decide +kernel
theorem dX8_isForm_55 : decode cX8_isForm 55 = .ok (.iload_n 3, 1) := by decide +kernel
theorem dX8_isForm_56 : decode cX8_isForm 56 = .ok (.aload_n 0, 1) := by decide +kernel
theorem dX8_isForm_57 : decode cX8_isForm 57 = .ok (.getfield 121, 3) := by decide +kernel
theorem dX8_isForm_60 : decode cX8_isForm 60 = .ok (.if_icmp .ge 38, 3) := by decide +kernel
theorem dX8_isForm_63 : decode cX8_isForm 63 = .ok (.iload_n 2, 1) := by decide +kernel
theorem dX8_isForm_64 : decode cX8_isForm 64 = .ok (.ifCond .eq 34, 3) := by decide +kernel
theorem dX8_isForm_67 : decode cX8_isForm 67 = .ok (.aload_n 0, 1) := by decide +kernel
theorem dX8_isForm_68 : decode cX8_isForm 68 = .ok (.getfield 50, 3) := by decide +kernel
theorem dX8_isForm_71 : decode cX8_isForm 71 = .ok (.iconst 4, 1) := by decide +kernel
theorem dX8_isForm_72 : decode cX8_isForm 72 = .ok (.iload_n 1, 1) := by decide +kernel
theorem dX8_isForm_73 : decode cX8_isForm 73 = .ok (.imul, 1) := by decide +kernel
theorem dX8_isForm_74 : decode cX8_isForm 74 = .ok (.iload_n 3, 1) := by decide +kernel
theorem dX8_isForm_75 : decode cX8_isForm 75 = .ok (.iadd, 1) := by decide +kernel
theorem dX8_isForm_76 : decode cX8_isForm 76 = .ok (.iaload, 1) := by decide +kernel
theorem dX8_isForm_77 : decode cX8_isForm 77 = .ok (.aload_n 0, 1) := by decide +kernel
theorem dX8_isForm_78 : decode cX8_isForm 78 = .ok (.getfield 71, 3) := by decide +kernel
theorem dX8_isForm_81 : decode cX8_isForm 81 = .ok (.iload_n 3, 1) := by decide +kernel
theorem dX8_isForm_82 : decode cX8_isForm 82 = .ok (.iaload, 1) := by decide +kernel
theorem dX8_isForm_83 : decode cX8_isForm 83 = .ok (.if_icmp .ne 7, 3) := by decide +kernel
theorem dX8_isForm_86 : decode cX8_isForm 86 = .ok (.iconst 1, 1) := by decide +kernel
theorem dX8_isForm_87 : decode cX8_isForm 87 = .ok (.goto 4, 3) := by decide +kernel
theorem dX8_isForm_90 : decode cX8_isForm 90 = .ok (.iconst 0, 1) := by decide +kernel
theorem dX8_isForm_91 : decode cX8_isForm 91 = .ok (.istore_n 2, 1) := by decide +kernel
theorem dX8_isForm_92 : decode cX8_isForm 92 = .ok (.iinc 3 1, 3) := by decide +kernel
theorem dX8_isForm_95 : decode cX8_isForm 95 = .ok (.goto (-40), 3) := by decide +kernel
theorem dX8_isForm_98 : decode cX8_isForm 98 = .ok (.iload_n 2, 1) := by decide +kernel
theorem dX8_isForm_99 : decode cX8_isForm 99 = .ok (.ireturn, 1) := by decide +kernel
abbrev cX8_tell : ByteArray := prog_10_method_36_code
def yX8_tell : MethodName := ⟨RX8, "tell", "(I)V"⟩
def wkX8_tell : List Cond := .code yX8_tell cX8_tell 5 none :: qW
set_option maxRecDepth 40000 in
theorem gkX8_tell : GoodIn qW wkX8_tell := q_good (qw 817 rfl rfl)
set_option maxRecDepth 40000 in
theorem knX8_tell : Cond.instanceMethod yX8_tell ∈ qW := qw 816 rfl rfl
set_option maxRecDepth 40000 in
theorem klX8_tell : Cond.selects RX8 yX8_tell yX8_tell ∈ qW := qw 40 rfl rfl
theorem dX8_tell_0 : decode cX8_tell 0 = .ok (.bipush 8, 2) := by decide +kernel
theorem dX8_tell_2 : decode cX8_tell 2 = .ok (.aload_n 0, 1) := by decide +kernel
theorem dX8_tell_3 : decode cX8_tell 3 = .ok (.getfield 47, 3) := by decide +kernel
theorem dX8_tell_6 : decode cX8_tell 6 = .ok (.iload_n 1, 1) := by decide +kernel
theorem dX8_tell_7 : decode cX8_tell 7 = .ok (.iaload, 1) := by decide +kernel
theorem dX8_tell_8 : decode cX8_tell 8 = .ok (.imul, 1) := by decide +kernel
theorem dX8_tell_9 : decode cX8_tell 9 = .ok (.istore_n 2, 1) := by decide +kernel
theorem dX8_tell_10 : decode cX8_tell 10 = .ok (.aload_n 0, 1) := by decide +kernel
theorem dX8_tell_11 : decode cX8_tell 11 = .ok (.getfield 53, 3) := by decide +kernel
theorem dX8_tell_14 : decode cX8_tell 14 = .ok (.iconst 2, 1) := by decide +kernel
theorem dX8_tell_15 : decode cX8_tell 15 = .ok (.iload_n 1, 1) := by decide +kernel
theorem dX8_tell_16 : decode cX8_tell 16 = .ok (.imul, 1) := by decide +kernel
theorem dX8_tell_17 : decode cX8_tell 17 = .ok (.iaload, 1) := by decide +kernel
theorem dX8_tell_18 : decode cX8_tell 18 = .ok (.ifCond .ge 7, 3) := by decide +kernel
theorem dX8_tell_21 : decode cX8_tell 21 = .ok (.iconst 0, 1) := by decide +kernel
theorem dX8_tell_22 : decode cX8_tell 22 = .ok (.goto 18, 3) := by decide +kernel
theorem dX8_tell_25 : decode cX8_tell 25 = .ok (.aload_n 0, 1) := by decide +kernel
theorem dX8_tell_26 : decode cX8_tell 26 = .ok (.getfield 87, 3) := by decide +kernel
theorem dX8_tell_29 : decode cX8_tell 29 = .ok (.iload_n 2, 1) := by decide +kernel
theorem dX8_tell_30 : decode cX8_tell 30 = .ok (.aload_n 0, 1) := by decide +kernel
theorem dX8_tell_31 : decode cX8_tell 31 = .ok (.getfield 53, 3) := by decide +kernel
theorem dX8_tell_34 : decode cX8_tell 34 = .ok (.iconst 2, 1) := by decide +kernel
theorem dX8_tell_35 : decode cX8_tell 35 = .ok (.iload_n 1, 1) := by decide +kernel
theorem dX8_tell_36 : decode cX8_tell 36 = .ok (.imul, 1) := by decide +kernel
theorem dX8_tell_37 : decode cX8_tell 37 = .ok (.iaload, 1) := by decide +kernel
theorem dX8_tell_38 : decode cX8_tell 38 = .ok (.iadd, 1) := by decide +kernel
theorem dX8_tell_39 : decode cX8_tell 39 = .ok (.iaload, 1) := by decide +kernel
theorem dX8_tell_40 : decode cX8_tell 40 = .ok (.istore_n 3, 1) := by decide +kernel
theorem dX8_tell_41 : decode cX8_tell 41 = .ok (.aload_n 0, 1) := by decide +kernel
theorem dX8_tell_42 : decode cX8_tell 42 = .ok (.getfield 53, 3) := by decide +kernel
theorem dX8_tell_45 : decode cX8_tell 45 = .ok (.iconst 2, 1) := by decide +kernel
theorem dX8_tell_46 : decode cX8_tell 46 = .ok (.iload_n 1, 1) := by decide +kernel
theorem dX8_tell_47 : decode cX8_tell 47 = .ok (.imul, 1) := by decide +kernel
theorem dX8_tell_48 : decode cX8_tell 48 = .ok (.iconst 1, 1) := by decide +kernel
theorem dX8_tell_49 : decode cX8_tell 49 = .ok (.iadd, 1) := by decide +kernel
theorem dX8_tell_50 : decode cX8_tell 50 = .ok (.iaload, 1) := by decide +kernel
theorem dX8_tell_51 : decode cX8_tell 51 = .ok (.ifCond .ge 7, 3) := by decide +kernel
theorem dX8_tell_54 : decode cX8_tell 54 = .ok (.iconst 0, 1) := by decide +kernel
theorem dX8_tell_55 : decode cX8_tell 55 = .ok (.goto 20, 3) := by decide +kernel
theorem dX8_tell_58 : decode cX8_tell 58 = .ok (.aload_n 0, 1) := by decide +kernel
theorem dX8_tell_59 : decode cX8_tell 59 = .ok (.getfield 87, 3) := by decide +kernel
theorem dX8_tell_62 : decode cX8_tell 62 = .ok (.iload_n 2, 1) := by decide +kernel
theorem dX8_tell_63 : decode cX8_tell 63 = .ok (.aload_n 0, 1) := by decide +kernel
theorem dX8_tell_64 : decode cX8_tell 64 = .ok (.getfield 53, 3) := by decide +kernel
theorem dX8_tell_67 : decode cX8_tell 67 = .ok (.iconst 2, 1) := by decide +kernel
theorem dX8_tell_68 : decode cX8_tell 68 = .ok (.iload_n 1, 1) := by decide +kernel
theorem dX8_tell_69 : decode cX8_tell 69 = .ok (.imul, 1) := by decide +kernel
theorem dX8_tell_70 : decode cX8_tell 70 = .ok (.iconst 1, 1) := by decide +kernel
theorem dX8_tell_71 : decode cX8_tell 71 = .ok (.iadd, 1) := by decide +kernel
theorem dX8_tell_72 : decode cX8_tell 72 = .ok (.iaload, 1) := by decide +kernel
theorem dX8_tell_73 : decode cX8_tell 73 = .ok (.iadd, 1) := by decide +kernel
theorem dX8_tell_74 : decode cX8_tell 74 = .ok (.iaload, 1) := by decide +kernel
theorem dX8_tell_75 : decode cX8_tell 75 = .ok (.istore 4, 2) := by decide +kernel
theorem dX8_tell_77 : decode cX8_tell 77 = .ok (.iload_n 3, 1) := by decide +kernel
theorem dX8_tell_78 : decode cX8_tell 78 = .ok (.ifCond .lt 26, 3) := by decide +kernel
theorem dX8_tell_81 : decode cX8_tell 81 = .ok (.iload 4, 2) := by decide +kernel
theorem dX8_tell_83 : decode cX8_tell 83 = .ok (.ifCond .lt 21, 3) := by decide +kernel
theorem dX8_tell_86 : decode cX8_tell 86 = .ok (.aload_n 0, 1) := by decide +kernel
theorem dX8_tell_87 : decode cX8_tell 87 = .ok (.getfield 83, 3) := by decide +kernel
theorem dX8_tell_90 : decode cX8_tell 90 = .ok (.bipush 16, 2) := by decide +kernel
theorem dX8_tell_92 : decode cX8_tell 92 = .ok (.iload_n 3, 1) := by decide +kernel
theorem dX8_tell_93 : decode cX8_tell 93 = .ok (.imul, 1) := by decide +kernel
theorem dX8_tell_94 : decode cX8_tell 94 = .ok (.iload 4, 2) := by decide +kernel
theorem dX8_tell_96 : decode cX8_tell 96 = .ok (.iadd, 1) := by decide +kernel
theorem dX8_tell_97 : decode cX8_tell 97 = .ok (.iconst 1, 1) := by decide +kernel
theorem dX8_tell_98 : decode cX8_tell 98 = .ok (.bastore, 1) := by decide +kernel
theorem dX8_tell_99 : decode cX8_tell 99 = .ok (.aload_n 0, 1) := by decide +kernel
theorem dX8_tell_100 : decode cX8_tell 100 = .ok (.iconst 1, 1) := by decide +kernel
theorem dX8_tell_101 : decode cX8_tell 101 = .ok (.putfield 199, 3) := by decide +kernel
theorem dX8_tell_104 : decode cX8_tell 104 = .ok (.return_, 1) := by decide +kernel
abbrev cX8_fits : ByteArray := prog_10_method_28_code
def yX8_fits : MethodName := ⟨RX8, "fits", "(II)Z"⟩
def wkX8_fits : List Cond := .code yX8_fits cX8_fits 7 (some .boolean) :: qW
set_option maxRecDepth 40000 in
theorem gkX8_fits : GoodIn qW wkX8_fits := q_good (qw 781 rfl rfl)
set_option maxRecDepth 40000 in
theorem knX8_fits : Cond.instanceMethod yX8_fits ∈ qW := qw 780 rfl rfl
set_option maxRecDepth 40000 in
theorem klX8_fits : Cond.selects RX8 yX8_fits yX8_fits ∈ qW := qw 33 rfl rfl
theorem dX8_fits_0 : decode cX8_fits 0 = .ok (.aload_n 0, 1) := by decide +kernel
theorem dX8_fits_1 : decode cX8_fits 1 = .ok (.getfield 13, 3) := by decide +kernel
theorem dX8_fits_4 : decode cX8_fits 4 = .ok (.iload_n 2, 1) := by decide +kernel
theorem dX8_fits_5 : decode cX8_fits 5 = .ok (.iaload, 1) := by decide +kernel
theorem dX8_fits_6 : decode cX8_fits 6 = .ok (.istore_n 3, 1) := by decide +kernel
theorem dX8_fits_7 : decode cX8_fits 7 = .ok (.aload_n 0, 1) := by decide +kernel
theorem dX8_fits_8 : decode cX8_fits 8 = .ok (.getfield 16, 3) := by decide +kernel
theorem dX8_fits_11 : decode cX8_fits 11 = .ok (.iload_n 2, 1) := by decide +kernel
theorem dX8_fits_12 : decode cX8_fits 12 = .ok (.iaload, 1) := by decide +kernel
theorem dX8_fits_13 : decode cX8_fits 13 = .ok (.istore 4, 2) := by decide +kernel
theorem dX8_fits_15 : decode cX8_fits 15 = .ok (.aload_n 0, 1) := by decide +kernel
theorem dX8_fits_16 : decode cX8_fits 16 = .ok (.getfield 7, 3) := by decide +kernel
theorem dX8_fits_19 : decode cX8_fits 19 = .ok (.iload_n 2, 1) := by decide +kernel
theorem dX8_fits_20 : decode cX8_fits 20 = .ok (.iaload, 1) := by decide +kernel
theorem dX8_fits_21 : decode cX8_fits 21 = .ok (.iconst 1, 1) := by decide +kernel
theorem dX8_fits_22 : decode cX8_fits 22 = .ok (.if_icmp .ne 97, 3) := by decide +kernel
theorem dX8_fits_25 : decode cX8_fits 25 = .ok (.aload_n 0, 1) := by decide +kernel
theorem dX8_fits_26 : decode cX8_fits 26 = .ok (.getfield 56, 3) := by decide +kernel
theorem dX8_fits_29 : decode cX8_fits 29 = .ok (.iload_n 1, 1) := by decide +kernel
theorem dX8_fits_30 : decode cX8_fits 30 = .ok (.iaload, 1) := by decide +kernel
theorem dX8_fits_31 : decode cX8_fits 31 = .ok (.bipush 32, 2) := by decide +kernel
theorem dX8_fits_33 : decode cX8_fits 33 = .ok (.iload 4, 2) := by decide +kernel
theorem dX8_fits_35 : decode cX8_fits 35 = .ok (.iconst 2, 1) := by decide +kernel
theorem dX8_fits_36 : decode cX8_fits 36 = .ok (.idiv, 1) := by decide +kernel
theorem dX8_fits_37 : decode cX8_fits 37 = .ok (.iadd, 1) := by decide +kernel
theorem dX8_fits_38 : decode cX8_fits 38 = .ok (.if_icmp .eq 5, 3) := by decide +kernel
theorem dX8_fits_41 : decode cX8_fits 41 = .ok (.iconst 0, 1) := by decide +kernel
theorem dX8_fits_42 : decode cX8_fits 42 = .ok (.ireturn, 1) := by decide +kernel
theorem dX8_fits_43 : decode cX8_fits 43 = .ok (.aload_n 0, 1) := by decide +kernel
theorem dX8_fits_44 : decode cX8_fits 44 = .ok (.getfield 59, 3) := by decide +kernel
theorem dX8_fits_47 : decode cX8_fits 47 = .ok (.iload_n 1, 1) := by decide +kernel
theorem dX8_fits_48 : decode cX8_fits 48 = .ok (.iaload, 1) := by decide +kernel
theorem dX8_fits_49 : decode cX8_fits 49 = .ok (.istore 5, 2) := by decide +kernel
theorem dX8_fits_51 : decode cX8_fits 51 = .ok (.aload_n 0, 1) := by decide +kernel
theorem dX8_fits_52 : decode cX8_fits 52 = .ok (.getfield 62, 3) := by decide +kernel
theorem dX8_fits_55 : decode cX8_fits 55 = .ok (.iload_n 1, 1) := by decide +kernel
theorem dX8_fits_56 : decode cX8_fits 56 = .ok (.iaload, 1) := by decide +kernel
theorem dX8_fits_57 : decode cX8_fits 57 = .ok (.istore 6, 2) := by decide +kernel
theorem dX8_fits_59 : decode cX8_fits 59 = .ok (.aload_n 0, 1) := by decide +kernel
theorem dX8_fits_60 : decode cX8_fits 60 = .ok (.getfield 56, 3) := by decide +kernel
theorem dX8_fits_63 : decode cX8_fits 63 = .ok (.iload_n 1, 1) := by decide +kernel
theorem dX8_fits_64 : decode cX8_fits 64 = .ok (.bipush 32, 2) := by decide +kernel
theorem dX8_fits_66 : decode cX8_fits 66 = .ok (.iload_n 3, 1) := by decide +kernel
theorem dX8_fits_67 : decode cX8_fits 67 = .ok (.iconst 2, 1) := by decide +kernel
theorem dX8_fits_68 : decode cX8_fits 68 = .ok (.idiv, 1) := by decide +kernel
theorem dX8_fits_69 : decode cX8_fits 69 = .ok (.iadd, 1) := by decide +kernel
theorem dX8_fits_70 : decode cX8_fits 70 = .ok (.iastore, 1) := by decide +kernel
theorem dX8_fits_71 : decode cX8_fits 71 = .ok (.aload_n 0, 1) := by decide +kernel
theorem dX8_fits_72 : decode cX8_fits 72 = .ok (.getfield 59, 3) := by decide +kernel
theorem dX8_fits_75 : decode cX8_fits 75 = .ok (.iload_n 1, 1) := by decide +kernel
theorem dX8_fits_76 : decode cX8_fits 76 = .ok (.iload_n 3, 1) := by decide +kernel
theorem dX8_fits_77 : decode cX8_fits 77 = .ok (.iconst 2, 1) := by decide +kernel
theorem dX8_fits_78 : decode cX8_fits 78 = .ok (.irem, 1) := by decide +kernel
theorem dX8_fits_79 : decode cX8_fits 79 = .ok (.iload 4, 2) := by decide +kernel
theorem dX8_fits_81 : decode cX8_fits 81 = .ok (.iconst 2, 1) := by decide +kernel
theorem dX8_fits_82 : decode cX8_fits 82 = .ok (.irem, 1) := by decide +kernel
theorem dX8_fits_83 : decode cX8_fits 83 = .ok (.if_icmp .ne 8, 3) := by decide +kernel
theorem dX8_fits_86 : decode cX8_fits 86 = .ok (.iload 5, 2) := by decide +kernel
theorem dX8_fits_88 : decode cX8_fits 88 = .ok (.goto 5, 3) := by decide +kernel
theorem dX8_fits_91 : decode cX8_fits 91 = .ok (.iload 6, 2) := by decide +kernel
theorem dX8_fits_93 : decode cX8_fits 93 = .ok (.iastore, 1) := by decide +kernel
theorem dX8_fits_94 : decode cX8_fits 94 = .ok (.aload_n 0, 1) := by decide +kernel
theorem dX8_fits_95 : decode cX8_fits 95 = .ok (.getfield 62, 3) := by decide +kernel
theorem dX8_fits_98 : decode cX8_fits 98 = .ok (.iload_n 1, 1) := by decide +kernel
theorem dX8_fits_99 : decode cX8_fits 99 = .ok (.iload_n 3, 1) := by decide +kernel
theorem dX8_fits_100 : decode cX8_fits 100 = .ok (.iconst 2, 1) := by decide +kernel
theorem dX8_fits_101 : decode cX8_fits 101 = .ok (.irem, 1) := by decide +kernel
theorem dX8_fits_102 : decode cX8_fits 102 = .ok (.iload 4, 2) := by decide +kernel
theorem dX8_fits_104 : decode cX8_fits 104 = .ok (.iconst 2, 1) := by decide +kernel
theorem dX8_fits_105 : decode cX8_fits 105 = .ok (.irem, 1) := by decide +kernel
theorem dX8_fits_106 : decode cX8_fits 106 = .ok (.if_icmp .ne 8, 3) := by decide +kernel
theorem dX8_fits_109 : decode cX8_fits 109 = .ok (.iload 6, 2) := by decide +kernel
theorem dX8_fits_111 : decode cX8_fits 111 = .ok (.goto 5, 3) := by decide +kernel
theorem dX8_fits_114 : decode cX8_fits 114 = .ok (.iload 5, 2) := by decide +kernel
theorem dX8_fits_116 : decode cX8_fits 116 = .ok (.iastore, 1) := by decide +kernel
theorem dX8_fits_117 : decode cX8_fits 117 = .ok (.iconst 1, 1) := by decide +kernel
theorem dX8_fits_118 : decode cX8_fits 118 = .ok (.ireturn, 1) := by decide +kernel
theorem dX8_fits_119 : decode cX8_fits 119 = .ok (.aload_n 0, 1) := by decide +kernel
theorem dX8_fits_120 : decode cX8_fits 120 = .ok (.getfield 7, 3) := by decide +kernel
theorem dX8_fits_123 : decode cX8_fits 123 = .ok (.iload_n 2, 1) := by decide +kernel
theorem dX8_fits_124 : decode cX8_fits 124 = .ok (.iaload, 1) := by decide +kernel
theorem dX8_fits_125 : decode cX8_fits 125 = .ok (.ifCond .eq 5, 3) := by decide +kernel
theorem dX8_fits_128 : decode cX8_fits 128 = .ok (.iconst 0, 1) := by decide +kernel
theorem dX8_fits_129 : decode cX8_fits 129 = .ok (.ireturn, 1) := by decide +kernel
theorem dX8_fits_130 : decode cX8_fits 130 = .ok (.iload 4, 2) := by decide +kernel
theorem dX8_fits_132 : decode cX8_fits 132 = .ok (.bipush 10, 2) := by decide +kernel
theorem dX8_fits_134 : decode cX8_fits 134 = .ok (.if_icmp .ge 22, 3) := by decide +kernel
theorem dX8_fits_137 : decode cX8_fits 137 = .ok (.aload_n 0, 1) := by decide +kernel
theorem dX8_fits_138 : decode cX8_fits 138 = .ok (.getfield 56, 3) := by decide +kernel
theorem dX8_fits_141 : decode cX8_fits 141 = .ok (.iload_n 1, 1) := by decide +kernel
theorem dX8_fits_142 : decode cX8_fits 142 = .ok (.iaload, 1) := by decide +kernel
theorem dX8_fits_143 : decode cX8_fits 143 = .ok (.iload 4, 2) := by decide +kernel
theorem dX8_fits_145 : decode cX8_fits 145 = .ok (.if_icmp .ne 7, 3) := by decide +kernel
theorem dX8_fits_148 : decode cX8_fits 148 = .ok (.iconst 1, 1) := by decide +kernel
theorem dX8_fits_149 : decode cX8_fits 149 = .ok (.goto 58, 3) := by decide +kernel
theorem dX8_fits_152 : decode cX8_fits 152 = .ok (.iconst 0, 1) := by decide +kernel
theorem dX8_fits_153 : decode cX8_fits 153 = .ok (.goto 54, 3) := by decide +kernel
theorem dX8_fits_156 : decode cX8_fits 156 = .ok (.aload_n 0, 1) := by decide +kernel
theorem dX8_fits_157 : decode cX8_fits 157 = .ok (.getfield 56, 3) := by decide +kernel
theorem dX8_fits_160 : decode cX8_fits 160 = .ok (.iload_n 1, 1) := by decide +kernel
theorem dX8_fits_161 : decode cX8_fits 161 = .ok (.iaload, 1) := by decide +kernel
theorem dX8_fits_162 : decode cX8_fits 162 = .ok (.bipush 32, 2) := by decide +kernel
theorem dX8_fits_164 : decode cX8_fits 164 = .ok (.iload 4, 2) := by decide +kernel
theorem dX8_fits_166 : decode cX8_fits 166 = .ok (.bipush 20, 2) := by decide +kernel
theorem dX8_fits_168 : decode cX8_fits 168 = .ok (.isub, 1) := by decide +kernel
theorem dX8_fits_169 : decode cX8_fits 169 = .ok (.iconst 2, 1) := by decide +kernel
theorem dX8_fits_170 : decode cX8_fits 170 = .ok (.idiv, 1) := by decide +kernel
theorem dX8_fits_171 : decode cX8_fits 171 = .ok (.iadd, 1) := by decide +kernel
theorem dX8_fits_172 : decode cX8_fits 172 = .ok (.if_icmp .ne 34, 3) := by decide +kernel
theorem dX8_fits_175 : decode cX8_fits 175 = .ok (.iload 4, 2) := by decide +kernel
theorem dX8_fits_177 : decode cX8_fits 177 = .ok (.iconst 2, 1) := by decide +kernel
theorem dX8_fits_178 : decode cX8_fits 178 = .ok (.irem, 1) := by decide +kernel
theorem dX8_fits_179 : decode cX8_fits 179 = .ok (.ifCond .ne 12, 3) := by decide +kernel
theorem dX8_fits_182 : decode cX8_fits 182 = .ok (.aload_n 0, 1) := by decide +kernel
theorem dX8_fits_183 : decode cX8_fits 183 = .ok (.getfield 62, 3) := by decide +kernel
theorem dX8_fits_186 : decode cX8_fits 186 = .ok (.iload_n 1, 1) := by decide +kernel
theorem dX8_fits_187 : decode cX8_fits 187 = .ok (.iaload, 1) := by decide +kernel
theorem dX8_fits_188 : decode cX8_fits 188 = .ok (.goto 9, 3) := by decide +kernel
theorem dX8_fits_191 : decode cX8_fits 191 = .ok (.aload_n 0, 1) := by decide +kernel
theorem dX8_fits_192 : decode cX8_fits 192 = .ok (.getfield 59, 3) := by decide +kernel
theorem dX8_fits_195 : decode cX8_fits 195 = .ok (.iload_n 1, 1) := by decide +kernel
theorem dX8_fits_196 : decode cX8_fits 196 = .ok (.iaload, 1) := by decide +kernel
theorem dX8_fits_197 : decode cX8_fits 197 = .ok (.bipush 6, 2) := by decide +kernel
theorem dX8_fits_199 : decode cX8_fits 199 = .ok (.if_icmp .ne 7, 3) := by decide +kernel
theorem dX8_fits_202 : decode cX8_fits 202 = .ok (.iconst 1, 1) := by decide +kernel
theorem dX8_fits_203 : decode cX8_fits 203 = .ok (.goto 4, 3) := by decide +kernel
theorem dX8_fits_206 : decode cX8_fits 206 = .ok (.iconst 0, 1) := by decide +kernel
theorem dX8_fits_207 : decode cX8_fits 207 = .ok (.istore 5, 2) := by decide +kernel
theorem dX8_fits_209 : decode cX8_fits 209 = .ok (.iload 5, 2) := by decide +kernel
theorem dX8_fits_211 : decode cX8_fits 211 = .ok (.ifCond .eq 38, 3) := by decide +kernel
theorem dX8_fits_214 : decode cX8_fits 214 = .ok (.aload_n 0, 1) := by decide +kernel
theorem dX8_fits_215 : decode cX8_fits 215 = .ok (.iload_n 1, 1) := by decide +kernel
theorem dX8_fits_216 : decode cX8_fits 216 = .ok (.iload_n 3, 1) := by decide +kernel
theorem dX8_fits_217 : decode cX8_fits 217 = .ok (.iload 4, 2) := by decide +kernel
theorem dX8_fits_219 : decode cX8_fits 219 = .ok (.bipush 10, 2) := by decide +kernel
theorem dX8_fits_221 : decode cX8_fits 221 = .ok (.if_icmp .lt 10, 3) := by decide +kernel
theorem dX8_fits_224 : decode cX8_fits 224 = .ok (.iload 4, 2) := by decide +kernel
theorem dX8_fits_226 : decode cX8_fits 226 = .ok (.iconst 2, 1) := by decide +kernel
theorem dX8_fits_227 : decode cX8_fits 227 = .ok (.irem, 1) := by decide +kernel
theorem dX8_fits_228 : decode cX8_fits 228 = .ok (.ifCond .ne 12, 3) := by decide +kernel
theorem dX8_fits_231 : decode cX8_fits 231 = .ok (.aload_n 0, 1) := by decide +kernel
theorem dX8_fits_232 : decode cX8_fits 232 = .ok (.getfield 59, 3) := by decide +kernel
theorem dX8_fits_235 : decode cX8_fits 235 = .ok (.iload_n 1, 1) := by decide +kernel
theorem dX8_fits_236 : decode cX8_fits 236 = .ok (.iaload, 1) := by decide +kernel
theorem dX8_fits_237 : decode cX8_fits 237 = .ok (.goto 9, 3) := by decide +kernel
theorem dX8_fits_240 : decode cX8_fits 240 = .ok (.aload_n 0, 1) := by decide +kernel
theorem dX8_fits_241 : decode cX8_fits 241 = .ok (.getfield 62, 3) := by decide +kernel
theorem dX8_fits_244 : decode cX8_fits 244 = .ok (.iload_n 1, 1) := by decide +kernel
theorem dX8_fits_245 : decode cX8_fits 245 = .ok (.iaload, 1) := by decide +kernel
theorem dX8_fits_246 : decode cX8_fits 246 = .ok (.invokevirtual 172, 3) := by decide +kernel
theorem dX8_fits_249 : decode cX8_fits 249 = .ok (.iload 5, 2) := by decide +kernel
theorem dX8_fits_251 : decode cX8_fits 251 = .ok (.ireturn, 1) := by decide +kernel
set_option maxRecDepth 40000 in
theorem kfX8_71 : Cond.fieldLink RX8 71 "QlRewriteModel" "least" "[I" ∈ qW := qw 597 rfl rfl
set_option maxRecDepth 40000 in
theorem kmX8_156 : Cond.methodLink RX8 156 yX8_headName ∈ qW := qw 770 rfl rfl
set_option maxRecDepth 40000 in
theorem kfX8_87 : Cond.fieldLink RX8 87 "QlRewriteModel" "bound" "[I" ∈ qW := qw 603 rfl rfl
set_option maxRecDepth 40000 in
theorem kfX8_13 : Cond.fieldLink RX8 13 "QlRewriteModel" "firsts" "[I" ∈ qW := qw 572 rfl rfl
set_option maxRecDepth 40000 in
theorem kfX8_16 : Cond.fieldLink RX8 16 "QlRewriteModel" "seconds" "[I" ∈ qW := qw 573 rfl rfl
set_option maxRecDepth 40000 in
theorem kfX8_7 : Cond.fieldLink RX8 7 "QlRewriteModel" "kinds" "[I" ∈ qW := qw 571 rfl rfl
set_option maxRecDepth 40000 in
theorem kmX8_172 : Cond.methodLink RX8 172 yX8_sortAt ∈ qW := qw 782 rfl rfl
abbrev rm_c_Model_isForm : Room := { frames := 1, cells := 0, slots := 0, locals := 21 }
set_option maxHeartbeats 4000000 in
set_option maxRecDepth 100000 in
theorem c_Model_isForm (l : Launch) (dC : Nat → ClassId) (dI : Nat → Nat → Nat) (cI cL cQ cZ : ClassId) (x0 : Nat) (ax : Nat) (z1 : Nat) (z2 : Nat) (z3 : Nat) (fc : Nat) (z5 : Nat) (z6 : Nat) (z7 : Nat) (qs : Nat) (z9 : Nat) (z10 : Nat) (z11 : Nat) (z12 : Nat) (z13 : Nat) (hd : Option Nat) (lg : Bool) (fcn : Nat) (z17 : Nat) (z18 : Nat) (z19 : Nat) (md : Nat) (z21 : Nat) (z22 : Nat) (z23 : Nat) (z24 : Nat) (hc : Nat) (z26 : Nat) (z27 : Nat) (z28 : Nat) (z29 : Nat) (z30 : Nat) (z31 : Nat) (sm : Bool) (z33 : Nat) (z34 : Nat) (zs : Nat → Nat) (cs : Nat → Nat) (hs : Nat → Option Nat) (he : Nat → Option Nat) (le : Nat → Nat) (f : Nat) (hf : f < 90) (hmd : md ≤ 4) (hzs : ∀ j, zs j ≤ 4) (hcs : ∀ j, cs j < 8192) (hle : ∀ j, le j < 8192) (hhs : ∀ j k, hs j = some k → k < 2) (hhc : hc ≤ 2) (hhe : m_hok he hc) : Met l yX8_isForm wkX8_isForm rm_c_Model_isForm (q_R (dC, dI) qCl (qT cI cL cQ cZ) [(x0, .inr (8, mO ax z1 z2 z3 fc z5 z6 z7 qs z9 z10 z11 z12 z13 hd lg fcn z17 z18 z19 md z21 z22 z23 z24 hc z26 z27 z28 z29 z30 z31 sm z33 z34)), (z17, .inl (cI, 90, .inl (nF zs))), (z18, .inl (cI, 360, .inl (nF cs))), (z19, .inl (cI, 180, .inl (oF hs))), (z24, .inl (cI, 2, .inl (oF he))), (z27, .inl (cI, 4, .inl (nF le)))] [.ref x0, .int (nI (f))]) (vp_Si (fun r => ∃ b9 : Bool, r = bI b9 ∧ (b9 = true ↔ m_hsame zs hs (m_h he) md hc f ∧ m_csame cs le f md))) 0 0 (fun _ => False) := by
  refine Met.ofW (cc := cX8_isForm) (maxL := 4) (ret := (some .boolean)) (by decide) rfl ?_
  intro p e s m args below meth c s₁ B hml hv
  obtain ⟨hargs, hP, hK⟩ := hv
  have hx := B.exec
  have hb := B.bytes
  have hr := B.returns
  have hts : ∀ w ∈ qW, w.before args s = true := fun w h => atoms_spec (ws := wkX8_isForm) B.pre w (List.mem_cons_of_mem _ h)
  have hown : s.vm.findClass RX8 = some m.cls := findClass_of_methodNamed B.named
  have hlocks := B.notSynchronized
  refine q_named (fun Q hQ => ?_)
  refine q_entry hargs (Nat.le_of_ble_eq_true rfl) (fun ls hl => ?_)
  have hl : lv_has ls 4 [(0, .ref x0), (1, .int (nI (f)))] := hl
  have L52 : ∀ (b0 : Bool) (ls : Array Slot), (b0 = true ↔ m_hsame zs hs (m_h he) md hc f) → lv_has ls 4 [(0, .ref x0), (1, .int (nI (f)))] → W p l e (headSpec wkX8_isForm rm_c_Model_isForm).room s m args below meth c s.heap [] 0 0 Q (F0 m 52 ls [.int (bI (b0))]) := by
    intro b0 ls hb0 hl
    refine lv_istore_n (lv' := [(2, .int (bI (b0))), (0, .ref x0), (1, .int (nI (f)))]) hx hb dX8_isForm_52 rfl hl (by decide) rfl (fun ls hl => ?_)
    refine lv_iconst (v := (nI (0))) hx hb dX8_isForm_53 (by decide) ?_
    refine lv_istore_n (lv' := [(3, .int (nI (0))), (2, .int (bI (b0))), (0, .ref x0), (1, .int (nI (f)))]) hx hb dX8_isForm_54 rfl hl (by decide) rfl (fun ls hl => ?_)
    have L55 : ∀ (fu : Nat) (sm9 : Bool) (i : Nat) (ls : Array Slot), md - i < fu → (i ≤ md) → (sm9 = true ↔ m_hsame zs hs (m_h he) md hc f ∧ m_csame cs le f i) → lv_has ls 4 [(3, .int (nI (i))), (2, .int (bI (sm9))), (0, .ref x0), (1, .int (nI (f)))] → W p l e (headSpec wkX8_isForm rm_c_Model_isForm).room s m args below meth c s.heap [] 0 0 Q (F0 m 55 ls []) := by
      intro fu
      induction fu with
      | zero => intro sm9 i ls hmu; exact absurd hmu (Nat.not_lt_zero _)
      | succ fu ih55 =>
        intro sm9 i ls hmu hi hs9 hl
        refine lv_iload_n hx hb dX8_isForm_55 rfl (lv_at hl 0 rfl) ?_
        refine lv_aload_n hx hb dX8_isForm_56 rfl (lv_at hl 2 rfl) ?_
        refine va_get (D := (dC, dI)) (ci := 8) (v := .int (nI (md))) (C := RX8) (T := TX8) (N := 35) hx hb hts uX8 hown hK hP 0 rfl rfl 20 (by decide) (hts _ kfX8_121) (fun _ h9 => h9) rfl dX8_isForm_57 ?_
        refine q_icmp_ge (x := i) (y := md) (tgt := 98) hx hb dX8_isForm_60 (by decide) (by omega) (by omega) (fun c60_1 => ?_) (fun c60_1 => ?_)
        · refine lv_iload_n hx hb dX8_isForm_98 rfl (lv_at hl 1 rfl) ?_
          subst hQ
          exact W.zret (v := (bI (sm9))) hx hb hr (bI_nar _) (fun t9 h9 _ => ⟨_, rfl, show ∃ b9 : Bool, (bI (sm9)) = bI b9 ∧ (b9 = true ↔ m_hsame zs hs (m_h he) md hc f ∧ m_csame cs le f md) from by (first | (exact ⟨sm9, rfl, hs9.trans (by rw [show i = md by omega])⟩) | (exact ⟨sm9, rfl, ⟨fun h => b_no h (by assumption), fun h => hs9.mpr ⟨h.1, fun k hk => h.2 k (by omega)⟩⟩⟩)), h9⟩) (fun q hq => by cases hq) dX8_isForm_99
        · refine lv_iload_n hx hb dX8_isForm_63 rfl (lv_at hl 1 rfl) ?_
          refine q_ifb_eq (b := sm9) (tgt := 98) hx hb dX8_isForm_64 (by decide) (fun c64_2 => ?_) (fun c64_2 => ?_)
          · refine lv_iload_n hx hb dX8_isForm_98 rfl (lv_at hl 1 rfl) ?_
            subst hQ
            exact W.zret (v := (bI (sm9))) hx hb hr (bI_nar _) (fun t9 h9 _ => ⟨_, rfl, show ∃ b9 : Bool, (bI (sm9)) = bI b9 ∧ (b9 = true ↔ m_hsame zs hs (m_h he) md hc f ∧ m_csame cs le f md) from by (first | (exact ⟨sm9, rfl, hs9.trans (by rw [show i = md by omega])⟩) | (exact ⟨sm9, rfl, ⟨fun h => b_no h (by assumption), fun h => hs9.mpr ⟨h.1, fun k hk => h.2 k (by omega)⟩⟩⟩)), h9⟩) (fun q hq => by cases hq) dX8_isForm_99
          · refine lv_aload_n hx hb dX8_isForm_67 rfl (lv_at hl 2 rfl) ?_
            refine va_get (D := (dC, dI)) (ci := 8) (v := .ref z18) (C := RX8) (T := TX8) (N := 35) hx hb hts uX8 hown hK hP 0 rfl rfl 18 (by decide) (hts _ kfX8_50) (fun _ h9 => h9) rfl dX8_isForm_68 ?_
            refine lv_iconst (v := (nI (4))) hx hb dX8_isForm_71 (by decide) ?_
            refine lv_iload_n hx hb dX8_isForm_72 rfl (lv_at hl 3 rfl) ?_
            refine q_imul (x := 4) (y := f) hx hb dX8_isForm_73 ?_
            refine lv_iload_n hx hb dX8_isForm_74 rfl (lv_at hl 0 rfl) ?_
            refine q_iadd (x := 4 * f) (y := i) hx hb dX8_isForm_75 ?_
            refine q_ialdN hx hb hK hP 2 0 rfl rfl (j := (4 * f) + i) (by omega) (by omega) dX8_isForm_76 ?_
            have bd3 := hcs ((4 * f) + i)
            refine lv_aload_n hx hb dX8_isForm_77 rfl (lv_at hl 2 rfl) ?_
            refine va_get (D := (dC, dI)) (ci := 8) (v := .ref z27) (C := RX8) (T := TX8) (N := 35) hx hb hts uX8 hown hK hP 0 rfl rfl 27 (by decide) (hts _ kfX8_71) (fun _ h9 => h9) rfl dX8_isForm_78 ?_
            refine lv_iload_n hx hb dX8_isForm_81 rfl (lv_at hl 0 rfl) ?_
            refine q_ialdN hx hb hK hP 5 0 rfl rfl (j := i) (by omega) (by omega) dX8_isForm_82 ?_
            have bd4 := hle i
            refine q_icmp_ne (x := cs ((4 * f) + i)) (y := le i) (tgt := 90) hx hb dX8_isForm_83 (by decide) (by omega) (by omega) (fun c83_5 => ?_) (fun c83_5 => ?_)
            · refine lv_iconst (v := (nI (0))) hx hb dX8_isForm_90 (by decide) ?_
              refine lv_istore_n (lv' := [(2, .int (nI (0))), (3, .int (nI (i))), (0, .ref x0), (1, .int (nI (f)))]) hx hb dX8_isForm_91 rfl hl (by decide) rfl (fun ls hl => ?_)
              refine lv_iinc (v := (nI (i + 1))) (lv' := [(3, .int (nI (i + 1))), (2, .int (nI (0))), (0, .ref x0), (1, .int (nI (f)))]) hx hb dX8_isForm_92 hl (k := 1) rfl (q_inc _) (by decide) rfl (fun ls hl => ?_)
              refine lv_goto (tgt := 55) hx hb dX8_isForm_95 (by decide) ?_
              exact ih55 false (i + 1) ls (by omega) (show (i + 1) ≤ md from by omega) (show false = true ↔ m_hsame zs hs (m_h he) md hc f ∧ m_csame cs le f (i + 1) from by (rw [m_csame_s]; first | (exact ⟨fun _ => ⟨(hs9.mp (by assumption)).1, (hs9.mp (by assumption)).2, by assumption⟩, fun _ => rfl⟩) | (exact ⟨fun h => (by cases h), fun h9 => absurd h9.2.2 (by assumption)⟩))) (lv_sub hl [0, 1, 2, 3] rfl)
            · refine lv_iconst (v := (nI (1))) hx hb dX8_isForm_86 (by decide) ?_
              refine lv_goto (tgt := 91) hx hb dX8_isForm_87 (by decide) ?_
              refine lv_istore_n (lv' := [(2, .int (nI (1))), (3, .int (nI (i))), (0, .ref x0), (1, .int (nI (f)))]) hx hb dX8_isForm_91 rfl hl (by decide) rfl (fun ls hl => ?_)
              refine lv_iinc (v := (nI (i + 1))) (lv' := [(3, .int (nI (i + 1))), (2, .int (nI (1))), (0, .ref x0), (1, .int (nI (f)))]) hx hb dX8_isForm_92 hl (k := 1) rfl (q_inc _) (by decide) rfl (fun ls hl => ?_)
              refine lv_goto (tgt := 55) hx hb dX8_isForm_95 (by decide) ?_
              exact ih55 true (i + 1) ls (by omega) (show (i + 1) ≤ md from by omega) (show true = true ↔ m_hsame zs hs (m_h he) md hc f ∧ m_csame cs le f (i + 1) from by (rw [m_csame_s]; first | (exact ⟨fun _ => ⟨(hs9.mp (by assumption)).1, (hs9.mp (by assumption)).2, by assumption⟩, fun _ => rfl⟩) | (exact ⟨fun h => (by cases h), fun h9 => absurd h9.2.2 (by assumption)⟩))) (lv_sub hl [0, 1, 2, 3] rfl)
    exact L55 _ b0 0 ls (by exact Nat.lt_succ_self _) (show 0 ≤ md from by omega) (show b0 = true ↔ m_hsame zs hs (m_h he) md hc f ∧ m_csame cs le f 0 from by (rw [hb0]; exact ⟨fun h => ⟨h, fun k hk => (by omega)⟩, fun h => h.1⟩)) (lv_sub hl [0, 1, 2, 3] rfl)
  refine lv_aload_n hx hb dX8_isForm_0 rfl (lv_at hl 0 rfl) ?_
  refine va_get (D := (dC, dI)) (ci := 8) (v := .ref z17) (C := RX8) (T := TX8) (N := 35) hx hb hts uX8 hown hK hP 0 rfl rfl 17 (by decide) (hts _ kfX8_47) (fun _ h9 => h9) rfl dX8_isForm_1 ?_
  refine lv_iload_n hx hb dX8_isForm_4 rfl (lv_at hl 1 rfl) ?_
  refine q_ialdN hx hb hK hP 1 0 rfl rfl (j := f) (by omega) (by omega) dX8_isForm_5 ?_
  have bd6 := hzs f
  refine lv_aload_n hx hb dX8_isForm_6 rfl (lv_at hl 0 rfl) ?_
  refine va_get (D := (dC, dI)) (ci := 8) (v := .int (nI (md))) (C := RX8) (T := TX8) (N := 35) hx hb hts uX8 hown hK hP 0 rfl rfl 20 (by decide) (hts _ kfX8_121) (fun _ h9 => h9) rfl dX8_isForm_7 ?_
  refine q_icmp_ne (x := zs f) (y := md) (tgt := 51) hx hb dX8_isForm_10 (by decide) (by omega) (by omega) (fun c10_7 => ?_) (fun c10_7 => ?_)
  · refine lv_iconst (v := (nI (0))) hx hb dX8_isForm_51 (by decide) ?_
    exact L52 false ls (show false = true ↔ m_hsame zs hs (m_h he) md hc f from by (first | (exact ⟨fun h => (by cases h), fun h9 => absurd h9.1 (by assumption)⟩) | (exact ⟨fun h => (by cases h), fun h9 => absurd h9.2.1 (by assumption)⟩) | (exact ⟨fun h => (by cases h), fun h9 => absurd h9.2.2 (by assumption)⟩) | (exact ⟨fun _ => ⟨by assumption, by assumption, by assumption⟩, fun _ => rfl⟩))) (lv_sub hl [0, 1] rfl)
  · refine lv_aload_n hx hb dX8_isForm_13 rfl (lv_at hl 0 rfl) ?_
    refine va_get (D := (dC, dI)) (ci := 8) (v := .ref z19) (C := RX8) (T := TX8) (N := 35) hx hb hts uX8 hown hK hP 0 rfl rfl 19 (by decide) (hts _ kfX8_53) (fun _ h9 => h9) rfl dX8_isForm_14 ?_
    refine lv_iconst (v := (nI (2))) hx hb dX8_isForm_17 (by decide) ?_
    refine lv_iload_n hx hb dX8_isForm_18 rfl (lv_at hl 1 rfl) ?_
    refine q_imul (x := 2) (y := f) hx hb dX8_isForm_19 ?_
    refine q_ialdO hx hb hK hP 3 0 rfl rfl (j := 2 * f) (by omega) (by omega) dX8_isForm_20 ?_
    refine lv_aload_n hx hb dX8_isForm_21 rfl (lv_at hl 0 rfl) ?_
    refine lv_iconst (v := (nI (0))) hx hb dX8_isForm_22 (by decide) ?_
    refine vp_callSi (va_Run.run (va_runV (As := [.int (nI (0))]) (rest := [.int (oI (hs (2 * f)))]) ⟨hx, hb, hml, hown, hts⟩ (c_Model_headName l dC dI cI cL cQ cZ x0 ax z1 z2 z3 fc z5 z6 z7 qs z9 z10 z11 z12 z13 hd lg fcn z17 z18 z19 md z21 z22 z23 z24 hc z26 z27 z28 z29 z30 z31 sm z33 z34 he 0 (show hc ≤ 2 from by first | assumption | omega) (show 0 < 2 from by first | assumption | omega) (show m_hok he hc from by first | assumption | omega)) (q_cwV 1 hts gkX8_headName kmX8_156 knX8_headName klX8_headName kiX8 rfl rfl rfl (by decide +kernel) ⟨Nat.le_of_ble_eq_true rfl, Nat.le_of_ble_eq_true rfl⟩) (q_preV hK hP [0, 4] rfl 0 (ci := 8) (r := (RX8, TX8, 35)) rfl rfl) rfl rfl hl.1 rfl (lv_room (Nat.le_of_ble_eq_true rfl)) dX8_isForm_23 ⟨Nat.zero_le _, Nat.zero_le _⟩)) (fun r8 hr8 => ?_)
    subst hr8
    refine q_icmpOO_ne (x := hs (2 * f)) (y := m_hn (m_h he) hc 0) (tgt := 51) hx hb dX8_isForm_26 (by decide) (by (intro k9 h9; have := hhs _ _ h9; omega)) (by (exact m_hn_lt)) (fun c26_9 => ?_) (fun c26_9 => ?_)
    · refine lv_iconst (v := (nI (0))) hx hb dX8_isForm_51 (by decide) ?_
      exact L52 false ls (show false = true ↔ m_hsame zs hs (m_h he) md hc f from by (first | (exact ⟨fun h => (by cases h), fun h9 => absurd h9.1 (by assumption)⟩) | (exact ⟨fun h => (by cases h), fun h9 => absurd h9.2.1 (by assumption)⟩) | (exact ⟨fun h => (by cases h), fun h9 => absurd h9.2.2 (by assumption)⟩) | (exact ⟨fun _ => ⟨by assumption, by assumption, by assumption⟩, fun _ => rfl⟩))) (lv_sub hl [0, 1] rfl)
    · refine lv_aload_n hx hb dX8_isForm_29 rfl (lv_at hl 0 rfl) ?_
      refine va_get (D := (dC, dI)) (ci := 8) (v := .ref z19) (C := RX8) (T := TX8) (N := 35) hx hb hts uX8 hown hK hP 0 rfl rfl 19 (by decide) (hts _ kfX8_53) (fun _ h9 => h9) rfl dX8_isForm_30 ?_
      refine lv_iconst (v := (nI (2))) hx hb dX8_isForm_33 (by decide) ?_
      refine lv_iload_n hx hb dX8_isForm_34 rfl (lv_at hl 1 rfl) ?_
      refine q_imul (x := 2) (y := f) hx hb dX8_isForm_35 ?_
      refine lv_iconst (v := (nI (1))) hx hb dX8_isForm_36 (by decide) ?_
      refine q_iadd (x := 2 * f) (y := 1) hx hb dX8_isForm_37 ?_
      refine q_ialdO hx hb hK hP 3 0 rfl rfl (j := (2 * f) + 1) (by omega) (by omega) dX8_isForm_38 ?_
      refine lv_aload_n hx hb dX8_isForm_39 rfl (lv_at hl 0 rfl) ?_
      refine lv_iconst (v := (nI (1))) hx hb dX8_isForm_40 (by decide) ?_
      refine vp_callSi (va_Run.run (va_runV (As := [.int (nI (1))]) (rest := [.int (oI (hs ((2 * f) + 1)))]) ⟨hx, hb, hml, hown, hts⟩ (c_Model_headName l dC dI cI cL cQ cZ x0 ax z1 z2 z3 fc z5 z6 z7 qs z9 z10 z11 z12 z13 hd lg fcn z17 z18 z19 md z21 z22 z23 z24 hc z26 z27 z28 z29 z30 z31 sm z33 z34 he 1 (show hc ≤ 2 from by first | assumption | omega) (show 1 < 2 from by first | assumption | omega) (show m_hok he hc from by first | assumption | omega)) (q_cwV 1 hts gkX8_headName kmX8_156 knX8_headName klX8_headName kiX8 rfl rfl rfl (by decide +kernel) ⟨Nat.le_of_ble_eq_true rfl, Nat.le_of_ble_eq_true rfl⟩) (q_preV hK hP [0, 4] rfl 0 (ci := 8) (r := (RX8, TX8, 35)) rfl rfl) rfl rfl hl.1 rfl (lv_room (Nat.le_of_ble_eq_true rfl)) dX8_isForm_41 ⟨Nat.zero_le _, Nat.zero_le _⟩)) (fun r10 hr10 => ?_)
      subst hr10
      refine q_icmpOO_ne (x := hs ((2 * f) + 1)) (y := m_hn (m_h he) hc 1) (tgt := 51) hx hb dX8_isForm_44 (by decide) (by (intro k9 h9; have := hhs _ _ h9; omega)) (by (exact m_hn_lt)) (fun c44_11 => ?_) (fun c44_11 => ?_)
      · refine lv_iconst (v := (nI (0))) hx hb dX8_isForm_51 (by decide) ?_
        exact L52 false ls (show false = true ↔ m_hsame zs hs (m_h he) md hc f from by (first | (exact ⟨fun h => (by cases h), fun h9 => absurd h9.1 (by assumption)⟩) | (exact ⟨fun h => (by cases h), fun h9 => absurd h9.2.1 (by assumption)⟩) | (exact ⟨fun h => (by cases h), fun h9 => absurd h9.2.2 (by assumption)⟩) | (exact ⟨fun _ => ⟨by assumption, by assumption, by assumption⟩, fun _ => rfl⟩))) (lv_sub hl [0, 1] rfl)
      · refine lv_iconst (v := (nI (1))) hx hb dX8_isForm_47 (by decide) ?_
        refine lv_goto (tgt := 52) hx hb dX8_isForm_48 (by decide) ?_
        exact L52 true ls (show true = true ↔ m_hsame zs hs (m_h he) md hc f from by (first | (exact ⟨fun h => (by cases h), fun h9 => absurd h9.1 (by assumption)⟩) | (exact ⟨fun h => (by cases h), fun h9 => absurd h9.2.1 (by assumption)⟩) | (exact ⟨fun h => (by cases h), fun h9 => absurd h9.2.2 (by assumption)⟩) | (exact ⟨fun _ => ⟨by assumption, by assumption, by assumption⟩, fun _ => rfl⟩))) (lv_sub hl [0, 1] rfl)
abbrev rm_c_Model_tell : Room := { frames := 0, cells := 0, slots := 0, locals := 0 }
set_option maxHeartbeats 4000000 in
set_option maxRecDepth 100000 in
theorem c_Model_tell (l : Launch) (dC : Nat → ClassId) (dI : Nat → Nat → Nat) (cI cL cQ cZ : ClassId) (x0 : Nat) (ax : Nat) (z1 : Nat) (z2 : Nat) (z3 : Nat) (fc : Nat) (z5 : Nat) (z6 : Nat) (z7 : Nat) (qs : Nat) (z9 : Nat) (z10 : Nat) (z11 : Nat) (z12 : Nat) (z13 : Nat) (hd : Option Nat) (lg : Bool) (fcn : Nat) (z17 : Nat) (z18 : Nat) (z19 : Nat) (md : Nat) (z21 : Nat) (z22 : Nat) (z23 : Nat) (z24 : Nat) (hc : Nat) (z26 : Nat) (z27 : Nat) (z28 : Nat) (z29 : Nat) (z30 : Nat) (z31 : Nat) (sm : Bool) (z33 : Nat) (z34 : Nat) (zs : Nat → Nat) (hs : Nat → Option Nat) (bd : Nat → Option Nat) (fnd : Nat → Bool) (f : Nat) (hf : f < 90) (hzs : ∀ j, zs j ≤ 4) (hhs : ∀ j k, hs j = some k → k < 2) (hbd : ∀ j k, bd j = some k → k < 12) : Met l yX8_tell wkX8_tell rm_c_Model_tell (q_W (dC, dI) qCl (qT cI cL cQ cZ) [(x0, .inr (8, mO ax z1 z2 z3 fc z5 z6 z7 qs z9 z10 z11 z12 z13 hd lg fcn z17 z18 z19 md z21 z22 z23 z24 hc z26 z27 z28 z29 z30 z31 sm z33 z34)), (z17, .inl (cI, 90, .inl (nF zs))), (z19, .inl (cI, 180, .inl (oF hs))), (z33, .inl (cI, 40, .inl (oF bd))), (z31, .inl (cZ, 192, .inl (bF fnd)))] [.ref x0, .int (nI (f))]) (va_Qv (fun (u : (Nat → Bool) × Bool) => (m_tel (m_ans bd (8 * zs f) (hs (2 * f))) (m_ans bd (8 * zs f) (hs (2 * f + 1))) fnd sm u.1 u.2)) (fun (u : (Nat → Bool) × Bool) t => va_P (dC, dI) qCl [(x0, .inr (8, mO ax z1 z2 z3 fc z5 z6 z7 qs z9 z10 z11 z12 z13 hd lg fcn z17 z18 z19 md z21 z22 z23 z24 hc z26 z27 z28 z29 z30 z31 u.2 z33 z34)), (z17, .inl (cI, 90, .inl (nF zs))), (z19, .inl (cI, 180, .inl (oF hs))), (z33, .inl (cI, 40, .inl (oF bd))), (z31, .inl (cZ, 192, .inl (bF u.1)))] t.heap) (q_A [(x0, .inr (8, mO ax z1 z2 z3 fc z5 z6 z7 qs z9 z10 z11 z12 z13 hd lg fcn z17 z18 z19 md z21 z22 z23 z24 hc z26 z27 z28 z29 z30 z31 sm z33 z34)), (z17, .inl (cI, 90, .inl (nF zs))), (z19, .inl (cI, 180, .inl (oF hs))), (z33, .inl (cI, 40, .inl (oF bd))), (z31, .inl (cZ, 192, .inl (bF fnd)))])) 0 0 (q_A [(x0, .inr (8, mO ax z1 z2 z3 fc z5 z6 z7 qs z9 z10 z11 z12 z13 hd lg fcn z17 z18 z19 md z21 z22 z23 z24 hc z26 z27 z28 z29 z30 z31 sm z33 z34)), (z17, .inl (cI, 90, .inl (nF zs))), (z19, .inl (cI, 180, .inl (oF hs))), (z33, .inl (cI, 40, .inl (oF bd))), (z31, .inl (cZ, 192, .inl (bF fnd)))]) := by
  refine Met.ofW (cc := cX8_tell) (maxL := 5) (ret := none) (by decide) rfl ?_
  intro p e s m args below meth c s₁ B hml hv
  obtain ⟨hargs, hP, hK, hD0⟩ := hv
  have hx := B.exec
  have hb := B.bytes
  have hr := B.returns
  have hts : ∀ w ∈ qW, w.before args s = true := fun w h => atoms_spec (ws := wkX8_tell) B.pre w (List.mem_cons_of_mem _ h)
  have hown : s.vm.findClass RX8 = some m.cls := findClass_of_methodNamed B.named
  have hlocks := B.notSynchronized
  refine q_named (fun Q hQ => ?_)
  have hD : va_D (q_A [(x0, .inr (8, mO ax z1 z2 z3 fc z5 z6 z7 qs z9 z10 z11 z12 z13 hd lg fcn z17 z18 z19 md z21 z22 z23 z24 hc z26 z27 z28 z29 z30 z31 sm z33 z34)), (z17, .inl (cI, 90, .inl (nF zs))), (z19, .inl (cI, 180, .inl (oF hs))), (z33, .inl (cI, 40, .inl (oF bd))), (z31, .inl (cZ, 192, .inl (bF fnd)))]) [(x0, .inr (8, mO ax z1 z2 z3 fc z5 z6 z7 qs z9 z10 z11 z12 z13 hd lg fcn z17 z18 z19 md z21 z22 z23 z24 hc z26 z27 z28 z29 z30 z31 sm z33 z34)), (z17, .inl (cI, 90, .inl (nF zs))), (z19, .inl (cI, 180, .inl (oF hs))), (z33, .inl (cI, 40, .inl (oF bd))), (z31, .inl (cZ, 192, .inl (bF fnd)))] := ⟨hD0.1, fun k q h => ⟨k, q.2, h⟩⟩
  generalize hAe : q_A [(x0, .inr (8, mO ax z1 z2 z3 fc z5 z6 z7 qs z9 z10 z11 z12 z13 hd lg fcn z17 z18 z19 md z21 z22 z23 z24 hc z26 z27 z28 z29 z30 z31 sm z33 z34)), (z17, .inl (cI, 90, .inl (nF zs))), (z19, .inl (cI, 180, .inl (oF hs))), (z33, .inl (cI, 40, .inl (oF bd))), (z31, .inl (cZ, 192, .inl (bF fnd)))] = A at hD
  have hS : va_S A s.heap s.heap [] := va_S.rf
  refine q_entry hargs (Nat.le_of_ble_eq_true rfl) (fun ls hl => ?_)
  have hl : lv_has ls 5 [(0, .ref x0), (1, .int (nI (f)))] := hl
  obtain ⟨H, locs, eH, eL⟩ : ∃ (H : Heap) (locs : List Loc), s.heap = H ∧ ([] : List Loc) = locs := ⟨_, _, rfl, rfl⟩
  have hS : va_S A s.heap H locs := by rw [← eH, ← eL]; exact hS
  have hP : va_P (dC, dI) qCl [(x0, .inr (8, mO ax z1 z2 z3 fc z5 z6 z7 qs z9 z10 z11 z12 z13 hd lg fcn z17 z18 z19 md z21 z22 z23 z24 hc z26 z27 z28 z29 z30 z31 sm z33 z34)), (z17, .inl (cI, 90, .inl (nF zs))), (z19, .inl (cI, 180, .inl (oF hs))), (z33, .inl (cI, 40, .inl (oF bd))), (z31, .inl (cZ, 192, .inl (bF fnd)))] H := by rw [← eH]; exact hP
  refine W_at eH eL ?_
  refine lv_bipush (v := (nI (8))) hx hb dX8_tell_0 (by decide) ?_
  refine lv_aload_n hx hb dX8_tell_2 rfl (lv_at hl 0 rfl) ?_
  refine va_get (D := (dC, dI)) (ci := 8) (v := .ref z17) (C := RX8) (T := TX8) (N := 35) hx hb hts uX8 hown hK hP 0 rfl rfl 17 (by decide) (hts _ kfX8_47) (fun _ h9 => h9) rfl dX8_tell_3 ?_
  refine lv_iload_n hx hb dX8_tell_6 rfl (lv_at hl 1 rfl) ?_
  refine q_ialdN hx hb hK hP 1 0 rfl rfl (j := f) (by omega) (by omega) dX8_tell_7 ?_
  have bd1 := hzs f
  refine q_imul (x := 8) (y := zs f) hx hb dX8_tell_8 ?_
  refine lv_istore_n (lv' := [(2, .int (nI (8 * (zs f)))), (0, .ref x0), (1, .int (nI (f)))]) hx hb dX8_tell_9 rfl hl (by decide) rfl (fun ls hl => ?_)
  have L40 : ∀ (o1 : Option Nat) (ls : Array Slot) (H : Heap) (locs : List Loc), (o1 = m_ans bd (8 * zs f) (hs (2 * f))) → lv_has ls 5 [(2, .int (nI (8 * (zs f)))), (0, .ref x0), (1, .int (nI (f)))] → va_P (dC, dI) qCl [(x0, .inr (8, mO ax z1 z2 z3 fc z5 z6 z7 qs z9 z10 z11 z12 z13 hd lg fcn z17 z18 z19 md z21 z22 z23 z24 hc z26 z27 z28 z29 z30 z31 sm z33 z34)), (z17, .inl (cI, 90, .inl (nF zs))), (z19, .inl (cI, 180, .inl (oF hs))), (z33, .inl (cI, 40, .inl (oF bd))), (z31, .inl (cZ, 192, .inl (bF fnd)))] H → va_D A [(x0, .inr (8, mO ax z1 z2 z3 fc z5 z6 z7 qs z9 z10 z11 z12 z13 hd lg fcn z17 z18 z19 md z21 z22 z23 z24 hc z26 z27 z28 z29 z30 z31 sm z33 z34)), (z17, .inl (cI, 90, .inl (nF zs))), (z19, .inl (cI, 180, .inl (oF hs))), (z33, .inl (cI, 40, .inl (oF bd))), (z31, .inl (cZ, 192, .inl (bF fnd)))] → va_S A s.heap H locs → W p l e (headSpec wkX8_tell rm_c_Model_tell).room s m args below meth c H locs 0 0 Q (F0 m 40 ls [.int (oI (o1))]) := by
    intro o1 ls H locs ho1 hl hP hD hS
    refine lv_istore_n (lv' := [(3, .int (oI (o1))), (2, .int (nI (8 * (zs f)))), (0, .ref x0), (1, .int (nI (f)))]) hx hb dX8_tell_40 rfl hl (by decide) rfl (fun ls hl => ?_)
    have L75 : ∀ (o2 : Option Nat) (ls : Array Slot) (H : Heap) (locs : List Loc), (o2 = m_ans bd (8 * zs f) (hs (2 * f + 1))) → lv_has ls 5 [(3, .int (oI (o1))), (2, .int (nI (8 * (zs f)))), (0, .ref x0), (1, .int (nI (f)))] → va_P (dC, dI) qCl [(x0, .inr (8, mO ax z1 z2 z3 fc z5 z6 z7 qs z9 z10 z11 z12 z13 hd lg fcn z17 z18 z19 md z21 z22 z23 z24 hc z26 z27 z28 z29 z30 z31 sm z33 z34)), (z17, .inl (cI, 90, .inl (nF zs))), (z19, .inl (cI, 180, .inl (oF hs))), (z33, .inl (cI, 40, .inl (oF bd))), (z31, .inl (cZ, 192, .inl (bF fnd)))] H → va_D A [(x0, .inr (8, mO ax z1 z2 z3 fc z5 z6 z7 qs z9 z10 z11 z12 z13 hd lg fcn z17 z18 z19 md z21 z22 z23 z24 hc z26 z27 z28 z29 z30 z31 sm z33 z34)), (z17, .inl (cI, 90, .inl (nF zs))), (z19, .inl (cI, 180, .inl (oF hs))), (z33, .inl (cI, 40, .inl (oF bd))), (z31, .inl (cZ, 192, .inl (bF fnd)))] → va_S A s.heap H locs → W p l e (headSpec wkX8_tell rm_c_Model_tell).room s m args below meth c H locs 0 0 Q (F0 m 75 ls [.int (oI (o2))]) := by
      intro o2 ls H locs ho2 hl hP hD hS
      refine lv_istore (lv' := [(4, .int (oI (o2))), (3, .int (oI (o1))), (2, .int (nI (8 * (zs f)))), (0, .ref x0), (1, .int (nI (f)))]) hx hb dX8_tell_75 hl (by decide) rfl (fun ls hl => ?_)
      refine lv_iload_n hx hb dX8_tell_77 rfl (lv_at hl 1 rfl) ?_
      refine q_ifO_lt (x := o1) (tgt := 104) hx hb dX8_tell_78 (by decide) (by (intro k9 h9; have := m_ans_lt hbd (ho1.symm.trans h9); omega)) (fun c78_2 => ?_) (fun c78_2 => ?_)
      · subst hQ
        subst hAe
        have hP9 := hP.sub (ws' := [(x0, .inr (8, mO ax z1 z2 z3 fc z5 z6 z7 qs z9 z10 z11 z12 z13 hd lg fcn z17 z18 z19 md z21 z22 z23 z24 hc z26 z27 z28 z29 z30 z31 sm z33 z34)), (z17, .inl (cI, 90, .inl (nF zs))), (z19, .inl (cI, 180, .inl (oF hs))), (z33, .inl (cI, 40, .inl (oF bd))), (z31, .inl (cZ, 192, .inl (bF fnd)))]) [0, 1, 2, 3, 4] rfl
        exact W.vret hx hb hr (fun t9 h9 _ => ⟨⟨(fnd, sm), rfl, (show m_tel (m_ans bd (8 * zs f) (hs (2 * f))) (m_ans bd (8 * zs f) (hs (2 * f + 1))) fnd sm fnd sm from by (first | (exact Or.inl ⟨v1, v2, ho1.symm.trans ev1, ho2.symm.trans ev2, rfl, rfl⟩) | (exact Or.inr ⟨Or.inl (ho1.symm.trans (by assumption)), rfl, rfl⟩) | (exact Or.inr ⟨Or.inr (ho2.symm.trans (by assumption)), rfl, rfl⟩))), by show va_P _ _ _ t9.heap; rw [h9]; exact hP9⟩, hS.F h9⟩) hS.2.2 dX8_tell_104
      · refine lv_iload hx hb dX8_tell_81 (lv_at hl 0 rfl) ?_
        refine q_ifO_lt (x := o2) (tgt := 104) hx hb dX8_tell_83 (by decide) (by (intro k9 h9; have := m_ans_lt hbd (ho2.symm.trans h9); omega)) (fun c83_3 => ?_) (fun c83_3 => ?_)
        · subst hQ
          subst hAe
          have hP9 := hP.sub (ws' := [(x0, .inr (8, mO ax z1 z2 z3 fc z5 z6 z7 qs z9 z10 z11 z12 z13 hd lg fcn z17 z18 z19 md z21 z22 z23 z24 hc z26 z27 z28 z29 z30 z31 sm z33 z34)), (z17, .inl (cI, 90, .inl (nF zs))), (z19, .inl (cI, 180, .inl (oF hs))), (z33, .inl (cI, 40, .inl (oF bd))), (z31, .inl (cZ, 192, .inl (bF fnd)))]) [0, 1, 2, 3, 4] rfl
          exact W.vret hx hb hr (fun t9 h9 _ => ⟨⟨(fnd, sm), rfl, (show m_tel (m_ans bd (8 * zs f) (hs (2 * f))) (m_ans bd (8 * zs f) (hs (2 * f + 1))) fnd sm fnd sm from by (first | (exact Or.inl ⟨v1, v2, ho1.symm.trans ev1, ho2.symm.trans ev2, rfl, rfl⟩) | (exact Or.inr ⟨Or.inl (ho1.symm.trans (by assumption)), rfl, rfl⟩) | (exact Or.inr ⟨Or.inr (ho2.symm.trans (by assumption)), rfl, rfl⟩))), by show va_P _ _ _ t9.heap; rw [h9]; exact hP9⟩, hS.F h9⟩) hS.2.2 dX8_tell_104
        · obtain ⟨v1, ev1⟩ : ∃ v1, o1 = some v1 := Option.ne_none_iff_exists'.mp (by assumption)
          obtain ⟨v2, ev2⟩ : ∃ v2, o2 = some v2 := Option.ne_none_iff_exists'.mp (by assumption)
          have hv1 : v1 < 12 := m_ans_lt hbd (ho1.symm.trans ev1)
          have hv2 : v2 < 12 := m_ans_lt hbd (ho2.symm.trans ev2)
          have hl := lv_updv hl 1 rfl (show (.int (oI (o1)) : Value) = .int (nI (v1)) from (by rw [ev1]; rfl))
          have hl : lv_has ls 5 [(4, .int (oI (o2))), (3, .int (nI (v1))), (2, .int (nI (8 * (zs f)))), (0, .ref x0), (1, .int (nI (f)))] := hl
          have hl := lv_updv hl 0 rfl (show (.int (oI (o2)) : Value) = .int (nI (v2)) from (by rw [ev2]; rfl))
          have hl : lv_has ls 5 [(4, .int (nI (v2))), (3, .int (nI (v1))), (2, .int (nI (8 * (zs f)))), (0, .ref x0), (1, .int (nI (f)))] := hl
          refine lv_aload_n hx hb dX8_tell_86 rfl (lv_at hl 3 rfl) ?_
          refine va_get (D := (dC, dI)) (ci := 8) (v := .ref z31) (C := RX8) (T := TX8) (N := 35) hx hb hts uX8 hown hK hP 0 rfl rfl 31 (by decide) (hts _ kfX8_83) (fun _ h9 => h9) rfl dX8_tell_87 ?_
          refine lv_bipush (v := (nI (16))) hx hb dX8_tell_90 (by decide) ?_
          refine lv_iload_n hx hb dX8_tell_92 rfl (lv_at hl 1 rfl) ?_
          refine q_imul (x := 16) (y := v1) hx hb dX8_tell_93 ?_
          refine lv_iload hx hb dX8_tell_94 (lv_at hl 0 rfl) ?_
          refine q_iadd (x := 16 * v1) (y := v2) hx hb dX8_tell_96 ?_
          refine lv_iconst (v := (nI (1))) hx hb dX8_tell_97 (by decide) ?_
          refine q_zast hx hb hK hP hD hS 4 3 rfl rfl (j := (16 * v1) + v2) (x := true) (by omega) (by omega) dX8_tell_98 (fun H locs hP hD hS => ?_)
          have hP : va_P (dC, dI) qCl [(x0, .inr (8, mO ax z1 z2 z3 fc z5 z6 z7 qs z9 z10 z11 z12 z13 hd lg fcn z17 z18 z19 md z21 z22 z23 z24 hc z26 z27 z28 z29 z30 z31 sm z33 z34)), (z17, .inl (cI, 90, .inl (nF zs))), (z19, .inl (cI, 180, .inl (oF hs))), (z33, .inl (cI, 40, .inl (oF bd))), (z31, .inl (cZ, 192, .inl (bF (va_up fnd ((16 * v1) + v2) true))))] H := hP
          have hD : va_D A [(x0, .inr (8, mO ax z1 z2 z3 fc z5 z6 z7 qs z9 z10 z11 z12 z13 hd lg fcn z17 z18 z19 md z21 z22 z23 z24 hc z26 z27 z28 z29 z30 z31 sm z33 z34)), (z17, .inl (cI, 90, .inl (nF zs))), (z19, .inl (cI, 180, .inl (oF hs))), (z33, .inl (cI, 40, .inl (oF bd))), (z31, .inl (cZ, 192, .inl (bF (va_up fnd ((16 * v1) + v2) true))))] := hD
          refine lv_aload_n hx hb dX8_tell_99 rfl (lv_at hl 3 rfl) ?_
          refine lv_iconst (v := (nI (1))) hx hb dX8_tell_100 (by decide) ?_
          refine va_put (D := (dC, dI)) (ci := 8) (v := .int (bI (true))) (ty := .boolean) (C := RX8) (T := TX8) (N := 35) hx hb hts uX8 tyX8 tyX8_ok nmX8 hown hK hP hD hS 0 rfl rfl 32 (by decide) (hts _ kfX8_199) (fun _ h9 => h9) rfl (by decide +kernel) (bI_nar _) (rfl) (Nat.le_of_ble_eq_true rfl) dX8_tell_101 (fun H locs hP hD hS => ?_)
          have hP : va_P (dC, dI) qCl [(x0, .inr (8, mO ax z1 z2 z3 fc z5 z6 z7 qs z9 z10 z11 z12 z13 hd lg fcn z17 z18 z19 md z21 z22 z23 z24 hc z26 z27 z28 z29 z30 z31 true z33 z34)), (z17, .inl (cI, 90, .inl (nF zs))), (z19, .inl (cI, 180, .inl (oF hs))), (z33, .inl (cI, 40, .inl (oF bd))), (z31, .inl (cZ, 192, .inl (bF (va_up fnd ((16 * v1) + v2) true))))] H := hP
          have hD : va_D A [(x0, .inr (8, mO ax z1 z2 z3 fc z5 z6 z7 qs z9 z10 z11 z12 z13 hd lg fcn z17 z18 z19 md z21 z22 z23 z24 hc z26 z27 z28 z29 z30 z31 true z33 z34)), (z17, .inl (cI, 90, .inl (nF zs))), (z19, .inl (cI, 180, .inl (oF hs))), (z33, .inl (cI, 40, .inl (oF bd))), (z31, .inl (cZ, 192, .inl (bF (va_up fnd ((16 * v1) + v2) true))))] := hD
          subst hQ
          subst hAe
          have hP9 := hP.sub (ws' := [(x0, .inr (8, mO ax z1 z2 z3 fc z5 z6 z7 qs z9 z10 z11 z12 z13 hd lg fcn z17 z18 z19 md z21 z22 z23 z24 hc z26 z27 z28 z29 z30 z31 true z33 z34)), (z17, .inl (cI, 90, .inl (nF zs))), (z19, .inl (cI, 180, .inl (oF hs))), (z33, .inl (cI, 40, .inl (oF bd))), (z31, .inl (cZ, 192, .inl (bF (va_up fnd ((16 * v1) + v2) true))))]) [0, 1, 2, 3, 4] rfl
          exact W.vret hx hb hr (fun t9 h9 _ => ⟨⟨(va_up fnd ((16 * v1) + v2) true, true), rfl, (show m_tel (m_ans bd (8 * zs f) (hs (2 * f))) (m_ans bd (8 * zs f) (hs (2 * f + 1))) fnd sm (va_up fnd ((16 * v1) + v2) true) true from by (first | (exact Or.inl ⟨v1, v2, ho1.symm.trans ev1, ho2.symm.trans ev2, rfl, rfl⟩) | (exact Or.inr ⟨Or.inl (ho1.symm.trans (by assumption)), rfl, rfl⟩) | (exact Or.inr ⟨Or.inr (ho2.symm.trans (by assumption)), rfl, rfl⟩))), by show va_P _ _ _ t9.heap; rw [h9]; exact hP9⟩, hS.F h9⟩) hS.2.2 dX8_tell_104
    refine lv_aload_n hx hb dX8_tell_41 rfl (lv_at hl 2 rfl) ?_
    refine va_get (D := (dC, dI)) (ci := 8) (v := .ref z19) (C := RX8) (T := TX8) (N := 35) hx hb hts uX8 hown hK hP 0 rfl rfl 19 (by decide) (hts _ kfX8_53) (fun _ h9 => h9) rfl dX8_tell_42 ?_
    refine lv_iconst (v := (nI (2))) hx hb dX8_tell_45 (by decide) ?_
    refine lv_iload_n hx hb dX8_tell_46 rfl (lv_at hl 3 rfl) ?_
    refine q_imul (x := 2) (y := f) hx hb dX8_tell_47 ?_
    refine lv_iconst (v := (nI (1))) hx hb dX8_tell_48 (by decide) ?_
    refine q_iadd (x := 2 * f) (y := 1) hx hb dX8_tell_49 ?_
    refine q_ialdO hx hb hK hP 2 0 rfl rfl (j := (2 * f) + 1) (by omega) (by omega) dX8_tell_50 ?_
    refine q_ifO_ge (x := hs ((2 * f) + 1)) (tgt := 58) hx hb dX8_tell_51 (by decide) (by (intro k9 h9; have := hhs _ _ h9; omega)) (fun c51_4 => ?_) (fun c51_4 => ?_)
    · obtain ⟨u2, eu2⟩ : ∃ u2, hs (2 * f + 1) = some u2 := Option.ne_none_iff_exists'.mp (by assumption)
      have hu2 := hhs _ _ eu2
      refine lv_aload_n hx hb dX8_tell_58 rfl (lv_at hl 2 rfl) ?_
      refine va_get (D := (dC, dI)) (ci := 8) (v := .ref z33) (C := RX8) (T := TX8) (N := 35) hx hb hts uX8 hown hK hP 0 rfl rfl 33 (by decide) (hts _ kfX8_87) (fun _ h9 => h9) rfl dX8_tell_59 ?_
      refine lv_iload_n hx hb dX8_tell_62 rfl (lv_at hl 1 rfl) ?_
      refine lv_aload_n hx hb dX8_tell_63 rfl (lv_at hl 2 rfl) ?_
      refine va_get (D := (dC, dI)) (ci := 8) (v := .ref z19) (C := RX8) (T := TX8) (N := 35) hx hb hts uX8 hown hK hP 0 rfl rfl 19 (by decide) (hts _ kfX8_53) (fun _ h9 => h9) rfl dX8_tell_64 ?_
      refine lv_iconst (v := (nI (2))) hx hb dX8_tell_67 (by decide) ?_
      refine lv_iload_n hx hb dX8_tell_68 rfl (lv_at hl 3 rfl) ?_
      refine q_imul (x := 2) (y := f) hx hb dX8_tell_69 ?_
      refine lv_iconst (v := (nI (1))) hx hb dX8_tell_70 (by decide) ?_
      refine q_iadd (x := 2 * f) (y := 1) hx hb dX8_tell_71 ?_
      refine q_ialdO hx hb hK hP 2 0 rfl rfl (j := (2 * f) + 1) (by omega) (by omega) dX8_tell_72 ?_
      refine q_top (show (oI (hs ((2 * f) + 1))) = (nI (u2)) from (congrArg oI eu2)) ?_
      refine q_iadd (x := 8 * (zs f)) (y := u2) hx hb dX8_tell_73 ?_
      refine q_ialdO hx hb hK hP 3 0 rfl rfl (j := (8 * (zs f)) + u2) (by omega) (by omega) dX8_tell_74 ?_
      exact L75 (bd ((8 * (zs f)) + u2)) ls _ _ (show (bd ((8 * (zs f)) + u2)) = m_ans bd (8 * zs f) (hs (2 * f + 1)) from by (first | (rw [eu2]; rfl) | (rw [show hs (2 * f + 1) = none by assumption]; rfl))) (lv_sub hl [0, 1, 2, 3] rfl) (hP.sub [0, 1, 2, 3, 4] rfl) (hD.sub [0, 1, 2, 3, 4] (by decide) rfl) hS
    · refine lv_iconst (v := (nI (0))) hx hb dX8_tell_54 (by decide) ?_
      refine lv_goto (tgt := 75) hx hb dX8_tell_55 (by decide) ?_
      exact L75 (some 0) ls _ _ (show (some 0) = m_ans bd (8 * zs f) (hs (2 * f + 1)) from by (first | (rw [eu2]; rfl) | (rw [show hs (2 * f + 1) = none by assumption]; rfl))) (lv_sub hl [0, 1, 2, 3] rfl) (hP.sub [0, 1, 2, 3, 4] rfl) (hD.sub [0, 1, 2, 3, 4] (by decide) rfl) hS
  have hzf := hzs f
  refine lv_aload_n hx hb dX8_tell_10 rfl (lv_at hl 1 rfl) ?_
  refine va_get (D := (dC, dI)) (ci := 8) (v := .ref z19) (C := RX8) (T := TX8) (N := 35) hx hb hts uX8 hown hK hP 0 rfl rfl 19 (by decide) (hts _ kfX8_53) (fun _ h9 => h9) rfl dX8_tell_11 ?_
  refine lv_iconst (v := (nI (2))) hx hb dX8_tell_14 (by decide) ?_
  refine lv_iload_n hx hb dX8_tell_15 rfl (lv_at hl 2 rfl) ?_
  refine q_imul (x := 2) (y := f) hx hb dX8_tell_16 ?_
  refine q_ialdO hx hb hK hP 2 0 rfl rfl (j := 2 * f) (by omega) (by omega) dX8_tell_17 ?_
  refine q_ifO_ge (x := hs (2 * f)) (tgt := 25) hx hb dX8_tell_18 (by decide) (by (intro k9 h9; have := hhs _ _ h9; omega)) (fun c18_5 => ?_) (fun c18_5 => ?_)
  · obtain ⟨u1, eu1⟩ : ∃ u1, hs (2 * f) = some u1 := Option.ne_none_iff_exists'.mp (by assumption)
    have hu1 := hhs _ _ eu1
    refine lv_aload_n hx hb dX8_tell_25 rfl (lv_at hl 1 rfl) ?_
    refine va_get (D := (dC, dI)) (ci := 8) (v := .ref z33) (C := RX8) (T := TX8) (N := 35) hx hb hts uX8 hown hK hP 0 rfl rfl 33 (by decide) (hts _ kfX8_87) (fun _ h9 => h9) rfl dX8_tell_26 ?_
    refine lv_iload_n hx hb dX8_tell_29 rfl (lv_at hl 0 rfl) ?_
    refine lv_aload_n hx hb dX8_tell_30 rfl (lv_at hl 1 rfl) ?_
    refine va_get (D := (dC, dI)) (ci := 8) (v := .ref z19) (C := RX8) (T := TX8) (N := 35) hx hb hts uX8 hown hK hP 0 rfl rfl 19 (by decide) (hts _ kfX8_53) (fun _ h9 => h9) rfl dX8_tell_31 ?_
    refine lv_iconst (v := (nI (2))) hx hb dX8_tell_34 (by decide) ?_
    refine lv_iload_n hx hb dX8_tell_35 rfl (lv_at hl 2 rfl) ?_
    refine q_imul (x := 2) (y := f) hx hb dX8_tell_36 ?_
    refine q_ialdO hx hb hK hP 2 0 rfl rfl (j := 2 * f) (by omega) (by omega) dX8_tell_37 ?_
    refine q_top (show (oI (hs (2 * f))) = (nI (u1)) from (congrArg oI eu1)) ?_
    refine q_iadd (x := 8 * (zs f)) (y := u1) hx hb dX8_tell_38 ?_
    refine q_ialdO hx hb hK hP 3 0 rfl rfl (j := (8 * (zs f)) + u1) (by omega) (by omega) dX8_tell_39 ?_
    exact L40 (bd ((8 * (zs f)) + u1)) ls _ _ (show (bd ((8 * (zs f)) + u1)) = m_ans bd (8 * zs f) (hs (2 * f)) from by (first | (rw [eu1]; rfl) | (rw [show hs (2 * f) = none by assumption]; rfl))) (lv_sub hl [0, 1, 2] rfl) (hP.sub [0, 1, 2, 3, 4] rfl) (hD.sub [0, 1, 2, 3, 4] (by decide) rfl) hS
  · refine lv_iconst (v := (nI (0))) hx hb dX8_tell_21 (by decide) ?_
    refine lv_goto (tgt := 40) hx hb dX8_tell_22 (by decide) ?_
    exact L40 (some 0) ls _ _ (show (some 0) = m_ans bd (8 * zs f) (hs (2 * f)) from by (first | (rw [eu1]; rfl) | (rw [show hs (2 * f) = none by assumption]; rfl))) (lv_sub hl [0, 1, 2] rfl) (hP.sub [0, 1, 2, 3, 4] rfl) (hD.sub [0, 1, 2, 3, 4] (by decide) rfl) hS
abbrev rm_c_Model_fits : Room := { frames := 1, cells := 0, slots := 0, locals := 23 }
set_option maxHeartbeats 4000000 in
set_option maxRecDepth 100000 in
theorem c_Model_fits (l : Launch) (dC : Nat → ClassId) (dI : Nat → Nat → Nat) (cI cL cQ cZ : ClassId) (x0 : Nat) (ax : Nat) (z1 : Nat) (z2 : Nat) (z3 : Nat) (fc : Nat) (z5 : Nat) (z6 : Nat) (z7 : Nat) (qs : Nat) (z9 : Nat) (z10 : Nat) (z11 : Nat) (z12 : Nat) (z13 : Nat) (hd : Option Nat) (lg : Bool) (fcn : Nat) (z17 : Nat) (z18 : Nat) (z19 : Nat) (md : Nat) (z21 : Nat) (z22 : Nat) (z23 : Nat) (z24 : Nat) (hc : Nat) (z26 : Nat) (z27 : Nat) (z28 : Nat) (z29 : Nat) (z30 : Nat) (z31 : Nat) (sm : Bool) (z33 : Nat) (z34 : Nat) (kd : Nat → Nat) (lf : Nat → Nat) (rg : Nat → Nat) (pp : Nat → Nat) (pa : Nat → Nat) (pb : Nat → Nat) (k : Nat) (x : Nat) (hk : k < 4) (hx9 : x < 16) (hkd : ∀ j, kd j < 4) (hlf : ∀ j, lf j < 64) (hrg : ∀ j, rg j < 64) (h7 : pa k ≠ 7 ∧ (32 ≤ pp k → pb k ≠ 7)) (hok : kd x = 0 → (lf x < 10 ∨ 20 ≤ lf x ∧ lf x < 36) ∧ (rg x < 10 ∨ 20 ≤ rg x ∧ rg x < 36)) (hpp : ∀ j, pp j < 64) (hpa : ∀ j, pa j < 18) (hpb : ∀ j, pb j < 18) : Met l yX8_fits wkX8_fits rm_c_Model_fits (q_W (dC, dI) qCl (qT cI cL cQ cZ) [(x0, .inr (8, mO ax z1 z2 z3 fc z5 z6 z7 qs z9 z10 z11 z12 z13 hd lg fcn z17 z18 z19 md z21 z22 z23 z24 hc z26 z27 z28 z29 z30 z31 sm z33 z34)), (z1, .inl (cI, 16, .inl (nF kd))), (z2, .inl (cI, 16, .inl (nF lf))), (z3, .inl (cI, 16, .inl (nF rg))), (z21, .inl (cI, 4, .inl (nF pp))), (z22, .inl (cI, 4, .inl (nF pa))), (z23, .inl (cI, 4, .inl (nF pb)))] [.ref x0, .int (nI (k)), .int (nI (x))]) (va_Qi (fun (r : Int32) (u : Bool × (Nat → Nat) × (Nat → Nat) × (Nat → Nat)) => (r = (bI (u.1))) ∧ (m_rpl (f_rw (kd x) (lf x) (rg x) (pp k) (pa k) (pb k)) pp pa pb k u.1 u.2.1 u.2.2.1 u.2.2.2)) (fun (u : Bool × (Nat → Nat) × (Nat → Nat) × (Nat → Nat)) t => va_P (dC, dI) qCl [(x0, .inr (8, mO ax z1 z2 z3 fc z5 z6 z7 qs z9 z10 z11 z12 z13 hd lg fcn z17 z18 z19 md z21 z22 z23 z24 hc z26 z27 z28 z29 z30 z31 sm z33 z34)), (z1, .inl (cI, 16, .inl (nF kd))), (z2, .inl (cI, 16, .inl (nF lf))), (z3, .inl (cI, 16, .inl (nF rg))), (z21, .inl (cI, 4, .inl (nF u.2.1))), (z22, .inl (cI, 4, .inl (nF u.2.2.1))), (z23, .inl (cI, 4, .inl (nF u.2.2.2)))] t.heap) (q_A [(x0, .inr (8, mO ax z1 z2 z3 fc z5 z6 z7 qs z9 z10 z11 z12 z13 hd lg fcn z17 z18 z19 md z21 z22 z23 z24 hc z26 z27 z28 z29 z30 z31 sm z33 z34)), (z1, .inl (cI, 16, .inl (nF kd))), (z2, .inl (cI, 16, .inl (nF lf))), (z3, .inl (cI, 16, .inl (nF rg))), (z21, .inl (cI, 4, .inl (nF pp))), (z22, .inl (cI, 4, .inl (nF pa))), (z23, .inl (cI, 4, .inl (nF pb)))])) 0 0 (q_A [(x0, .inr (8, mO ax z1 z2 z3 fc z5 z6 z7 qs z9 z10 z11 z12 z13 hd lg fcn z17 z18 z19 md z21 z22 z23 z24 hc z26 z27 z28 z29 z30 z31 sm z33 z34)), (z1, .inl (cI, 16, .inl (nF kd))), (z2, .inl (cI, 16, .inl (nF lf))), (z3, .inl (cI, 16, .inl (nF rg))), (z21, .inl (cI, 4, .inl (nF pp))), (z22, .inl (cI, 4, .inl (nF pa))), (z23, .inl (cI, 4, .inl (nF pb)))]) := by
  refine Met.ofW (cc := cX8_fits) (maxL := 7) (ret := (some .boolean)) (by decide) rfl ?_
  intro p e s m args below meth c s₁ B hml hv
  obtain ⟨hargs, hP, hK, hD0⟩ := hv
  have hx := B.exec
  have hb := B.bytes
  have hr := B.returns
  have hts : ∀ w ∈ qW, w.before args s = true := fun w h => atoms_spec (ws := wkX8_fits) B.pre w (List.mem_cons_of_mem _ h)
  have hown : s.vm.findClass RX8 = some m.cls := findClass_of_methodNamed B.named
  have hlocks := B.notSynchronized
  refine q_named (fun Q hQ => ?_)
  have hD : va_D (q_A [(x0, .inr (8, mO ax z1 z2 z3 fc z5 z6 z7 qs z9 z10 z11 z12 z13 hd lg fcn z17 z18 z19 md z21 z22 z23 z24 hc z26 z27 z28 z29 z30 z31 sm z33 z34)), (z1, .inl (cI, 16, .inl (nF kd))), (z2, .inl (cI, 16, .inl (nF lf))), (z3, .inl (cI, 16, .inl (nF rg))), (z21, .inl (cI, 4, .inl (nF pp))), (z22, .inl (cI, 4, .inl (nF pa))), (z23, .inl (cI, 4, .inl (nF pb)))]) [(x0, .inr (8, mO ax z1 z2 z3 fc z5 z6 z7 qs z9 z10 z11 z12 z13 hd lg fcn z17 z18 z19 md z21 z22 z23 z24 hc z26 z27 z28 z29 z30 z31 sm z33 z34)), (z1, .inl (cI, 16, .inl (nF kd))), (z2, .inl (cI, 16, .inl (nF lf))), (z3, .inl (cI, 16, .inl (nF rg))), (z21, .inl (cI, 4, .inl (nF pp))), (z22, .inl (cI, 4, .inl (nF pa))), (z23, .inl (cI, 4, .inl (nF pb)))] := ⟨hD0.1, fun k q h => ⟨k, q.2, h⟩⟩
  generalize hAe : q_A [(x0, .inr (8, mO ax z1 z2 z3 fc z5 z6 z7 qs z9 z10 z11 z12 z13 hd lg fcn z17 z18 z19 md z21 z22 z23 z24 hc z26 z27 z28 z29 z30 z31 sm z33 z34)), (z1, .inl (cI, 16, .inl (nF kd))), (z2, .inl (cI, 16, .inl (nF lf))), (z3, .inl (cI, 16, .inl (nF rg))), (z21, .inl (cI, 4, .inl (nF pp))), (z22, .inl (cI, 4, .inl (nF pa))), (z23, .inl (cI, 4, .inl (nF pb)))] = A at hD
  have hS : va_S A s.heap s.heap [] := va_S.rf
  refine q_entry hargs (Nat.le_of_ble_eq_true rfl) (fun ls hl => ?_)
  have hl : lv_has ls 7 [(0, .ref x0), (1, .int (nI (k))), (2, .int (nI (x)))] := hl
  obtain ⟨H, locs, eH, eL⟩ : ∃ (H : Heap) (locs : List Loc), s.heap = H ∧ ([] : List Loc) = locs := ⟨_, _, rfl, rfl⟩
  have hS : va_S A s.heap H locs := by rw [← eH, ← eL]; exact hS
  have hP : va_P (dC, dI) qCl [(x0, .inr (8, mO ax z1 z2 z3 fc z5 z6 z7 qs z9 z10 z11 z12 z13 hd lg fcn z17 z18 z19 md z21 z22 z23 z24 hc z26 z27 z28 z29 z30 z31 sm z33 z34)), (z1, .inl (cI, 16, .inl (nF kd))), (z2, .inl (cI, 16, .inl (nF lf))), (z3, .inl (cI, 16, .inl (nF rg))), (z21, .inl (cI, 4, .inl (nF pp))), (z22, .inl (cI, 4, .inl (nF pa))), (z23, .inl (cI, 4, .inl (nF pb)))] H := by rw [← eH]; exact hP
  refine W_at eH eL ?_
  refine lv_aload_n hx hb dX8_fits_0 rfl (lv_at hl 0 rfl) ?_
  refine va_get (D := (dC, dI)) (ci := 8) (v := .ref z2) (C := RX8) (T := TX8) (N := 35) hx hb hts uX8 hown hK hP 0 rfl rfl 2 (by decide) (hts _ kfX8_13) (fun _ h9 => h9) rfl dX8_fits_1 ?_
  refine lv_iload_n hx hb dX8_fits_4 rfl (lv_at hl 2 rfl) ?_
  refine q_ialdN hx hb hK hP 2 0 rfl rfl (j := x) (by omega) (by omega) dX8_fits_5 ?_
  have bd1 := hlf x
  refine lv_istore_n (lv' := [(3, .int (nI (lf x))), (0, .ref x0), (1, .int (nI (k))), (2, .int (nI (x)))]) hx hb dX8_fits_6 rfl hl (by decide) rfl (fun ls hl => ?_)
  refine lv_aload_n hx hb dX8_fits_7 rfl (lv_at hl 1 rfl) ?_
  refine va_get (D := (dC, dI)) (ci := 8) (v := .ref z3) (C := RX8) (T := TX8) (N := 35) hx hb hts uX8 hown hK hP 0 rfl rfl 3 (by decide) (hts _ kfX8_16) (fun _ h9 => h9) rfl dX8_fits_8 ?_
  refine lv_iload_n hx hb dX8_fits_11 rfl (lv_at hl 3 rfl) ?_
  refine q_ialdN hx hb hK hP 3 0 rfl rfl (j := x) (by omega) (by omega) dX8_fits_12 ?_
  have bd2 := hrg x
  refine lv_istore (lv' := [(4, .int (nI (rg x))), (3, .int (nI (lf x))), (0, .ref x0), (1, .int (nI (k))), (2, .int (nI (x)))]) hx hb dX8_fits_13 hl (by decide) rfl (fun ls hl => ?_)
  refine lv_aload_n hx hb dX8_fits_15 rfl (lv_at hl 2 rfl) ?_
  refine va_get (D := (dC, dI)) (ci := 8) (v := .ref z1) (C := RX8) (T := TX8) (N := 35) hx hb hts uX8 hown hK hP 0 rfl rfl 1 (by decide) (hts _ kfX8_7) (fun _ h9 => h9) rfl dX8_fits_16 ?_
  refine lv_iload_n hx hb dX8_fits_19 rfl (lv_at hl 4 rfl) ?_
  refine q_ialdN hx hb hK hP 1 0 rfl rfl (j := x) (by omega) (by omega) dX8_fits_20 ?_
  have bd3 := hkd x
  refine lv_iconst (v := (nI (1))) hx hb dX8_fits_21 (by decide) ?_
  refine q_icmp_ne (x := kd x) (y := 1) (tgt := 119) hx hb dX8_fits_22 (by decide) (by omega) (by omega) (fun c22_4 => ?_) (fun c22_4 => ?_)
  · refine lv_aload_n hx hb dX8_fits_119 rfl (lv_at hl 2 rfl) ?_
    refine va_get (D := (dC, dI)) (ci := 8) (v := .ref z1) (C := RX8) (T := TX8) (N := 35) hx hb hts uX8 hown hK hP 0 rfl rfl 1 (by decide) (hts _ kfX8_7) (fun _ h9 => h9) rfl dX8_fits_120 ?_
    refine lv_iload_n hx hb dX8_fits_123 rfl (lv_at hl 4 rfl) ?_
    refine q_ialdN hx hb hK hP 1 0 rfl rfl (j := x) (by omega) (by omega) dX8_fits_124 ?_
    have bd5 := hkd x
    refine q_if_eq (x := kd x) (tgt := 130) hx hb dX8_fits_125 (by decide) (by omega) (fun c125_6 => ?_) (fun c125_6 => ?_)
    · have hk0 : kd x = 0 := (by omega)
      obtain ⟨hok1, hok2⟩ := hok hk0
      refine lv_iload hx hb dX8_fits_130 (lv_at hl 0 rfl) ?_
      have L207 : ∀ (is9 : Bool) (ls : Array Slot) (H : Heap) (locs : List Loc), (is9 = true ↔ m_fit (rg x) (pp k) (pa k) (pb k)) → lv_has ls 7 [(4, .int (nI (rg x))), (3, .int (nI (lf x))), (0, .ref x0), (1, .int (nI (k))), (2, .int (nI (x)))] → va_P (dC, dI) qCl [(x0, .inr (8, mO ax z1 z2 z3 fc z5 z6 z7 qs z9 z10 z11 z12 z13 hd lg fcn z17 z18 z19 md z21 z22 z23 z24 hc z26 z27 z28 z29 z30 z31 sm z33 z34)), (z1, .inl (cI, 16, .inl (nF kd))), (z2, .inl (cI, 16, .inl (nF lf))), (z3, .inl (cI, 16, .inl (nF rg))), (z21, .inl (cI, 4, .inl (nF pp))), (z22, .inl (cI, 4, .inl (nF pa))), (z23, .inl (cI, 4, .inl (nF pb)))] H → va_D A [(x0, .inr (8, mO ax z1 z2 z3 fc z5 z6 z7 qs z9 z10 z11 z12 z13 hd lg fcn z17 z18 z19 md z21 z22 z23 z24 hc z26 z27 z28 z29 z30 z31 sm z33 z34)), (z1, .inl (cI, 16, .inl (nF kd))), (z2, .inl (cI, 16, .inl (nF lf))), (z3, .inl (cI, 16, .inl (nF rg))), (z21, .inl (cI, 4, .inl (nF pp))), (z22, .inl (cI, 4, .inl (nF pa))), (z23, .inl (cI, 4, .inl (nF pb)))] → va_S A s.heap H locs → W p l e (headSpec wkX8_fits rm_c_Model_fits).room s m args below meth c H locs 0 0 Q (F0 m 207 ls [.int (bI (is9))]) := by
        intro is9 ls H locs his hl hP hD hS
        refine lv_istore (lv' := [(5, .int (bI (is9))), (4, .int (nI (rg x))), (3, .int (nI (lf x))), (0, .ref x0), (1, .int (nI (k))), (2, .int (nI (x)))]) hx hb dX8_fits_207 hl (by decide) rfl (fun ls hl => ?_)
        refine lv_iload hx hb dX8_fits_209 (lv_at hl 0 rfl) ?_
        refine q_ifb_eq (b := is9) (tgt := 249) hx hb dX8_fits_211 (by decide) (fun c211_7 => ?_) (fun c211_7 => ?_)
        · refine lv_iload hx hb dX8_fits_249 (lv_at hl 0 rfl) ?_
          subst hQ
          subst hAe
          have hP9 := hP.sub (ws' := [(x0, .inr (8, mO ax z1 z2 z3 fc z5 z6 z7 qs z9 z10 z11 z12 z13 hd lg fcn z17 z18 z19 md z21 z22 z23 z24 hc z26 z27 z28 z29 z30 z31 sm z33 z34)), (z1, .inl (cI, 16, .inl (nF kd))), (z2, .inl (cI, 16, .inl (nF lf))), (z3, .inl (cI, 16, .inl (nF rg))), (z21, .inl (cI, 4, .inl (nF pp))), (z22, .inl (cI, 4, .inl (nF pa))), (z23, .inl (cI, 4, .inl (nF pb)))]) [0, 1, 2, 3, 4, 5, 6] rfl
          exact W.zret (v := (bI (is9))) hx hb hr (bI_nar _) (fun t9 h9 _ => ⟨⟨(bI (is9)), (is9, pp, pa, pb), rfl, ⟨rfl, (show m_rpl (f_rw (kd x) (lf x) (rg x) (pp k) (pa k) (pb k)) pp pa pb k is9 pp pa pb from by (rw [hk0]; first | (rw [f_rw0_n hok2 (fun h9 => b_no (his.mpr h9) (by assumption))]; exact ⟨by assumption, rfl, rfl, rfl⟩) | (rw [f_rw0_a hok2 (his.mp (by assumption)) (by omega) h7.1]; exact ⟨by assumption, rfl, rfl, rfl⟩) | (rw [f_rw0_b hok2 (his.mp (by assumption)) (by omega) (h7.2 (by have h9 := his.mp (by assumption); unfold m_fit at h9; omega))]; exact ⟨by assumption, rfl, rfl, rfl⟩)))⟩, by show va_P _ _ _ t9.heap; rw [h9]; exact hP9⟩, hS.F h9⟩) hS.2.2 dX8_fits_251
        · refine lv_aload_n hx hb dX8_fits_214 rfl (lv_at hl 3 rfl) ?_
          refine lv_iload_n hx hb dX8_fits_215 rfl (lv_at hl 4 rfl) ?_
          refine lv_iload_n hx hb dX8_fits_216 rfl (lv_at hl 2 rfl) ?_
          refine lv_iload hx hb dX8_fits_217 (lv_at hl 1 rfl) ?_
          refine lv_bipush (v := (nI (10))) hx hb dX8_fits_219 (by decide) ?_
          refine q_icmp_lt (x := rg x) (y := 10) (tgt := 231) hx hb dX8_fits_221 (by decide) (by omega) (by omega) (fun c221_8 => ?_) (fun c221_8 => ?_)
          · refine lv_aload_n hx hb dX8_fits_231 rfl (lv_at hl 3 rfl) ?_
            refine va_get (D := (dC, dI)) (ci := 8) (v := .ref z22) (C := RX8) (T := TX8) (N := 35) hx hb hts uX8 hown hK hP 0 rfl rfl 22 (by decide) (hts _ kfX8_59) (fun _ h9 => h9) rfl dX8_fits_232 ?_
            refine lv_iload_n hx hb dX8_fits_235 rfl (lv_at hl 4 rfl) ?_
            refine q_ialdN hx hb hK hP 5 0 rfl rfl (j := k) (by omega) (by omega) dX8_fits_236 ?_
            have bd9 := hpa k
            refine lv_goto (tgt := 246) hx hb dX8_fits_237 (by decide) ?_
            refine q_joinv (wr := [(z1, .inl (cI, 16, .inl (nF kd))), (z2, .inl (cI, 16, .inl (nF lf))), (z3, .inl (cI, 16, .inl (nF rg)))]) (va_runV (As := [.int (nI (k)), .int (nI (lf x)), .int (nI (pa k))]) (rest := []) ⟨hx, hb, hml, hown, hts⟩ (c_Model_sortAt l dC dI cI cL cQ cZ x0 ax z1 z2 z3 fc z5 z6 z7 qs z9 z10 z11 z12 z13 hd lg fcn z17 z18 z19 md z21 z22 z23 z24 hc z26 z27 z28 z29 z30 z31 sm z33 z34 pp pa pb k (lf x) (pa k) (show k < 4 from by first | assumption | omega) (show (lf x) < 10 ∨ 20 ≤ (lf x) ∧ (lf x) < 36 from by (exact hok1))) (q_cwV 3 hts gkX8_sortAt kmX8_172 knX8_sortAt klX8_sortAt kiX8 rfl rfl rfl (by decide +kernel) ⟨Nat.le_of_ble_eq_true rfl, Nat.le_of_ble_eq_true rfl⟩) (q_preVW hK hP hD [0, 4, 5, 6] rfl (by decide) 0 (ci := 8) (r := (RX8, TX8, 35)) rfl rfl) rfl rfl hl.1 rfl (lv_room (Nat.le_of_ble_eq_true rfl)) dX8_fits_246 ⟨Nat.zero_le _, Nat.zero_le _⟩) hP hD hS [0, 4, 5, 6] [1, 2, 3] rfl rfl (by decide) (fun _ => rfl) (fun _ H locs hq11 hP hD hS => ?_)
            have hP : va_P (dC, dI) qCl [(z1, .inl (cI, 16, .inl (nF kd))), (z2, .inl (cI, 16, .inl (nF lf))), (z3, .inl (cI, 16, .inl (nF rg))), (x0, .inr (8, mO ax z1 z2 z3 fc z5 z6 z7 qs z9 z10 z11 z12 z13 hd lg fcn z17 z18 z19 md z21 z22 z23 z24 hc z26 z27 z28 z29 z30 z31 sm z33 z34)), (z21, .inl (cI, 4, .inl (nF (va_up pp k (f_sortn (lf x)))))), (z22, .inl (cI, 4, .inl (nF (va_up pa k (f_sort1 (lf x) (pa k)))))), (z23, .inl (cI, 4, .inl (nF (va_up pb k (f_sort2 (lf x) (pa k))))))] H := hP
            have hD : va_D A [(z1, .inl (cI, 16, .inl (nF kd))), (z2, .inl (cI, 16, .inl (nF lf))), (z3, .inl (cI, 16, .inl (nF rg))), (x0, .inr (8, mO ax z1 z2 z3 fc z5 z6 z7 qs z9 z10 z11 z12 z13 hd lg fcn z17 z18 z19 md z21 z22 z23 z24 hc z26 z27 z28 z29 z30 z31 sm z33 z34)), (z21, .inl (cI, 4, .inl (nF (va_up pp k (f_sortn (lf x)))))), (z22, .inl (cI, 4, .inl (nF (va_up pa k (f_sort1 (lf x) (pa k)))))), (z23, .inl (cI, 4, .inl (nF (va_up pb k (f_sort2 (lf x) (pa k))))))] := hD
            refine lv_iload hx hb dX8_fits_249 (lv_at hl 0 rfl) ?_
            subst hQ
            subst hAe
            have hP9 := hP.sub (ws' := [(x0, .inr (8, mO ax z1 z2 z3 fc z5 z6 z7 qs z9 z10 z11 z12 z13 hd lg fcn z17 z18 z19 md z21 z22 z23 z24 hc z26 z27 z28 z29 z30 z31 sm z33 z34)), (z1, .inl (cI, 16, .inl (nF kd))), (z2, .inl (cI, 16, .inl (nF lf))), (z3, .inl (cI, 16, .inl (nF rg))), (z21, .inl (cI, 4, .inl (nF (va_up pp k (f_sortn (lf x)))))), (z22, .inl (cI, 4, .inl (nF (va_up pa k (f_sort1 (lf x) (pa k)))))), (z23, .inl (cI, 4, .inl (nF (va_up pb k (f_sort2 (lf x) (pa k))))))]) [3, 0, 1, 2, 4, 5, 6] rfl
            exact W.zret (v := (bI (is9))) hx hb hr (bI_nar _) (fun t9 h9 _ => ⟨⟨(bI (is9)), (is9, va_up pp k (f_sortn (lf x)), va_up pa k (f_sort1 (lf x) (pa k)), va_up pb k (f_sort2 (lf x) (pa k))), rfl, ⟨rfl, (show m_rpl (f_rw (kd x) (lf x) (rg x) (pp k) (pa k) (pb k)) pp pa pb k is9 (va_up pp k (f_sortn (lf x))) (va_up pa k (f_sort1 (lf x) (pa k))) (va_up pb k (f_sort2 (lf x) (pa k))) from by (rw [hk0]; first | (rw [f_rw0_n hok2 (fun h9 => b_no (his.mpr h9) (by assumption))]; exact ⟨by assumption, rfl, rfl, rfl⟩) | (rw [f_rw0_a hok2 (his.mp (by assumption)) (by omega) h7.1]; exact ⟨by assumption, rfl, rfl, rfl⟩) | (rw [f_rw0_b hok2 (his.mp (by assumption)) (by omega) (h7.2 (by have h9 := his.mp (by assumption); unfold m_fit at h9; omega))]; exact ⟨by assumption, rfl, rfl, rfl⟩)))⟩, by show va_P _ _ _ t9.heap; rw [h9]; exact hP9⟩, hS.F h9⟩) hS.2.2 dX8_fits_251
          · refine lv_iload hx hb dX8_fits_224 (lv_at hl 1 rfl) ?_
            refine lv_iconst (v := (nI (2))) hx hb dX8_fits_226 (by decide) ?_
            refine q_irem (x := rg x) (y := 2) hx hb (by omega) (by omega) (by omega) dX8_fits_227 ?_
            refine q_if_ne (x := (rg x) % 2) (tgt := 240) hx hb dX8_fits_228 (by decide) (by omega) (fun c228_12 => ?_) (fun c228_12 => ?_)
            · refine lv_aload_n hx hb dX8_fits_240 rfl (lv_at hl 3 rfl) ?_
              refine va_get (D := (dC, dI)) (ci := 8) (v := .ref z23) (C := RX8) (T := TX8) (N := 35) hx hb hts uX8 hown hK hP 0 rfl rfl 23 (by decide) (hts _ kfX8_62) (fun _ h9 => h9) rfl dX8_fits_241 ?_
              refine lv_iload_n hx hb dX8_fits_244 rfl (lv_at hl 4 rfl) ?_
              refine q_ialdN hx hb hK hP 6 0 rfl rfl (j := k) (by omega) (by omega) dX8_fits_245 ?_
              have bd13 := hpb k
              refine q_joinv (wr := [(z1, .inl (cI, 16, .inl (nF kd))), (z2, .inl (cI, 16, .inl (nF lf))), (z3, .inl (cI, 16, .inl (nF rg)))]) (va_runV (As := [.int (nI (k)), .int (nI (lf x)), .int (nI (pb k))]) (rest := []) ⟨hx, hb, hml, hown, hts⟩ (c_Model_sortAt l dC dI cI cL cQ cZ x0 ax z1 z2 z3 fc z5 z6 z7 qs z9 z10 z11 z12 z13 hd lg fcn z17 z18 z19 md z21 z22 z23 z24 hc z26 z27 z28 z29 z30 z31 sm z33 z34 pp pa pb k (lf x) (pb k) (show k < 4 from by first | assumption | omega) (show (lf x) < 10 ∨ 20 ≤ (lf x) ∧ (lf x) < 36 from by (exact hok1))) (q_cwV 3 hts gkX8_sortAt kmX8_172 knX8_sortAt klX8_sortAt kiX8 rfl rfl rfl (by decide +kernel) ⟨Nat.le_of_ble_eq_true rfl, Nat.le_of_ble_eq_true rfl⟩) (q_preVW hK hP hD [0, 4, 5, 6] rfl (by decide) 0 (ci := 8) (r := (RX8, TX8, 35)) rfl rfl) rfl rfl hl.1 rfl (lv_room (Nat.le_of_ble_eq_true rfl)) dX8_fits_246 ⟨Nat.zero_le _, Nat.zero_le _⟩) hP hD hS [0, 4, 5, 6] [1, 2, 3] rfl rfl (by decide) (fun _ => rfl) (fun _ H locs hq15 hP hD hS => ?_)
              have hP : va_P (dC, dI) qCl [(z1, .inl (cI, 16, .inl (nF kd))), (z2, .inl (cI, 16, .inl (nF lf))), (z3, .inl (cI, 16, .inl (nF rg))), (x0, .inr (8, mO ax z1 z2 z3 fc z5 z6 z7 qs z9 z10 z11 z12 z13 hd lg fcn z17 z18 z19 md z21 z22 z23 z24 hc z26 z27 z28 z29 z30 z31 sm z33 z34)), (z21, .inl (cI, 4, .inl (nF (va_up pp k (f_sortn (lf x)))))), (z22, .inl (cI, 4, .inl (nF (va_up pa k (f_sort1 (lf x) (pb k)))))), (z23, .inl (cI, 4, .inl (nF (va_up pb k (f_sort2 (lf x) (pb k))))))] H := hP
              have hD : va_D A [(z1, .inl (cI, 16, .inl (nF kd))), (z2, .inl (cI, 16, .inl (nF lf))), (z3, .inl (cI, 16, .inl (nF rg))), (x0, .inr (8, mO ax z1 z2 z3 fc z5 z6 z7 qs z9 z10 z11 z12 z13 hd lg fcn z17 z18 z19 md z21 z22 z23 z24 hc z26 z27 z28 z29 z30 z31 sm z33 z34)), (z21, .inl (cI, 4, .inl (nF (va_up pp k (f_sortn (lf x)))))), (z22, .inl (cI, 4, .inl (nF (va_up pa k (f_sort1 (lf x) (pb k)))))), (z23, .inl (cI, 4, .inl (nF (va_up pb k (f_sort2 (lf x) (pb k))))))] := hD
              refine lv_iload hx hb dX8_fits_249 (lv_at hl 0 rfl) ?_
              subst hQ
              subst hAe
              have hP9 := hP.sub (ws' := [(x0, .inr (8, mO ax z1 z2 z3 fc z5 z6 z7 qs z9 z10 z11 z12 z13 hd lg fcn z17 z18 z19 md z21 z22 z23 z24 hc z26 z27 z28 z29 z30 z31 sm z33 z34)), (z1, .inl (cI, 16, .inl (nF kd))), (z2, .inl (cI, 16, .inl (nF lf))), (z3, .inl (cI, 16, .inl (nF rg))), (z21, .inl (cI, 4, .inl (nF (va_up pp k (f_sortn (lf x)))))), (z22, .inl (cI, 4, .inl (nF (va_up pa k (f_sort1 (lf x) (pb k)))))), (z23, .inl (cI, 4, .inl (nF (va_up pb k (f_sort2 (lf x) (pb k))))))]) [3, 0, 1, 2, 4, 5, 6] rfl
              exact W.zret (v := (bI (is9))) hx hb hr (bI_nar _) (fun t9 h9 _ => ⟨⟨(bI (is9)), (is9, va_up pp k (f_sortn (lf x)), va_up pa k (f_sort1 (lf x) (pb k)), va_up pb k (f_sort2 (lf x) (pb k))), rfl, ⟨rfl, (show m_rpl (f_rw (kd x) (lf x) (rg x) (pp k) (pa k) (pb k)) pp pa pb k is9 (va_up pp k (f_sortn (lf x))) (va_up pa k (f_sort1 (lf x) (pb k))) (va_up pb k (f_sort2 (lf x) (pb k))) from by (rw [hk0]; first | (rw [f_rw0_n hok2 (fun h9 => b_no (his.mpr h9) (by assumption))]; exact ⟨by assumption, rfl, rfl, rfl⟩) | (rw [f_rw0_a hok2 (his.mp (by assumption)) (by omega) h7.1]; exact ⟨by assumption, rfl, rfl, rfl⟩) | (rw [f_rw0_b hok2 (his.mp (by assumption)) (by omega) (h7.2 (by have h9 := his.mp (by assumption); unfold m_fit at h9; omega))]; exact ⟨by assumption, rfl, rfl, rfl⟩)))⟩, by show va_P _ _ _ t9.heap; rw [h9]; exact hP9⟩, hS.F h9⟩) hS.2.2 dX8_fits_251
            · refine lv_aload_n hx hb dX8_fits_231 rfl (lv_at hl 3 rfl) ?_
              refine va_get (D := (dC, dI)) (ci := 8) (v := .ref z22) (C := RX8) (T := TX8) (N := 35) hx hb hts uX8 hown hK hP 0 rfl rfl 22 (by decide) (hts _ kfX8_59) (fun _ h9 => h9) rfl dX8_fits_232 ?_
              refine lv_iload_n hx hb dX8_fits_235 rfl (lv_at hl 4 rfl) ?_
              refine q_ialdN hx hb hK hP 5 0 rfl rfl (j := k) (by omega) (by omega) dX8_fits_236 ?_
              have bd16 := hpa k
              refine lv_goto (tgt := 246) hx hb dX8_fits_237 (by decide) ?_
              refine q_joinv (wr := [(z1, .inl (cI, 16, .inl (nF kd))), (z2, .inl (cI, 16, .inl (nF lf))), (z3, .inl (cI, 16, .inl (nF rg)))]) (va_runV (As := [.int (nI (k)), .int (nI (lf x)), .int (nI (pa k))]) (rest := []) ⟨hx, hb, hml, hown, hts⟩ (c_Model_sortAt l dC dI cI cL cQ cZ x0 ax z1 z2 z3 fc z5 z6 z7 qs z9 z10 z11 z12 z13 hd lg fcn z17 z18 z19 md z21 z22 z23 z24 hc z26 z27 z28 z29 z30 z31 sm z33 z34 pp pa pb k (lf x) (pa k) (show k < 4 from by first | assumption | omega) (show (lf x) < 10 ∨ 20 ≤ (lf x) ∧ (lf x) < 36 from by (exact hok1))) (q_cwV 3 hts gkX8_sortAt kmX8_172 knX8_sortAt klX8_sortAt kiX8 rfl rfl rfl (by decide +kernel) ⟨Nat.le_of_ble_eq_true rfl, Nat.le_of_ble_eq_true rfl⟩) (q_preVW hK hP hD [0, 4, 5, 6] rfl (by decide) 0 (ci := 8) (r := (RX8, TX8, 35)) rfl rfl) rfl rfl hl.1 rfl (lv_room (Nat.le_of_ble_eq_true rfl)) dX8_fits_246 ⟨Nat.zero_le _, Nat.zero_le _⟩) hP hD hS [0, 4, 5, 6] [1, 2, 3] rfl rfl (by decide) (fun _ => rfl) (fun _ H locs hq18 hP hD hS => ?_)
              have hP : va_P (dC, dI) qCl [(z1, .inl (cI, 16, .inl (nF kd))), (z2, .inl (cI, 16, .inl (nF lf))), (z3, .inl (cI, 16, .inl (nF rg))), (x0, .inr (8, mO ax z1 z2 z3 fc z5 z6 z7 qs z9 z10 z11 z12 z13 hd lg fcn z17 z18 z19 md z21 z22 z23 z24 hc z26 z27 z28 z29 z30 z31 sm z33 z34)), (z21, .inl (cI, 4, .inl (nF (va_up pp k (f_sortn (lf x)))))), (z22, .inl (cI, 4, .inl (nF (va_up pa k (f_sort1 (lf x) (pa k)))))), (z23, .inl (cI, 4, .inl (nF (va_up pb k (f_sort2 (lf x) (pa k))))))] H := hP
              have hD : va_D A [(z1, .inl (cI, 16, .inl (nF kd))), (z2, .inl (cI, 16, .inl (nF lf))), (z3, .inl (cI, 16, .inl (nF rg))), (x0, .inr (8, mO ax z1 z2 z3 fc z5 z6 z7 qs z9 z10 z11 z12 z13 hd lg fcn z17 z18 z19 md z21 z22 z23 z24 hc z26 z27 z28 z29 z30 z31 sm z33 z34)), (z21, .inl (cI, 4, .inl (nF (va_up pp k (f_sortn (lf x)))))), (z22, .inl (cI, 4, .inl (nF (va_up pa k (f_sort1 (lf x) (pa k)))))), (z23, .inl (cI, 4, .inl (nF (va_up pb k (f_sort2 (lf x) (pa k))))))] := hD
              refine lv_iload hx hb dX8_fits_249 (lv_at hl 0 rfl) ?_
              subst hQ
              subst hAe
              have hP9 := hP.sub (ws' := [(x0, .inr (8, mO ax z1 z2 z3 fc z5 z6 z7 qs z9 z10 z11 z12 z13 hd lg fcn z17 z18 z19 md z21 z22 z23 z24 hc z26 z27 z28 z29 z30 z31 sm z33 z34)), (z1, .inl (cI, 16, .inl (nF kd))), (z2, .inl (cI, 16, .inl (nF lf))), (z3, .inl (cI, 16, .inl (nF rg))), (z21, .inl (cI, 4, .inl (nF (va_up pp k (f_sortn (lf x)))))), (z22, .inl (cI, 4, .inl (nF (va_up pa k (f_sort1 (lf x) (pa k)))))), (z23, .inl (cI, 4, .inl (nF (va_up pb k (f_sort2 (lf x) (pa k))))))]) [3, 0, 1, 2, 4, 5, 6] rfl
              exact W.zret (v := (bI (is9))) hx hb hr (bI_nar _) (fun t9 h9 _ => ⟨⟨(bI (is9)), (is9, va_up pp k (f_sortn (lf x)), va_up pa k (f_sort1 (lf x) (pa k)), va_up pb k (f_sort2 (lf x) (pa k))), rfl, ⟨rfl, (show m_rpl (f_rw (kd x) (lf x) (rg x) (pp k) (pa k) (pb k)) pp pa pb k is9 (va_up pp k (f_sortn (lf x))) (va_up pa k (f_sort1 (lf x) (pa k))) (va_up pb k (f_sort2 (lf x) (pa k))) from by (rw [hk0]; first | (rw [f_rw0_n hok2 (fun h9 => b_no (his.mpr h9) (by assumption))]; exact ⟨by assumption, rfl, rfl, rfl⟩) | (rw [f_rw0_a hok2 (his.mp (by assumption)) (by omega) h7.1]; exact ⟨by assumption, rfl, rfl, rfl⟩) | (rw [f_rw0_b hok2 (his.mp (by assumption)) (by omega) (h7.2 (by have h9 := his.mp (by assumption); unfold m_fit at h9; omega))]; exact ⟨by assumption, rfl, rfl, rfl⟩)))⟩, by show va_P _ _ _ t9.heap; rw [h9]; exact hP9⟩, hS.F h9⟩) hS.2.2 dX8_fits_251
      refine lv_bipush (v := (nI (10))) hx hb dX8_fits_132 (by decide) ?_
      refine q_icmp_ge (x := rg x) (y := 10) (tgt := 156) hx hb dX8_fits_134 (by decide) (by omega) (by omega) (fun c134_19 => ?_) (fun c134_19 => ?_)
      · refine lv_aload_n hx hb dX8_fits_156 rfl (lv_at hl 2 rfl) ?_
        refine va_get (D := (dC, dI)) (ci := 8) (v := .ref z21) (C := RX8) (T := TX8) (N := 35) hx hb hts uX8 hown hK hP 0 rfl rfl 21 (by decide) (hts _ kfX8_56) (fun _ h9 => h9) rfl dX8_fits_157 ?_
        refine lv_iload_n hx hb dX8_fits_160 rfl (lv_at hl 3 rfl) ?_
        refine q_ialdN hx hb hK hP 4 0 rfl rfl (j := k) (by omega) (by omega) dX8_fits_161 ?_
        have bd20 := hpp k
        refine lv_bipush (v := (nI (32))) hx hb dX8_fits_162 (by decide) ?_
        refine lv_iload hx hb dX8_fits_164 (lv_at hl 0 rfl) ?_
        refine lv_bipush (v := (nI (20))) hx hb dX8_fits_166 (by decide) ?_
        refine q_isub (x := rg x) (y := 20) hx hb (by omega) dX8_fits_168 ?_
        refine lv_iconst (v := (nI (2))) hx hb dX8_fits_169 (by decide) ?_
        refine q_idiv (x := (rg x) - 20) (y := 2) hx hb (by omega) (by omega) (by omega) dX8_fits_170 ?_
        refine q_iadd (x := 32) (y := ((rg x) - 20) / 2) hx hb dX8_fits_171 ?_
        refine q_icmp_ne (x := pp k) (y := 32 + (((rg x) - 20) / 2)) (tgt := 206) hx hb dX8_fits_172 (by decide) (by omega) (by omega) (fun c172_21 => ?_) (fun c172_21 => ?_)
        · refine lv_iconst (v := (nI (0))) hx hb dX8_fits_206 (by decide) ?_
          exact L207 false ls _ _ (show false = true ↔ m_fit (rg x) (pp k) (pa k) (pb k) from by (unfold m_fit; first | (exact ⟨fun _ => (by omega), fun _ => rfl⟩) | (exact ⟨fun h => (by cases h), fun h => (by omega)⟩))) (lv_sub hl [0, 1, 2, 3, 4] rfl) (hP.sub [0, 1, 2, 3, 4, 5, 6] rfl) (hD.sub [0, 1, 2, 3, 4, 5, 6] (by decide) rfl) hS
        · refine lv_iload hx hb dX8_fits_175 (lv_at hl 0 rfl) ?_
          refine lv_iconst (v := (nI (2))) hx hb dX8_fits_177 (by decide) ?_
          refine q_irem (x := rg x) (y := 2) hx hb (by omega) (by omega) (by omega) dX8_fits_178 ?_
          refine q_if_ne (x := (rg x) % 2) (tgt := 191) hx hb dX8_fits_179 (by decide) (by omega) (fun c179_22 => ?_) (fun c179_22 => ?_)
          · refine lv_aload_n hx hb dX8_fits_191 rfl (lv_at hl 2 rfl) ?_
            refine va_get (D := (dC, dI)) (ci := 8) (v := .ref z22) (C := RX8) (T := TX8) (N := 35) hx hb hts uX8 hown hK hP 0 rfl rfl 22 (by decide) (hts _ kfX8_59) (fun _ h9 => h9) rfl dX8_fits_192 ?_
            refine lv_iload_n hx hb dX8_fits_195 rfl (lv_at hl 3 rfl) ?_
            refine q_ialdN hx hb hK hP 5 0 rfl rfl (j := k) (by omega) (by omega) dX8_fits_196 ?_
            have bd23 := hpa k
            refine lv_bipush (v := (nI (6))) hx hb dX8_fits_197 (by decide) ?_
            refine q_icmp_ne (x := pa k) (y := 6) (tgt := 206) hx hb dX8_fits_199 (by decide) (by omega) (by omega) (fun c199_24 => ?_) (fun c199_24 => ?_)
            · refine lv_iconst (v := (nI (0))) hx hb dX8_fits_206 (by decide) ?_
              exact L207 false ls _ _ (show false = true ↔ m_fit (rg x) (pp k) (pa k) (pb k) from by (unfold m_fit; first | (exact ⟨fun _ => (by omega), fun _ => rfl⟩) | (exact ⟨fun h => (by cases h), fun h => (by omega)⟩))) (lv_sub hl [0, 1, 2, 3, 4] rfl) (hP.sub [0, 1, 2, 3, 4, 5, 6] rfl) (hD.sub [0, 1, 2, 3, 4, 5, 6] (by decide) rfl) hS
            · refine lv_iconst (v := (nI (1))) hx hb dX8_fits_202 (by decide) ?_
              refine lv_goto (tgt := 207) hx hb dX8_fits_203 (by decide) ?_
              exact L207 true ls _ _ (show true = true ↔ m_fit (rg x) (pp k) (pa k) (pb k) from by (unfold m_fit; first | (exact ⟨fun _ => (by omega), fun _ => rfl⟩) | (exact ⟨fun h => (by cases h), fun h => (by omega)⟩))) (lv_sub hl [0, 1, 2, 3, 4] rfl) (hP.sub [0, 1, 2, 3, 4, 5, 6] rfl) (hD.sub [0, 1, 2, 3, 4, 5, 6] (by decide) rfl) hS
          · refine lv_aload_n hx hb dX8_fits_182 rfl (lv_at hl 2 rfl) ?_
            refine va_get (D := (dC, dI)) (ci := 8) (v := .ref z23) (C := RX8) (T := TX8) (N := 35) hx hb hts uX8 hown hK hP 0 rfl rfl 23 (by decide) (hts _ kfX8_62) (fun _ h9 => h9) rfl dX8_fits_183 ?_
            refine lv_iload_n hx hb dX8_fits_186 rfl (lv_at hl 3 rfl) ?_
            refine q_ialdN hx hb hK hP 6 0 rfl rfl (j := k) (by omega) (by omega) dX8_fits_187 ?_
            have bd25 := hpb k
            refine lv_goto (tgt := 197) hx hb dX8_fits_188 (by decide) ?_
            refine lv_bipush (v := (nI (6))) hx hb dX8_fits_197 (by decide) ?_
            refine q_icmp_ne (x := pb k) (y := 6) (tgt := 206) hx hb dX8_fits_199 (by decide) (by omega) (by omega) (fun c199_26 => ?_) (fun c199_26 => ?_)
            · refine lv_iconst (v := (nI (0))) hx hb dX8_fits_206 (by decide) ?_
              exact L207 false ls _ _ (show false = true ↔ m_fit (rg x) (pp k) (pa k) (pb k) from by (unfold m_fit; first | (exact ⟨fun _ => (by omega), fun _ => rfl⟩) | (exact ⟨fun h => (by cases h), fun h => (by omega)⟩))) (lv_sub hl [0, 1, 2, 3, 4] rfl) (hP.sub [0, 1, 2, 3, 4, 5, 6] rfl) (hD.sub [0, 1, 2, 3, 4, 5, 6] (by decide) rfl) hS
            · refine lv_iconst (v := (nI (1))) hx hb dX8_fits_202 (by decide) ?_
              refine lv_goto (tgt := 207) hx hb dX8_fits_203 (by decide) ?_
              exact L207 true ls _ _ (show true = true ↔ m_fit (rg x) (pp k) (pa k) (pb k) from by (unfold m_fit; first | (exact ⟨fun _ => (by omega), fun _ => rfl⟩) | (exact ⟨fun h => (by cases h), fun h => (by omega)⟩))) (lv_sub hl [0, 1, 2, 3, 4] rfl) (hP.sub [0, 1, 2, 3, 4, 5, 6] rfl) (hD.sub [0, 1, 2, 3, 4, 5, 6] (by decide) rfl) hS
      · refine lv_aload_n hx hb dX8_fits_137 rfl (lv_at hl 2 rfl) ?_
        refine va_get (D := (dC, dI)) (ci := 8) (v := .ref z21) (C := RX8) (T := TX8) (N := 35) hx hb hts uX8 hown hK hP 0 rfl rfl 21 (by decide) (hts _ kfX8_56) (fun _ h9 => h9) rfl dX8_fits_138 ?_
        refine lv_iload_n hx hb dX8_fits_141 rfl (lv_at hl 3 rfl) ?_
        refine q_ialdN hx hb hK hP 4 0 rfl rfl (j := k) (by omega) (by omega) dX8_fits_142 ?_
        have bd27 := hpp k
        refine lv_iload hx hb dX8_fits_143 (lv_at hl 0 rfl) ?_
        refine q_icmp_ne (x := pp k) (y := rg x) (tgt := 152) hx hb dX8_fits_145 (by decide) (by omega) (by omega) (fun c145_28 => ?_) (fun c145_28 => ?_)
        · refine lv_iconst (v := (nI (0))) hx hb dX8_fits_152 (by decide) ?_
          refine lv_goto (tgt := 207) hx hb dX8_fits_153 (by decide) ?_
          exact L207 false ls _ _ (show false = true ↔ m_fit (rg x) (pp k) (pa k) (pb k) from by (unfold m_fit; first | (exact ⟨fun _ => (by omega), fun _ => rfl⟩) | (exact ⟨fun h => (by cases h), fun h => (by omega)⟩))) (lv_sub hl [0, 1, 2, 3, 4] rfl) (hP.sub [0, 1, 2, 3, 4, 5, 6] rfl) (hD.sub [0, 1, 2, 3, 4, 5, 6] (by decide) rfl) hS
        · refine lv_iconst (v := (nI (1))) hx hb dX8_fits_148 (by decide) ?_
          refine lv_goto (tgt := 207) hx hb dX8_fits_149 (by decide) ?_
          exact L207 true ls _ _ (show true = true ↔ m_fit (rg x) (pp k) (pa k) (pb k) from by (unfold m_fit; first | (exact ⟨fun _ => (by omega), fun _ => rfl⟩) | (exact ⟨fun h => (by cases h), fun h => (by omega)⟩))) (lv_sub hl [0, 1, 2, 3, 4] rfl) (hP.sub [0, 1, 2, 3, 4, 5, 6] rfl) (hD.sub [0, 1, 2, 3, 4, 5, 6] (by decide) rfl) hS
    · refine lv_iconst (v := (nI (0))) hx hb dX8_fits_128 (by decide) ?_
      subst hQ
      subst hAe
      have hP9 := hP.sub (ws' := [(x0, .inr (8, mO ax z1 z2 z3 fc z5 z6 z7 qs z9 z10 z11 z12 z13 hd lg fcn z17 z18 z19 md z21 z22 z23 z24 hc z26 z27 z28 z29 z30 z31 sm z33 z34)), (z1, .inl (cI, 16, .inl (nF kd))), (z2, .inl (cI, 16, .inl (nF lf))), (z3, .inl (cI, 16, .inl (nF rg))), (z21, .inl (cI, 4, .inl (nF pp))), (z22, .inl (cI, 4, .inl (nF pa))), (z23, .inl (cI, 4, .inl (nF pb)))]) [0, 1, 2, 3, 4, 5, 6] rfl
      exact W.zret (v := (nI (0))) hx hb hr (by decide) (fun t9 h9 _ => ⟨⟨(nI (0)), (false, pp, pa, pb), rfl, ⟨bI_0 rfl, (show m_rpl (f_rw (kd x) (lf x) (rg x) (pp k) (pa k) (pb k)) pp pa pb k false pp pa pb from by (rw [f_rw2 (by omega) (by omega)]; exact ⟨rfl, rfl, rfl, rfl⟩))⟩, by show va_P _ _ _ t9.heap; rw [h9]; exact hP9⟩, hS.F h9⟩) hS.2.2 dX8_fits_129
  · refine lv_aload_n hx hb dX8_fits_25 rfl (lv_at hl 2 rfl) ?_
    refine va_get (D := (dC, dI)) (ci := 8) (v := .ref z21) (C := RX8) (T := TX8) (N := 35) hx hb hts uX8 hown hK hP 0 rfl rfl 21 (by decide) (hts _ kfX8_56) (fun _ h9 => h9) rfl dX8_fits_26 ?_
    refine lv_iload_n hx hb dX8_fits_29 rfl (lv_at hl 3 rfl) ?_
    refine q_ialdN hx hb hK hP 4 0 rfl rfl (j := k) (by omega) (by omega) dX8_fits_30 ?_
    have bd29 := hpp k
    refine lv_bipush (v := (nI (32))) hx hb dX8_fits_31 (by decide) ?_
    refine lv_iload hx hb dX8_fits_33 (lv_at hl 0 rfl) ?_
    refine lv_iconst (v := (nI (2))) hx hb dX8_fits_35 (by decide) ?_
    refine q_idiv (x := rg x) (y := 2) hx hb (by omega) (by omega) (by omega) dX8_fits_36 ?_
    refine q_iadd (x := 32) (y := (rg x) / 2) hx hb dX8_fits_37 ?_
    refine q_icmp_eq (x := pp k) (y := 32 + ((rg x) / 2)) (tgt := 43) hx hb dX8_fits_38 (by decide) (by omega) (by omega) (fun c38_30 => ?_) (fun c38_30 => ?_)
    · refine lv_aload_n hx hb dX8_fits_43 rfl (lv_at hl 2 rfl) ?_
      refine va_get (D := (dC, dI)) (ci := 8) (v := .ref z22) (C := RX8) (T := TX8) (N := 35) hx hb hts uX8 hown hK hP 0 rfl rfl 22 (by decide) (hts _ kfX8_59) (fun _ h9 => h9) rfl dX8_fits_44 ?_
      refine lv_iload_n hx hb dX8_fits_47 rfl (lv_at hl 3 rfl) ?_
      refine q_ialdN hx hb hK hP 5 0 rfl rfl (j := k) (by omega) (by omega) dX8_fits_48 ?_
      have bd31 := hpa k
      refine lv_istore (lv' := [(5, .int (nI (pa k))), (4, .int (nI (rg x))), (3, .int (nI (lf x))), (0, .ref x0), (1, .int (nI (k))), (2, .int (nI (x)))]) hx hb dX8_fits_49 hl (by decide) rfl (fun ls hl => ?_)
      refine lv_aload_n hx hb dX8_fits_51 rfl (lv_at hl 3 rfl) ?_
      refine va_get (D := (dC, dI)) (ci := 8) (v := .ref z23) (C := RX8) (T := TX8) (N := 35) hx hb hts uX8 hown hK hP 0 rfl rfl 23 (by decide) (hts _ kfX8_62) (fun _ h9 => h9) rfl dX8_fits_52 ?_
      refine lv_iload_n hx hb dX8_fits_55 rfl (lv_at hl 4 rfl) ?_
      refine q_ialdN hx hb hK hP 6 0 rfl rfl (j := k) (by omega) (by omega) dX8_fits_56 ?_
      have bd32 := hpb k
      refine lv_istore (lv' := [(6, .int (nI (pb k))), (5, .int (nI (pa k))), (4, .int (nI (rg x))), (3, .int (nI (lf x))), (0, .ref x0), (1, .int (nI (k))), (2, .int (nI (x)))]) hx hb dX8_fits_57 hl (by decide) rfl (fun ls hl => ?_)
      refine lv_aload_n hx hb dX8_fits_59 rfl (lv_at hl 4 rfl) ?_
      refine va_get (D := (dC, dI)) (ci := 8) (v := .ref z21) (C := RX8) (T := TX8) (N := 35) hx hb hts uX8 hown hK hP 0 rfl rfl 21 (by decide) (hts _ kfX8_56) (fun _ h9 => h9) rfl dX8_fits_60 ?_
      refine lv_iload_n hx hb dX8_fits_63 rfl (lv_at hl 5 rfl) ?_
      refine lv_bipush (v := (nI (32))) hx hb dX8_fits_64 (by decide) ?_
      refine lv_iload_n hx hb dX8_fits_66 rfl (lv_at hl 3 rfl) ?_
      refine lv_iconst (v := (nI (2))) hx hb dX8_fits_67 (by decide) ?_
      refine q_idiv (x := lf x) (y := 2) hx hb (by omega) (by omega) (by omega) dX8_fits_68 ?_
      refine q_iadd (x := 32) (y := (lf x) / 2) hx hb dX8_fits_69 ?_
      refine q_iastN hx hb hK hP hD hS 4 0 rfl rfl (j := k) (x := 32 + ((lf x) / 2)) (by omega) (by omega) dX8_fits_70 (fun H locs hP hD hS => ?_)
      have hP : va_P (dC, dI) qCl [(x0, .inr (8, mO ax z1 z2 z3 fc z5 z6 z7 qs z9 z10 z11 z12 z13 hd lg fcn z17 z18 z19 md z21 z22 z23 z24 hc z26 z27 z28 z29 z30 z31 sm z33 z34)), (z1, .inl (cI, 16, .inl (nF kd))), (z2, .inl (cI, 16, .inl (nF lf))), (z3, .inl (cI, 16, .inl (nF rg))), (z21, .inl (cI, 4, .inl (nF (va_up pp k (32 + ((lf x) / 2)))))), (z22, .inl (cI, 4, .inl (nF pa))), (z23, .inl (cI, 4, .inl (nF pb)))] H := hP
      have hD : va_D A [(x0, .inr (8, mO ax z1 z2 z3 fc z5 z6 z7 qs z9 z10 z11 z12 z13 hd lg fcn z17 z18 z19 md z21 z22 z23 z24 hc z26 z27 z28 z29 z30 z31 sm z33 z34)), (z1, .inl (cI, 16, .inl (nF kd))), (z2, .inl (cI, 16, .inl (nF lf))), (z3, .inl (cI, 16, .inl (nF rg))), (z21, .inl (cI, 4, .inl (nF (va_up pp k (32 + ((lf x) / 2)))))), (z22, .inl (cI, 4, .inl (nF pa))), (z23, .inl (cI, 4, .inl (nF pb)))] := hD
      refine lv_aload_n hx hb dX8_fits_71 rfl (lv_at hl 4 rfl) ?_
      refine va_get (D := (dC, dI)) (ci := 8) (v := .ref z22) (C := RX8) (T := TX8) (N := 35) hx hb hts uX8 hown hK hP 0 rfl rfl 22 (by decide) (hts _ kfX8_59) (fun _ h9 => h9) rfl dX8_fits_72 ?_
      refine lv_iload_n hx hb dX8_fits_75 rfl (lv_at hl 5 rfl) ?_
      refine lv_iload_n hx hb dX8_fits_76 rfl (lv_at hl 3 rfl) ?_
      refine lv_iconst (v := (nI (2))) hx hb dX8_fits_77 (by decide) ?_
      refine q_irem (x := lf x) (y := 2) hx hb (by omega) (by omega) (by omega) dX8_fits_78 ?_
      refine lv_iload hx hb dX8_fits_79 (lv_at hl 2 rfl) ?_
      refine lv_iconst (v := (nI (2))) hx hb dX8_fits_81 (by decide) ?_
      refine q_irem (x := rg x) (y := 2) hx hb (by omega) (by omega) (by omega) dX8_fits_82 ?_
      refine q_icmp_ne (x := (lf x) % 2) (y := (rg x) % 2) (tgt := 91) hx hb dX8_fits_83 (by decide) (by omega) (by omega) (fun c83_33 => ?_) (fun c83_33 => ?_)
      · refine lv_iload hx hb dX8_fits_91 (lv_at hl 0 rfl) ?_
        refine q_iastN hx hb hK hP hD hS 5 0 rfl rfl (j := k) (x := pb k) (by omega) (by omega) dX8_fits_93 (fun H locs hP hD hS => ?_)
        have hP : va_P (dC, dI) qCl [(x0, .inr (8, mO ax z1 z2 z3 fc z5 z6 z7 qs z9 z10 z11 z12 z13 hd lg fcn z17 z18 z19 md z21 z22 z23 z24 hc z26 z27 z28 z29 z30 z31 sm z33 z34)), (z1, .inl (cI, 16, .inl (nF kd))), (z2, .inl (cI, 16, .inl (nF lf))), (z3, .inl (cI, 16, .inl (nF rg))), (z21, .inl (cI, 4, .inl (nF (va_up pp k (32 + ((lf x) / 2)))))), (z22, .inl (cI, 4, .inl (nF (va_up pa k (pb k))))), (z23, .inl (cI, 4, .inl (nF pb)))] H := hP
        have hD : va_D A [(x0, .inr (8, mO ax z1 z2 z3 fc z5 z6 z7 qs z9 z10 z11 z12 z13 hd lg fcn z17 z18 z19 md z21 z22 z23 z24 hc z26 z27 z28 z29 z30 z31 sm z33 z34)), (z1, .inl (cI, 16, .inl (nF kd))), (z2, .inl (cI, 16, .inl (nF lf))), (z3, .inl (cI, 16, .inl (nF rg))), (z21, .inl (cI, 4, .inl (nF (va_up pp k (32 + ((lf x) / 2)))))), (z22, .inl (cI, 4, .inl (nF (va_up pa k (pb k))))), (z23, .inl (cI, 4, .inl (nF pb)))] := hD
        refine lv_aload_n hx hb dX8_fits_94 rfl (lv_at hl 4 rfl) ?_
        refine va_get (D := (dC, dI)) (ci := 8) (v := .ref z23) (C := RX8) (T := TX8) (N := 35) hx hb hts uX8 hown hK hP 0 rfl rfl 23 (by decide) (hts _ kfX8_62) (fun _ h9 => h9) rfl dX8_fits_95 ?_
        refine lv_iload_n hx hb dX8_fits_98 rfl (lv_at hl 5 rfl) ?_
        refine lv_iload_n hx hb dX8_fits_99 rfl (lv_at hl 3 rfl) ?_
        refine lv_iconst (v := (nI (2))) hx hb dX8_fits_100 (by decide) ?_
        refine q_irem (x := lf x) (y := 2) hx hb (by omega) (by omega) (by omega) dX8_fits_101 ?_
        refine lv_iload hx hb dX8_fits_102 (lv_at hl 2 rfl) ?_
        refine lv_iconst (v := (nI (2))) hx hb dX8_fits_104 (by decide) ?_
        refine q_irem (x := rg x) (y := 2) hx hb (by omega) (by omega) (by omega) dX8_fits_105 ?_
        refine q_icmp_ne (x := (lf x) % 2) (y := (rg x) % 2) (tgt := 114) hx hb dX8_fits_106 (by decide) (by omega) (by omega) (fun c106_34 => ?_) (fun c106_34 => ?_)
        · refine lv_iload hx hb dX8_fits_114 (lv_at hl 1 rfl) ?_
          refine q_iastN hx hb hK hP hD hS 6 0 rfl rfl (j := k) (x := pa k) (by omega) (by omega) dX8_fits_116 (fun H locs hP hD hS => ?_)
          have hP : va_P (dC, dI) qCl [(x0, .inr (8, mO ax z1 z2 z3 fc z5 z6 z7 qs z9 z10 z11 z12 z13 hd lg fcn z17 z18 z19 md z21 z22 z23 z24 hc z26 z27 z28 z29 z30 z31 sm z33 z34)), (z1, .inl (cI, 16, .inl (nF kd))), (z2, .inl (cI, 16, .inl (nF lf))), (z3, .inl (cI, 16, .inl (nF rg))), (z21, .inl (cI, 4, .inl (nF (va_up pp k (32 + ((lf x) / 2)))))), (z22, .inl (cI, 4, .inl (nF (va_up pa k (pb k))))), (z23, .inl (cI, 4, .inl (nF (va_up pb k (pa k)))))] H := hP
          have hD : va_D A [(x0, .inr (8, mO ax z1 z2 z3 fc z5 z6 z7 qs z9 z10 z11 z12 z13 hd lg fcn z17 z18 z19 md z21 z22 z23 z24 hc z26 z27 z28 z29 z30 z31 sm z33 z34)), (z1, .inl (cI, 16, .inl (nF kd))), (z2, .inl (cI, 16, .inl (nF lf))), (z3, .inl (cI, 16, .inl (nF rg))), (z21, .inl (cI, 4, .inl (nF (va_up pp k (32 + ((lf x) / 2)))))), (z22, .inl (cI, 4, .inl (nF (va_up pa k (pb k))))), (z23, .inl (cI, 4, .inl (nF (va_up pb k (pa k)))))] := hD
          refine lv_iconst (v := (nI (1))) hx hb dX8_fits_117 (by decide) ?_
          subst hQ
          subst hAe
          have hP9 := hP.sub (ws' := [(x0, .inr (8, mO ax z1 z2 z3 fc z5 z6 z7 qs z9 z10 z11 z12 z13 hd lg fcn z17 z18 z19 md z21 z22 z23 z24 hc z26 z27 z28 z29 z30 z31 sm z33 z34)), (z1, .inl (cI, 16, .inl (nF kd))), (z2, .inl (cI, 16, .inl (nF lf))), (z3, .inl (cI, 16, .inl (nF rg))), (z21, .inl (cI, 4, .inl (nF (va_up pp k (32 + ((lf x) / 2)))))), (z22, .inl (cI, 4, .inl (nF (va_up pa k (pb k))))), (z23, .inl (cI, 4, .inl (nF (va_up pb k (pa k)))))]) [0, 1, 2, 3, 4, 5, 6] rfl
          exact W.zret (v := (nI (1))) hx hb hr (by decide) (fun t9 h9 _ => ⟨⟨(nI (1)), (true, va_up pp k (32 + ((lf x) / 2)), va_up pa k (pb k), va_up pb k (pa k)), rfl, ⟨bI_1 rfl, (show m_rpl (f_rw (kd x) (lf x) (rg x) (pp k) (pa k) (pb k)) pp pa pb k true (va_up pp k (32 + ((lf x) / 2))) (va_up pa k (pb k)) (va_up pb k (pa k)) from by (rw [show kd x = 1 by omega]; first | (exfalso; omega; done) | (rw [f_rw1_n (by assumption)]; exact ⟨rfl, rfl, rfl, rfl⟩) | (rw [f_rw1_s (by assumption), if_pos (show lf x % 2 = rg x % 2 by omega), if_pos (show lf x % 2 = rg x % 2 by omega)]; exact ⟨rfl, rfl, rfl, rfl⟩) | (rw [f_rw1_s (by assumption), if_neg (show ¬ lf x % 2 = rg x % 2 by omega), if_neg (show ¬ lf x % 2 = rg x % 2 by omega)]; exact ⟨rfl, rfl, rfl, rfl⟩)))⟩, by show va_P _ _ _ t9.heap; rw [h9]; exact hP9⟩, hS.F h9⟩) hS.2.2 dX8_fits_118
        · refine lv_iload hx hb dX8_fits_109 (lv_at hl 0 rfl) ?_
          refine lv_goto (tgt := 116) hx hb dX8_fits_111 (by decide) ?_
          refine q_iastN hx hb hK hP hD hS 6 0 rfl rfl (j := k) (x := pb k) (by omega) (by omega) dX8_fits_116 (fun H locs hP hD hS => ?_)
          have hP : va_P (dC, dI) qCl [(x0, .inr (8, mO ax z1 z2 z3 fc z5 z6 z7 qs z9 z10 z11 z12 z13 hd lg fcn z17 z18 z19 md z21 z22 z23 z24 hc z26 z27 z28 z29 z30 z31 sm z33 z34)), (z1, .inl (cI, 16, .inl (nF kd))), (z2, .inl (cI, 16, .inl (nF lf))), (z3, .inl (cI, 16, .inl (nF rg))), (z21, .inl (cI, 4, .inl (nF (va_up pp k (32 + ((lf x) / 2)))))), (z22, .inl (cI, 4, .inl (nF (va_up pa k (pb k))))), (z23, .inl (cI, 4, .inl (nF (va_up pb k (pb k)))))] H := hP
          have hD : va_D A [(x0, .inr (8, mO ax z1 z2 z3 fc z5 z6 z7 qs z9 z10 z11 z12 z13 hd lg fcn z17 z18 z19 md z21 z22 z23 z24 hc z26 z27 z28 z29 z30 z31 sm z33 z34)), (z1, .inl (cI, 16, .inl (nF kd))), (z2, .inl (cI, 16, .inl (nF lf))), (z3, .inl (cI, 16, .inl (nF rg))), (z21, .inl (cI, 4, .inl (nF (va_up pp k (32 + ((lf x) / 2)))))), (z22, .inl (cI, 4, .inl (nF (va_up pa k (pb k))))), (z23, .inl (cI, 4, .inl (nF (va_up pb k (pb k)))))] := hD
          refine lv_iconst (v := (nI (1))) hx hb dX8_fits_117 (by decide) ?_
          subst hQ
          subst hAe
          have hP9 := hP.sub (ws' := [(x0, .inr (8, mO ax z1 z2 z3 fc z5 z6 z7 qs z9 z10 z11 z12 z13 hd lg fcn z17 z18 z19 md z21 z22 z23 z24 hc z26 z27 z28 z29 z30 z31 sm z33 z34)), (z1, .inl (cI, 16, .inl (nF kd))), (z2, .inl (cI, 16, .inl (nF lf))), (z3, .inl (cI, 16, .inl (nF rg))), (z21, .inl (cI, 4, .inl (nF (va_up pp k (32 + ((lf x) / 2)))))), (z22, .inl (cI, 4, .inl (nF (va_up pa k (pb k))))), (z23, .inl (cI, 4, .inl (nF (va_up pb k (pb k)))))]) [0, 1, 2, 3, 4, 5, 6] rfl
          exact W.zret (v := (nI (1))) hx hb hr (by decide) (fun t9 h9 _ => ⟨⟨(nI (1)), (true, va_up pp k (32 + ((lf x) / 2)), va_up pa k (pb k), va_up pb k (pb k)), rfl, ⟨bI_1 rfl, (show m_rpl (f_rw (kd x) (lf x) (rg x) (pp k) (pa k) (pb k)) pp pa pb k true (va_up pp k (32 + ((lf x) / 2))) (va_up pa k (pb k)) (va_up pb k (pb k)) from by (rw [show kd x = 1 by omega]; first | (exfalso; omega; done) | (rw [f_rw1_n (by assumption)]; exact ⟨rfl, rfl, rfl, rfl⟩) | (rw [f_rw1_s (by assumption), if_pos (show lf x % 2 = rg x % 2 by omega), if_pos (show lf x % 2 = rg x % 2 by omega)]; exact ⟨rfl, rfl, rfl, rfl⟩) | (rw [f_rw1_s (by assumption), if_neg (show ¬ lf x % 2 = rg x % 2 by omega), if_neg (show ¬ lf x % 2 = rg x % 2 by omega)]; exact ⟨rfl, rfl, rfl, rfl⟩)))⟩, by show va_P _ _ _ t9.heap; rw [h9]; exact hP9⟩, hS.F h9⟩) hS.2.2 dX8_fits_118
      · refine lv_iload hx hb dX8_fits_86 (lv_at hl 1 rfl) ?_
        refine lv_goto (tgt := 93) hx hb dX8_fits_88 (by decide) ?_
        refine q_iastN hx hb hK hP hD hS 5 0 rfl rfl (j := k) (x := pa k) (by omega) (by omega) dX8_fits_93 (fun H locs hP hD hS => ?_)
        have hP : va_P (dC, dI) qCl [(x0, .inr (8, mO ax z1 z2 z3 fc z5 z6 z7 qs z9 z10 z11 z12 z13 hd lg fcn z17 z18 z19 md z21 z22 z23 z24 hc z26 z27 z28 z29 z30 z31 sm z33 z34)), (z1, .inl (cI, 16, .inl (nF kd))), (z2, .inl (cI, 16, .inl (nF lf))), (z3, .inl (cI, 16, .inl (nF rg))), (z21, .inl (cI, 4, .inl (nF (va_up pp k (32 + ((lf x) / 2)))))), (z22, .inl (cI, 4, .inl (nF (va_up pa k (pa k))))), (z23, .inl (cI, 4, .inl (nF pb)))] H := hP
        have hD : va_D A [(x0, .inr (8, mO ax z1 z2 z3 fc z5 z6 z7 qs z9 z10 z11 z12 z13 hd lg fcn z17 z18 z19 md z21 z22 z23 z24 hc z26 z27 z28 z29 z30 z31 sm z33 z34)), (z1, .inl (cI, 16, .inl (nF kd))), (z2, .inl (cI, 16, .inl (nF lf))), (z3, .inl (cI, 16, .inl (nF rg))), (z21, .inl (cI, 4, .inl (nF (va_up pp k (32 + ((lf x) / 2)))))), (z22, .inl (cI, 4, .inl (nF (va_up pa k (pa k))))), (z23, .inl (cI, 4, .inl (nF pb)))] := hD
        refine lv_aload_n hx hb dX8_fits_94 rfl (lv_at hl 4 rfl) ?_
        refine va_get (D := (dC, dI)) (ci := 8) (v := .ref z23) (C := RX8) (T := TX8) (N := 35) hx hb hts uX8 hown hK hP 0 rfl rfl 23 (by decide) (hts _ kfX8_62) (fun _ h9 => h9) rfl dX8_fits_95 ?_
        refine lv_iload_n hx hb dX8_fits_98 rfl (lv_at hl 5 rfl) ?_
        refine lv_iload_n hx hb dX8_fits_99 rfl (lv_at hl 3 rfl) ?_
        refine lv_iconst (v := (nI (2))) hx hb dX8_fits_100 (by decide) ?_
        refine q_irem (x := lf x) (y := 2) hx hb (by omega) (by omega) (by omega) dX8_fits_101 ?_
        refine lv_iload hx hb dX8_fits_102 (lv_at hl 2 rfl) ?_
        refine lv_iconst (v := (nI (2))) hx hb dX8_fits_104 (by decide) ?_
        refine q_irem (x := rg x) (y := 2) hx hb (by omega) (by omega) (by omega) dX8_fits_105 ?_
        refine q_icmp_ne (x := (lf x) % 2) (y := (rg x) % 2) (tgt := 114) hx hb dX8_fits_106 (by decide) (by omega) (by omega) (fun c106_35 => ?_) (fun c106_35 => ?_)
        · refine lv_iload hx hb dX8_fits_114 (lv_at hl 1 rfl) ?_
          refine q_iastN hx hb hK hP hD hS 6 0 rfl rfl (j := k) (x := pa k) (by omega) (by omega) dX8_fits_116 (fun H locs hP hD hS => ?_)
          have hP : va_P (dC, dI) qCl [(x0, .inr (8, mO ax z1 z2 z3 fc z5 z6 z7 qs z9 z10 z11 z12 z13 hd lg fcn z17 z18 z19 md z21 z22 z23 z24 hc z26 z27 z28 z29 z30 z31 sm z33 z34)), (z1, .inl (cI, 16, .inl (nF kd))), (z2, .inl (cI, 16, .inl (nF lf))), (z3, .inl (cI, 16, .inl (nF rg))), (z21, .inl (cI, 4, .inl (nF (va_up pp k (32 + ((lf x) / 2)))))), (z22, .inl (cI, 4, .inl (nF (va_up pa k (pa k))))), (z23, .inl (cI, 4, .inl (nF (va_up pb k (pa k)))))] H := hP
          have hD : va_D A [(x0, .inr (8, mO ax z1 z2 z3 fc z5 z6 z7 qs z9 z10 z11 z12 z13 hd lg fcn z17 z18 z19 md z21 z22 z23 z24 hc z26 z27 z28 z29 z30 z31 sm z33 z34)), (z1, .inl (cI, 16, .inl (nF kd))), (z2, .inl (cI, 16, .inl (nF lf))), (z3, .inl (cI, 16, .inl (nF rg))), (z21, .inl (cI, 4, .inl (nF (va_up pp k (32 + ((lf x) / 2)))))), (z22, .inl (cI, 4, .inl (nF (va_up pa k (pa k))))), (z23, .inl (cI, 4, .inl (nF (va_up pb k (pa k)))))] := hD
          refine lv_iconst (v := (nI (1))) hx hb dX8_fits_117 (by decide) ?_
          subst hQ
          subst hAe
          have hP9 := hP.sub (ws' := [(x0, .inr (8, mO ax z1 z2 z3 fc z5 z6 z7 qs z9 z10 z11 z12 z13 hd lg fcn z17 z18 z19 md z21 z22 z23 z24 hc z26 z27 z28 z29 z30 z31 sm z33 z34)), (z1, .inl (cI, 16, .inl (nF kd))), (z2, .inl (cI, 16, .inl (nF lf))), (z3, .inl (cI, 16, .inl (nF rg))), (z21, .inl (cI, 4, .inl (nF (va_up pp k (32 + ((lf x) / 2)))))), (z22, .inl (cI, 4, .inl (nF (va_up pa k (pa k))))), (z23, .inl (cI, 4, .inl (nF (va_up pb k (pa k)))))]) [0, 1, 2, 3, 4, 5, 6] rfl
          exact W.zret (v := (nI (1))) hx hb hr (by decide) (fun t9 h9 _ => ⟨⟨(nI (1)), (true, va_up pp k (32 + ((lf x) / 2)), va_up pa k (pa k), va_up pb k (pa k)), rfl, ⟨bI_1 rfl, (show m_rpl (f_rw (kd x) (lf x) (rg x) (pp k) (pa k) (pb k)) pp pa pb k true (va_up pp k (32 + ((lf x) / 2))) (va_up pa k (pa k)) (va_up pb k (pa k)) from by (rw [show kd x = 1 by omega]; first | (exfalso; omega; done) | (rw [f_rw1_n (by assumption)]; exact ⟨rfl, rfl, rfl, rfl⟩) | (rw [f_rw1_s (by assumption), if_pos (show lf x % 2 = rg x % 2 by omega), if_pos (show lf x % 2 = rg x % 2 by omega)]; exact ⟨rfl, rfl, rfl, rfl⟩) | (rw [f_rw1_s (by assumption), if_neg (show ¬ lf x % 2 = rg x % 2 by omega), if_neg (show ¬ lf x % 2 = rg x % 2 by omega)]; exact ⟨rfl, rfl, rfl, rfl⟩)))⟩, by show va_P _ _ _ t9.heap; rw [h9]; exact hP9⟩, hS.F h9⟩) hS.2.2 dX8_fits_118
        · refine lv_iload hx hb dX8_fits_109 (lv_at hl 0 rfl) ?_
          refine lv_goto (tgt := 116) hx hb dX8_fits_111 (by decide) ?_
          refine q_iastN hx hb hK hP hD hS 6 0 rfl rfl (j := k) (x := pb k) (by omega) (by omega) dX8_fits_116 (fun H locs hP hD hS => ?_)
          have hP : va_P (dC, dI) qCl [(x0, .inr (8, mO ax z1 z2 z3 fc z5 z6 z7 qs z9 z10 z11 z12 z13 hd lg fcn z17 z18 z19 md z21 z22 z23 z24 hc z26 z27 z28 z29 z30 z31 sm z33 z34)), (z1, .inl (cI, 16, .inl (nF kd))), (z2, .inl (cI, 16, .inl (nF lf))), (z3, .inl (cI, 16, .inl (nF rg))), (z21, .inl (cI, 4, .inl (nF (va_up pp k (32 + ((lf x) / 2)))))), (z22, .inl (cI, 4, .inl (nF (va_up pa k (pa k))))), (z23, .inl (cI, 4, .inl (nF (va_up pb k (pb k)))))] H := hP
          have hD : va_D A [(x0, .inr (8, mO ax z1 z2 z3 fc z5 z6 z7 qs z9 z10 z11 z12 z13 hd lg fcn z17 z18 z19 md z21 z22 z23 z24 hc z26 z27 z28 z29 z30 z31 sm z33 z34)), (z1, .inl (cI, 16, .inl (nF kd))), (z2, .inl (cI, 16, .inl (nF lf))), (z3, .inl (cI, 16, .inl (nF rg))), (z21, .inl (cI, 4, .inl (nF (va_up pp k (32 + ((lf x) / 2)))))), (z22, .inl (cI, 4, .inl (nF (va_up pa k (pa k))))), (z23, .inl (cI, 4, .inl (nF (va_up pb k (pb k)))))] := hD
          refine lv_iconst (v := (nI (1))) hx hb dX8_fits_117 (by decide) ?_
          subst hQ
          subst hAe
          have hP9 := hP.sub (ws' := [(x0, .inr (8, mO ax z1 z2 z3 fc z5 z6 z7 qs z9 z10 z11 z12 z13 hd lg fcn z17 z18 z19 md z21 z22 z23 z24 hc z26 z27 z28 z29 z30 z31 sm z33 z34)), (z1, .inl (cI, 16, .inl (nF kd))), (z2, .inl (cI, 16, .inl (nF lf))), (z3, .inl (cI, 16, .inl (nF rg))), (z21, .inl (cI, 4, .inl (nF (va_up pp k (32 + ((lf x) / 2)))))), (z22, .inl (cI, 4, .inl (nF (va_up pa k (pa k))))), (z23, .inl (cI, 4, .inl (nF (va_up pb k (pb k)))))]) [0, 1, 2, 3, 4, 5, 6] rfl
          exact W.zret (v := (nI (1))) hx hb hr (by decide) (fun t9 h9 _ => ⟨⟨(nI (1)), (true, va_up pp k (32 + ((lf x) / 2)), va_up pa k (pa k), va_up pb k (pb k)), rfl, ⟨bI_1 rfl, (show m_rpl (f_rw (kd x) (lf x) (rg x) (pp k) (pa k) (pb k)) pp pa pb k true (va_up pp k (32 + ((lf x) / 2))) (va_up pa k (pa k)) (va_up pb k (pb k)) from by (rw [show kd x = 1 by omega]; first | (exfalso; omega; done) | (rw [f_rw1_n (by assumption)]; exact ⟨rfl, rfl, rfl, rfl⟩) | (rw [f_rw1_s (by assumption), if_pos (show lf x % 2 = rg x % 2 by omega), if_pos (show lf x % 2 = rg x % 2 by omega)]; exact ⟨rfl, rfl, rfl, rfl⟩) | (rw [f_rw1_s (by assumption), if_neg (show ¬ lf x % 2 = rg x % 2 by omega), if_neg (show ¬ lf x % 2 = rg x % 2 by omega)]; exact ⟨rfl, rfl, rfl, rfl⟩)))⟩, by show va_P _ _ _ t9.heap; rw [h9]; exact hP9⟩, hS.F h9⟩) hS.2.2 dX8_fits_118
    · refine lv_iconst (v := (nI (0))) hx hb dX8_fits_41 (by decide) ?_
      subst hQ
      subst hAe
      have hP9 := hP.sub (ws' := [(x0, .inr (8, mO ax z1 z2 z3 fc z5 z6 z7 qs z9 z10 z11 z12 z13 hd lg fcn z17 z18 z19 md z21 z22 z23 z24 hc z26 z27 z28 z29 z30 z31 sm z33 z34)), (z1, .inl (cI, 16, .inl (nF kd))), (z2, .inl (cI, 16, .inl (nF lf))), (z3, .inl (cI, 16, .inl (nF rg))), (z21, .inl (cI, 4, .inl (nF pp))), (z22, .inl (cI, 4, .inl (nF pa))), (z23, .inl (cI, 4, .inl (nF pb)))]) [0, 1, 2, 3, 4, 5, 6] rfl
      exact W.zret (v := (nI (0))) hx hb hr (by decide) (fun t9 h9 _ => ⟨⟨(nI (0)), (false, pp, pa, pb), rfl, ⟨bI_0 rfl, (show m_rpl (f_rw (kd x) (lf x) (rg x) (pp k) (pa k) (pb k)) pp pa pb k false pp pa pb from by (rw [show kd x = 1 by omega]; first | (exfalso; omega; done) | (rw [f_rw1_n (by assumption)]; exact ⟨rfl, rfl, rfl, rfl⟩) | (rw [f_rw1_s (by assumption), if_pos (show lf x % 2 = rg x % 2 by omega), if_pos (show lf x % 2 = rg x % 2 by omega)]; exact ⟨rfl, rfl, rfl, rfl⟩) | (rw [f_rw1_s (by assumption), if_neg (show ¬ lf x % 2 = rg x % 2 by omega), if_neg (show ¬ lf x % 2 = rg x % 2 by omega)]; exact ⟨rfl, rfl, rfl, rfl⟩)))⟩, by show va_P _ _ _ t9.heap; rw [h9]; exact hP9⟩, hS.F h9⟩) hS.2.2 dX8_fits_42
