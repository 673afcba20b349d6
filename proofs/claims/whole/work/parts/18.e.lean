theorem b_no {x : Bool} {P : Prop} (h : x = true) (h2 : x = false) : P := by rw [h] at h2; cases h2
def f_tt (a : Nat) : Nat → Option Nat := va_up (fun _ => none) 0 (some a)
def f_t2 (a b : Nat) : Nat → Option Nat := va_up (f_tt a) 1 (some b)
def f_sec (nm pl mb tg sr sta en : Nat → Nat) (n an : Nat) (jn : Bool) (a b : Nat) : Prop := if an = 2 ∧ jn = false then ∀ i, i < n → f_fit nm pl mb tg sr sta en (f_tt a) 1 i b = true else b = if jn = true then a else 0
theorem f_sec_n {nm pl mb tg sr sta en : Nat → Nat} {n an : Nat} {jn : Bool} {a b : Nat} (h : ¬ (an = 2 ∧ jn = false)) : f_sec nm pl mb tg sr sta en n an jn a b ↔ b = if jn = true then a else 0 := by
  unfold f_sec
  rw [if_neg h]
def f_cok (pl : Nat → Nat) (n an : Nat) (jn : Bool) : Prop := 0 < f_cnt pl 0 (2 * n) ∧ (an = 2 ∧ jn = false → 0 < f_cnt pl 1 (2 * n))
def f_col (nm pl mb tg sr sta en : Nat → Nat) (n an : Nat) (jn : Bool) (a b : Nat) : Prop := f_cok pl n an jn ∧ (∀ i, i < n → f_fit nm pl mb tg sr sta en (fun _ => none) 0 i a = true) ∧ f_sec nm pl mb tg sr sta en n an jn a b ∧ f_comp nm pl mb tg sr sta en n 4 2 (f_t2 a b)
def f_colr (C : Nat → Nat → Prop) (k : Nat) (fd g : Nat → Option Nat) : Prop := ∀ j, (fd j ≠ none → g j = fd j) ∧ (fd j = none → (j / 16 < 12 ∧ j % 16 < 12 ∧ C (j / 16) (j % 16) → g j = some k) ∧ (¬ (j / 16 < 12 ∧ j % 16 < 12 ∧ C (j / 16) (j % 16)) → g j = none))
theorem f_colr_c {C C' : Nat → Nat → Prop} {k : Nat} {fd g : Nat → Option Nat} (h : f_colr C k fd g) (hc : ∀ a b, a < 12 → b < 12 → (C a b ↔ C' a b)) : f_colr C' k fd g := by
  intro j
  refine ⟨(h j).1, fun h0 => ⟨fun ⟨h1, h2, h3⟩ => ((h j).2 h0).1 ⟨h1, h2, (hc _ _ h1 h2).mpr h3⟩, fun h1 => ((h j).2 h0).2 (fun ⟨h2, h3, h4⟩ => h1 ⟨h2, h3, (hc _ _ h2 h3).mp h4⟩)⟩⟩
theorem f_colr_0 {C : Nat → Nat → Prop} (k : Nat) (fd : Nat → Option Nat) (hc : ∀ a b, a < 12 → b < 12 → ¬ C a b) : f_colr C k fd fd := by
  intro j
  exact ⟨fun _ => rfl, fun h0 => ⟨fun ⟨h1, h2, h3⟩ => absurd h3 (hc _ _ h1 h2), fun _ => h0⟩⟩
theorem f_colr_A {C : Nat → Nat → Prop} {k i j : Nat} {fd g : Nat → Option Nat} (h : f_colr (fun a b => (a < i ∨ a = i ∧ b < j) ∧ C a b) k fd g) (hn : ¬ C i j) : f_colr (fun a b => (a < i ∨ a = i ∧ b < j + 1) ∧ C a b) k fd g := by
  refine f_colr_c h (fun a b _ _ => ⟨fun ⟨h1, h2⟩ => ⟨by omega, h2⟩, fun ⟨h1, h2⟩ => ⟨?_, h2⟩⟩)
  rcases Nat.lt_trichotomy a i with h3 | h3 | h3
  · exact Or.inl h3
  · subst h3
    rcases Nat.lt_trichotomy b j with h4 | h4 | h4
    · exact Or.inr ⟨rfl, h4⟩
    · subst h4; exact absurd h2 hn
    · omega
  · omega
theorem f_colr_none {C : Nat → Nat → Prop} {k i j : Nat} {fd g : Nat → Option Nat} (h : f_colr (fun a b => (a < i ∨ a = i ∧ b < j) ∧ C a b) k fd g) (hj : j < 12) : fd (16 * i + j) = none → g (16 * i + j) = none := by
  intro h0
  refine ((h (16 * i + j)).2 h0).2 (fun ⟨_, _, h3, _⟩ => ?_)
  have e1 : (16 * i + j) / 16 = i := by omega
  have e2 : (16 * i + j) % 16 = j := by omega
  rw [e1, e2] at h3
  omega
theorem f_colr_B {C : Nat → Nat → Prop} {k i j : Nat} {fd g : Nat → Option Nat} (h : f_colr (fun a b => (a < i ∨ a = i ∧ b < j) ∧ C a b) k fd g) (hj : j < 12) (hg : ¬ g (16 * i + j) = none) : f_colr (fun a b => (a < i ∨ a = i ∧ b < j + 1) ∧ C a b) k fd g := by
  intro q
  by_cases hq : q = 16 * i + j
  · subst hq
    refine ⟨(h _).1, fun h0 => absurd (f_colr_none h hj h0) hg⟩
  · refine ⟨(h q).1, fun h0 => ⟨fun ⟨h1, h2, h3, h4⟩ => ((h q).2 h0).1 ⟨h1, h2, ?_, h4⟩, fun h1 => ((h q).2 h0).2 (fun ⟨h2, h3, h4, h5⟩ => h1 ⟨h2, h3, by omega, h5⟩)⟩⟩
    omega
theorem f_colr_C {C : Nat → Nat → Prop} {k i j : Nat} {fd g : Nat → Option Nat} {o : Option Nat} (h : f_colr (fun a b => (a < i ∨ a = i ∧ b < j) ∧ C a b) k fd g) (hi : i < 12) (hj : j < 12) (hg : g (16 * i + j) = none) (ho : C i j ∧ o = some k ∨ ¬ C i j ∧ o = none) : f_colr (fun a b => (a < i ∨ a = i ∧ b < j + 1) ∧ C a b) k fd (va_up g (16 * i + j) o) := by
  have hf : fd (16 * i + j) = none := by
    cases hq : fd (16 * i + j) with
    | none => rfl
    | some z => have := (h (16 * i + j)).1 (by rw [hq]; simp); rw [hg, hq] at this; cases this
  have e1 : (16 * i + j) / 16 = i := by omega
  have e2 : (16 * i + j) % 16 = j := by omega
  intro q
  by_cases hq : q = 16 * i + j
  · subst hq
    rw [up_s, e1, e2]
    refine ⟨fun h0 => absurd hf h0, fun _ => ?_⟩
    rcases ho with ⟨h1, h2⟩ | ⟨h1, h2⟩
    · exact ⟨fun _ => h2, fun h3 => absurd ⟨hi, hj, Or.inr ⟨rfl, by omega⟩, h1⟩ h3⟩
    · exact ⟨fun ⟨_, _, _, h3⟩ => absurd h3 h1, fun _ => h2⟩
  · rw [up_n _ _ hq]
    refine ⟨(h q).1, fun h0 => ⟨fun ⟨h1, h2, h3, h4⟩ => ((h q).2 h0).1 ⟨h1, h2, ?_, h4⟩, fun h1 => ((h q).2 h0).2 (fun ⟨h2, h3, h4, h5⟩ => h1 ⟨h2, h3, by omega, h5⟩)⟩⟩
    omega
theorem f_colr_n {C : Nat → Nat → Prop} {k i : Nat} {fd g : Nat → Option Nat} (h : f_colr (fun a b => (a < i ∨ a = i ∧ b < 12) ∧ C a b) k fd g) : f_colr (fun a b => a < i + 1 ∧ C a b) k fd g := f_colr_c h (fun a b _ hb => ⟨fun ⟨h1, h2⟩ => ⟨by omega, h2⟩, fun ⟨h1, h2⟩ => ⟨by omega, h2⟩⟩)
theorem f_colr_i {C : Nat → Nat → Prop} {k i : Nat} {fd g : Nat → Option Nat} (h : f_colr (fun a b => a < i ∧ C a b) k fd g) : f_colr (fun a b => (a < i ∨ a = i ∧ b < 0) ∧ C a b) k fd g := f_colr_c h (fun a b _ hb => ⟨fun ⟨h1, h2⟩ => ⟨by omega, h2⟩, fun ⟨h1, h2⟩ => ⟨by omega, h2⟩⟩)
theorem f_colr_sk {C : Nat → Nat → Prop} {k i : Nat} {fd g : Nat → Option Nat} (h : f_colr (fun a b => a < i ∧ C a b) k fd g) (hn : ∀ b, ¬ C i b) : f_colr (fun a b => a < i + 1 ∧ C a b) k fd g := f_colr_c h (fun a b _ hb => ⟨fun ⟨h1, h2⟩ => ⟨by omega, h2⟩, fun ⟨h1, h2⟩ => ⟨by
    rcases Nat.lt_or_ge a i with h3 | h3
    · exact h3
    · have : a = i := by omega
      subst this; exact absurd h2 (hn b), h2⟩⟩)
theorem f_colr_lt {C : Nat → Nat → Prop} {k b : Nat} {fd g : Nat → Option Nat} (h : f_colr C k fd g) (hk : k < b) (hf : ∀ j m, fd j = some m → m < b) : ∀ j m, g j = some m → m < b := by
  intro j m hm
  by_cases h0 : fd j = none
  · by_cases h1 : j / 16 < 12 ∧ j % 16 < 12 ∧ C (j / 16) (j % 16)
    · rw [((h j).2 h0).1 h1] at hm; cases hm; exact hk
    · rw [((h j).2 h0).2 h1] at hm; cases hm
  · rw [(h j).1 h0] at hm; exact hf j m hm
theorem f_fit_cg {nm pl mb tg sr sta en : Nat → Nat} {tv tv' : Nat → Option Nat} {v : Nat} (h : ∀ w, w ≠ v → tv w = tv' w) (i t : Nat) : f_fit nm pl mb tg sr sta en tv v i t = f_fit nm pl mb tg sr sta en tv' v i t := by
  have ht : ∀ w, w ≠ v → f_th tv w = f_th tv' w := fun w hw => by unfold f_th; rw [h w hw]
  unfold f_fit
  by_cases h0 : nm i < 32
  · rw [if_pos h0, if_pos h0]
  · rw [if_neg h0, if_neg h0]
    by_cases h1 : pl (2 * i) = v ∧ pl (2 * i + 1) = v
    · rw [if_pos h1, if_pos h1]
    · rw [if_neg h1, if_neg h1]
      by_cases h2 : pl (2 * i) = v
      · rw [if_pos h2, if_pos h2, ht _ (fun h3 => h1 ⟨h2, h3⟩)]
      · rw [if_neg h2, if_neg h2]
        by_cases h3 : pl (2 * i + 1) = v
        · rw [if_pos h3, if_pos h3, ht _ h2]
        · rw [if_neg h3, if_neg h3]
theorem sec_bit {jn : Bool} {a b : Nat} (ha : a < 12) : (2 ^ (if jn = true then a else 0)).testBit b = true ↔ b = if jn = true then a else 0 := by
  rw [Nat.testBit_two_pow, decide_eq_true_eq]; exact eq_comm
theorem f_tt_cg {tx : Nat → Option Nat} {i : Nat} (h : ∀ w, 2 ≤ w → tx w = none) (w : Nat) (hw : w ≠ 1) : va_up tx 0 (some i) w = f_tt i w := by
  unfold f_tt
  by_cases h0 : w = 0
  · rw [h0, up_s, up_s]
  · rw [up_n _ _ h0, up_n _ _ h0]; exact h w (by omega)
theorem f_t2_n {a b w : Nat} (hw : 2 ≤ w) : f_t2 a b w = none := by
  rw [f_t2, up_n _ _ (by omega), f_tt, up_n _ _ (by omega)]
theorem f_t2_lt {a b : Nat} (ha : a < 12) (hb : b < 12) : ∀ j k, f_t2 a b j = some k → k < 12 := up_olt (up_olt (fun j k h => by cases h) ha) hb
theorem f_t2_eq {tz : Nat → Option Nat} {a b : Nat} (h0 : tz 0 = some a) (h : ∀ w, 2 ≤ w → tz w = none) : va_up tz 1 (some b) = f_t2 a b := by
  refine up_up (fun j hj => ?_) _
  unfold f_tt
  by_cases hj0 : j = 0
  · rw [hj0, up_s]; exact h0
  · rw [up_n _ _ hj0]; exact h j (by omega)
abbrev cX2_collect : ByteArray := prog_4_method_4_code
def yX2_collect : MethodName := ⟨RX2, "collect", "(LQlRewrite$Question;I)V"⟩
def wkX2_collect : List Cond := .code yX2_collect cX2_collect 9 none :: qW
set_option maxRecDepth 40000 in
theorem gkX2_collect : GoodIn qW wkX2_collect := q_good (qw 505 rfl rfl)
set_option maxRecDepth 40000 in
theorem knX2_collect : Cond.instanceMethod yX2_collect ∈ qW := qw 504 rfl rfl
set_option maxRecDepth 40000 in
theorem klX2_collect : Cond.selects RX2 yX2_collect yX2_collect ∈ qW := qw 11 rfl rfl
theorem dX2_collect_0 : decode cX2_collect 0 = .ok (.aload_n 1, 1) := by decide +kernel
theorem dX2_collect_1 : decode cX2_collect 1 = .ok (.getfield 53, 3) := by decide +kernel
theorem dX2_collect_4 : decode cX2_collect 4 = .ok (.iconst 2, 1) := by decide +kernel
theorem dX2_collect_5 : decode cX2_collect 5 = .ok (.if_icmp .ne 17, 3) := by decide +kernel
theorem dX2_collect_8 : decode cX2_collect 8 = .ok (.aload_n 0, 1) := by decide +kernel
theorem dX2_collect_9 : decode cX2_collect 9 = .ok (.getfield 12, 3) := by decide +kernel
theorem dX2_collect_12 : decode cX2_collect 12 = .ok (.getfield 80, 3) := by decide +kernel
theorem dX2_collect_15 : decode cX2_collect 15 = .ok (.ifCond .ne 7, 3) := by decide +kernel
theorem dX2_collect_18 : decode cX2_collect 18 = .ok (.iconst 1, 1) := by decide +kernel
theorem dX2_collect_19 : decode cX2_collect 19 = .ok (.goto 4, 3) := by decide +kernel
theorem dX2_collect_22 : decode cX2_collect 22 = .ok (.iconst 0, 1) := by decide +kernel
theorem dX2_collect_23 : decode cX2_collect 23 = .ok (.istore_n 3, 1) := by decide +kernel
theorem dX2_collect_24 : decode cX2_collect 24 = .ok (.aload_n 0, 1) := by decide +kernel
theorem dX2_collect_25 : decode cX2_collect 25 = .ok (.getfield 12, 3) := by decide +kernel
theorem dX2_collect_28 : decode cX2_collect 28 = .ok (.iconst 0, 1) := by decide +kernel
theorem dX2_collect_29 : decode cX2_collect 29 = .ok (.invokevirtual 83, 3) := by decide +kernel
theorem dX2_collect_32 : decode cX2_collect 32 = .ok (.ifCond .eq 18, 3) := by decide +kernel
theorem dX2_collect_35 : decode cX2_collect 35 = .ok (.iload_n 3, 1) := by decide +kernel
theorem dX2_collect_36 : decode cX2_collect 36 = .ok (.ifCond .eq 15, 3) := by decide +kernel
theorem dX2_collect_39 : decode cX2_collect 39 = .ok (.aload_n 0, 1) := by decide +kernel
theorem dX2_collect_40 : decode cX2_collect 40 = .ok (.getfield 12, 3) := by decide +kernel
theorem dX2_collect_43 : decode cX2_collect 43 = .ok (.iconst 1, 1) := by decide +kernel
theorem dX2_collect_44 : decode cX2_collect 44 = .ok (.invokevirtual 83, 3) := by decide +kernel
theorem dX2_collect_47 : decode cX2_collect 47 = .ok (.ifCond .ne 4, 3) := by decide +kernel
theorem dX2_collect_50 : decode cX2_collect 50 = .ok (.return_, 1) := by decide +kernel
theorem dX2_collect_51 : decode cX2_collect 51 = .ok (.aload_n 0, 1) := by decide +kernel
theorem dX2_collect_52 : decode cX2_collect 52 = .ok (.iconst 0, 1) := by decide +kernel
theorem dX2_collect_53 : decode cX2_collect 53 = .ok (.invokevirtual 87, 3) := by decide +kernel
theorem dX2_collect_56 : decode cX2_collect 56 = .ok (.istore 4, 2) := by decide +kernel
theorem dX2_collect_58 : decode cX2_collect 58 = .ok (.iconst 0, 1) := by decide +kernel
theorem dX2_collect_59 : decode cX2_collect 59 = .ok (.istore 5, 2) := by decide +kernel
theorem dX2_collect_61 : decode cX2_collect 61 = .ok (.iload 5, 2) := by decide +kernel
theorem dX2_collect_63 : decode cX2_collect 63 = .ok (.bipush 12, 2) := by decide +kernel
theorem dX2_collect_65 : decode cX2_collect 65 = .ok (.if_icmp .ge 134, 3) := by decide +kernel
theorem dX2_collect_68 : decode cX2_collect 68 = .ok (.iload 5, 2) := by decide +kernel
theorem dX2_collect_70 : decode cX2_collect 70 = .ok (.iload 4, 2) := by decide +kernel
theorem dX2_collect_72 : decode cX2_collect 72 = .ok (.invokestatic 90, 3) := by decide +kernel
theorem dX2_collect_75 : decode cX2_collect 75 = .ok (.ifCond .eq 118, 3) := by decide +kernel
theorem dX2_collect_78 : decode cX2_collect 78 = .ok (.aload_n 0, 1) := by decide +kernel
theorem dX2_collect_79 : decode cX2_collect 79 = .ok (.getfield 18, 3) := by decide +kernel
theorem dX2_collect_82 : decode cX2_collect 82 = .ok (.iconst 0, 1) := by decide +kernel
theorem dX2_collect_83 : decode cX2_collect 83 = .ok (.iload 5, 2) := by decide +kernel
theorem dX2_collect_85 : decode cX2_collect 85 = .ok (.iastore, 1) := by decide +kernel
theorem dX2_collect_86 : decode cX2_collect 86 = .ok (.iload_n 3, 1) := by decide +kernel
theorem dX2_collect_87 : decode cX2_collect 87 = .ok (.ifCond .eq 11, 3) := by decide +kernel
theorem dX2_collect_90 : decode cX2_collect 90 = .ok (.aload_n 0, 1) := by decide +kernel
theorem dX2_collect_91 : decode cX2_collect 91 = .ok (.iconst 1, 1) := by decide +kernel
theorem dX2_collect_92 : decode cX2_collect 92 = .ok (.invokevirtual 87, 3) := by decide +kernel
theorem dX2_collect_95 : decode cX2_collect 95 = .ok (.goto 21, 3) := by decide +kernel
theorem dX2_collect_98 : decode cX2_collect 98 = .ok (.iconst 1, 1) := by decide +kernel
theorem dX2_collect_99 : decode cX2_collect 99 = .ok (.aload_n 0, 1) := by decide +kernel
theorem dX2_collect_100 : decode cX2_collect 100 = .ok (.getfield 12, 3) := by decide +kernel
theorem dX2_collect_103 : decode cX2_collect 103 = .ok (.getfield 80, 3) := by decide +kernel
theorem dX2_collect_106 : decode cX2_collect 106 = .ok (.ifCond .eq 8, 3) := by decide +kernel
theorem dX2_collect_109 : decode cX2_collect 109 = .ok (.iload 5, 2) := by decide +kernel
theorem dX2_collect_111 : decode cX2_collect 111 = .ok (.goto 4, 3) := by decide +kernel
theorem dX2_collect_114 : decode cX2_collect 114 = .ok (.iconst 0, 1) := by decide +kernel
theorem dX2_collect_115 : decode cX2_collect 115 = .ok (.ishl, 1) := by decide +kernel
theorem dX2_collect_116 : decode cX2_collect 116 = .ok (.istore 6, 2) := by decide +kernel
theorem dX2_collect_118 : decode cX2_collect 118 = .ok (.iconst 0, 1) := by decide +kernel
theorem dX2_collect_119 : decode cX2_collect 119 = .ok (.istore 7, 2) := by decide +kernel
theorem dX2_collect_121 : decode cX2_collect 121 = .ok (.iload 7, 2) := by decide +kernel
theorem dX2_collect_123 : decode cX2_collect 123 = .ok (.bipush 12, 2) := by decide +kernel
theorem dX2_collect_125 : decode cX2_collect 125 = .ok (.if_icmp .ge 68, 3) := by decide +kernel
theorem dX2_collect_128 : decode cX2_collect 128 = .ok (.bipush 16, 2) := by decide +kernel
theorem dX2_collect_130 : decode cX2_collect 130 = .ok (.iload 5, 2) := by decide +kernel
theorem dX2_collect_132 : decode cX2_collect 132 = .ok (.imul, 1) := by decide +kernel
theorem dX2_collect_133 : decode cX2_collect 133 = .ok (.iload 7, 2) := by decide +kernel
theorem dX2_collect_135 : decode cX2_collect 135 = .ok (.iadd, 1) := by decide +kernel
theorem dX2_collect_136 : decode cX2_collect 136 = .ok (.istore 8, 2) := by decide +kernel
theorem dX2_collect_138 : decode cX2_collect 138 = .ok (.iload 7, 2) := by decide +kernel
theorem dX2_collect_140 : decode cX2_collect 140 = .ok (.iload 6, 2) := by decide +kernel
theorem dX2_collect_142 : decode cX2_collect 142 = .ok (.invokestatic 90, 3) := by decide +kernel
theorem dX2_collect_145 : decode cX2_collect 145 = .ok (.ifCond .eq 42, 3) := by decide +kernel
theorem dX2_collect_148 : decode cX2_collect 148 = .ok (.aload_n 1, 1) := by decide +kernel
theorem dX2_collect_149 : decode cX2_collect 149 = .ok (.getfield 26, 3) := by decide +kernel
theorem dX2_collect_152 : decode cX2_collect 152 = .ok (.iload 8, 2) := by decide +kernel
theorem dX2_collect_154 : decode cX2_collect 154 = .ok (.iaload, 1) := by decide +kernel
theorem dX2_collect_155 : decode cX2_collect 155 = .ok (.iconst (-1), 1) := by decide +kernel
theorem dX2_collect_156 : decode cX2_collect 156 = .ok (.if_icmp .ne 31, 3) := by decide +kernel
theorem dX2_collect_159 : decode cX2_collect 159 = .ok (.aload_n 0, 1) := by decide +kernel
theorem dX2_collect_160 : decode cX2_collect 160 = .ok (.getfield 18, 3) := by decide +kernel
theorem dX2_collect_163 : decode cX2_collect 163 = .ok (.iconst 1, 1) := by decide +kernel
theorem dX2_collect_164 : decode cX2_collect 164 = .ok (.iload 7, 2) := by decide +kernel
theorem dX2_collect_166 : decode cX2_collect 166 = .ok (.iastore, 1) := by decide +kernel
theorem dX2_collect_167 : decode cX2_collect 167 = .ok (.aload_n 1, 1) := by decide +kernel
theorem dX2_collect_168 : decode cX2_collect 168 = .ok (.getfield 26, 3) := by decide +kernel
theorem dX2_collect_171 : decode cX2_collect 171 = .ok (.iload 8, 2) := by decide +kernel
theorem dX2_collect_173 : decode cX2_collect 173 = .ok (.aload_n 0, 1) := by decide +kernel
theorem dX2_collect_174 : decode cX2_collect 174 = .ok (.iconst 2, 1) := by decide +kernel
theorem dX2_collect_175 : decode cX2_collect 175 = .ok (.invokevirtual 60, 3) := by decide +kernel
theorem dX2_collect_178 : decode cX2_collect 178 = .ok (.ifCond .eq 7, 3) := by decide +kernel
theorem dX2_collect_181 : decode cX2_collect 181 = .ok (.iload_n 2, 1) := by decide +kernel
theorem dX2_collect_182 : decode cX2_collect 182 = .ok (.goto 4, 3) := by decide +kernel
theorem dX2_collect_185 : decode cX2_collect 185 = .ok (.iconst (-1), 1) := by decide +kernel
theorem dX2_collect_186 : decode cX2_collect 186 = .ok (.iastore, 1) := by decide +kernel
theorem dX2_collect_187 : decode cX2_collect 187 = .ok (.iinc 7 1, 3) := by decide +kernel
theorem dX2_collect_190 : decode cX2_collect 190 = .ok (.goto (-69), 3) := by decide +kernel
theorem dX2_collect_193 : decode cX2_collect 193 = .ok (.iinc 5 1, 3) := by decide +kernel
theorem dX2_collect_196 : decode cX2_collect 196 = .ok (.goto (-135), 3) := by decide +kernel
theorem dX2_collect_199 : decode cX2_collect 199 = .ok (.return_, 1) := by decide +kernel
set_option maxRecDepth 40000 in
theorem kfX2_26 : Cond.fieldLink RX2 26 "QlRewrite$Question" "finders" "[I" ∈ qW := qw 178 rfl rfl
set_option maxRecDepth 40000 in
theorem kfX2_80 : Cond.fieldLink RX2 80 "QlRewrite$Form" "joined" "Z" ∈ qW := qw 147 rfl rfl
set_option maxRecDepth 40000 in
theorem kfX2_53 : Cond.fieldLink RX2 53 "QlRewrite$Question" "answers" "I" ∈ qW := qw 161 rfl rfl
abbrev rm_c_Finder_collect : Room := { frames := 6, cells := 0, slots := 0, locals := 146 }
set_option maxHeartbeats 4000000 in
set_option maxRecDepth 100000 in
theorem c_Finder_collect (l : Launch) (dC : Nat → ClassId) (dI : Nat → Nat → Nat) (cI cL cQ cZ : ClassId) (n0 : Nat) (fc0 : Nat) (fm0 : Nat) (th : Nat) (m1 : Nat) (t1 : Nat) (s1 : Nat) (st1 : Nat) (e1 : Nat) (fs : Nat) (mb : Nat → Nat) (tg : Nat → Nat) (sr : Nat → Nat) (sta : Nat → Nat) (en : Nat → Nat) (a1 : Nat) (a2 : Nat) (n : Nat) (jn : Bool) (nm : Nat → Nat) (pl : Nat → Nat) (q0 : Nat) (ow : Nat) (an : Nat) (ra : Nat) (sz : Nat) (lg : Bool) (rw9 : Bool) (fa : Nat) (se : Bool) (fd : Nat → Option Nat) (k : Nat) (hmb : ∀ j, mb j < 4096) (htg : ∀ j, tg j < 4096) (hsr : ∀ j, sr j < 4096) (hsta : ∀ j, sta j < 4096) (hen : ∀ j, en j < 4096) (hn : n ≤ 4) (hnm : f_nok nm n) (hpl : ∀ j, pl j < 16) (hfd : ∀ j k, fd j = some k → k < 90) (hk9 : k < 90) (han : an = 1 ∨ an = 2) : Met l yX2_collect wkX2_collect rm_c_Finder_collect (q_W (dC, dI) qCl (qT cI cL cQ cZ) [(n0, .inr (2, [.ref fc0, .ref fm0, .ref th])), (th, .inl (cI, 6, .inl (oF (fun _ => none)))), (fc0, .inr (1, [.ref m1, .ref t1, .ref s1, .ref st1, .ref e1, .int (nI (fs))])), (m1, .inl (cI, 10, .inl (nF mb))), (t1, .inl (cI, 96, .inl (nF tg))), (s1, .inl (cI, 96, .inl (nF sr))), (st1, .inl (cI, 8, .inl (nF sta))), (e1, .inl (cI, 8, .inl (nF en))), (fm0, .inr (3, [.ref a1, .ref a2, .int (nI (n)), .int (bI (jn))])), (a1, .inl (cI, 4, .inl (nF nm))), (a2, .inl (cI, 8, .inl (nF pl))), (q0, .inr (5, [.ref ow, .int (nI (an)), .ref ra, .int (nI (sz)), .int (bI (lg)), .int (bI (rw9)), .ref fa, .int (bI (se))])), (fa, .inl (cI, 192, .inl (oF fd)))] [.ref n0, .ref q0, .int (nI (k))]) (va_Qv (fun (u : (Nat → Option Nat) × (Nat → Option Nat)) => (∀ j k, u.1 j = some k → k < 12) ∧ (f_colr (f_col nm pl mb tg sr sta en n an jn) k fd u.2)) (fun (u : (Nat → Option Nat) × (Nat → Option Nat)) t => va_P (dC, dI) qCl [(n0, .inr (2, [.ref fc0, .ref fm0, .ref th])), (th, .inl (cI, 6, .inl (oF u.1))), (fc0, .inr (1, [.ref m1, .ref t1, .ref s1, .ref st1, .ref e1, .int (nI (fs))])), (m1, .inl (cI, 10, .inl (nF mb))), (t1, .inl (cI, 96, .inl (nF tg))), (s1, .inl (cI, 96, .inl (nF sr))), (st1, .inl (cI, 8, .inl (nF sta))), (e1, .inl (cI, 8, .inl (nF en))), (fm0, .inr (3, [.ref a1, .ref a2, .int (nI (n)), .int (bI (jn))])), (a1, .inl (cI, 4, .inl (nF nm))), (a2, .inl (cI, 8, .inl (nF pl))), (q0, .inr (5, [.ref ow, .int (nI (an)), .ref ra, .int (nI (sz)), .int (bI (lg)), .int (bI (rw9)), .ref fa, .int (bI (se))])), (fa, .inl (cI, 192, .inl (oF u.2)))] t.heap) (q_A [(n0, .inr (2, [.ref fc0, .ref fm0, .ref th])), (th, .inl (cI, 6, .inl (oF (fun _ => none)))), (fc0, .inr (1, [.ref m1, .ref t1, .ref s1, .ref st1, .ref e1, .int (nI (fs))])), (m1, .inl (cI, 10, .inl (nF mb))), (t1, .inl (cI, 96, .inl (nF tg))), (s1, .inl (cI, 96, .inl (nF sr))), (st1, .inl (cI, 8, .inl (nF sta))), (e1, .inl (cI, 8, .inl (nF en))), (fm0, .inr (3, [.ref a1, .ref a2, .int (nI (n)), .int (bI (jn))])), (a1, .inl (cI, 4, .inl (nF nm))), (a2, .inl (cI, 8, .inl (nF pl))), (q0, .inr (5, [.ref ow, .int (nI (an)), .ref ra, .int (nI (sz)), .int (bI (lg)), .int (bI (rw9)), .ref fa, .int (bI (se))])), (fa, .inl (cI, 192, .inl (oF fd)))])) 0 0 (q_A [(n0, .inr (2, [.ref fc0, .ref fm0, .ref th])), (th, .inl (cI, 6, .inl (oF (fun _ => none)))), (fc0, .inr (1, [.ref m1, .ref t1, .ref s1, .ref st1, .ref e1, .int (nI (fs))])), (m1, .inl (cI, 10, .inl (nF mb))), (t1, .inl (cI, 96, .inl (nF tg))), (s1, .inl (cI, 96, .inl (nF sr))), (st1, .inl (cI, 8, .inl (nF sta))), (e1, .inl (cI, 8, .inl (nF en))), (fm0, .inr (3, [.ref a1, .ref a2, .int (nI (n)), .int (bI (jn))])), (a1, .inl (cI, 4, .inl (nF nm))), (a2, .inl (cI, 8, .inl (nF pl))), (q0, .inr (5, [.ref ow, .int (nI (an)), .ref ra, .int (nI (sz)), .int (bI (lg)), .int (bI (rw9)), .ref fa, .int (bI (se))])), (fa, .inl (cI, 192, .inl (oF fd)))]) := by
  refine Met.ofW (cc := cX2_collect) (maxL := 9) (ret := none) (by decide) rfl ?_
  intro p e s m args below meth c s₁ B hml hv
  obtain ⟨hargs, hP, hK, hD0⟩ := hv
  have hx := B.exec
  have hb := B.bytes
  have hr := B.returns
  have hts : ∀ w ∈ qW, w.before args s = true := fun w h => atoms_spec (ws := wkX2_collect) B.pre w (List.mem_cons_of_mem _ h)
  have hown : s.vm.findClass RX2 = some m.cls := findClass_of_methodNamed B.named
  have hlocks := B.notSynchronized
  refine q_named (fun Q hQ => ?_)
  have hD : va_D (q_A [(n0, .inr (2, [.ref fc0, .ref fm0, .ref th])), (th, .inl (cI, 6, .inl (oF (fun _ => none)))), (fc0, .inr (1, [.ref m1, .ref t1, .ref s1, .ref st1, .ref e1, .int (nI (fs))])), (m1, .inl (cI, 10, .inl (nF mb))), (t1, .inl (cI, 96, .inl (nF tg))), (s1, .inl (cI, 96, .inl (nF sr))), (st1, .inl (cI, 8, .inl (nF sta))), (e1, .inl (cI, 8, .inl (nF en))), (fm0, .inr (3, [.ref a1, .ref a2, .int (nI (n)), .int (bI (jn))])), (a1, .inl (cI, 4, .inl (nF nm))), (a2, .inl (cI, 8, .inl (nF pl))), (q0, .inr (5, [.ref ow, .int (nI (an)), .ref ra, .int (nI (sz)), .int (bI (lg)), .int (bI (rw9)), .ref fa, .int (bI (se))])), (fa, .inl (cI, 192, .inl (oF fd)))]) [(n0, .inr (2, [.ref fc0, .ref fm0, .ref th])), (th, .inl (cI, 6, .inl (oF (fun _ => none)))), (fc0, .inr (1, [.ref m1, .ref t1, .ref s1, .ref st1, .ref e1, .int (nI (fs))])), (m1, .inl (cI, 10, .inl (nF mb))), (t1, .inl (cI, 96, .inl (nF tg))), (s1, .inl (cI, 96, .inl (nF sr))), (st1, .inl (cI, 8, .inl (nF sta))), (e1, .inl (cI, 8, .inl (nF en))), (fm0, .inr (3, [.ref a1, .ref a2, .int (nI (n)), .int (bI (jn))])), (a1, .inl (cI, 4, .inl (nF nm))), (a2, .inl (cI, 8, .inl (nF pl))), (q0, .inr (5, [.ref ow, .int (nI (an)), .ref ra, .int (nI (sz)), .int (bI (lg)), .int (bI (rw9)), .ref fa, .int (bI (se))])), (fa, .inl (cI, 192, .inl (oF fd)))] := ⟨hD0.1, fun k q h => ⟨k, q.2, h⟩⟩
  generalize hAe : q_A [(n0, .inr (2, [.ref fc0, .ref fm0, .ref th])), (th, .inl (cI, 6, .inl (oF (fun _ => none)))), (fc0, .inr (1, [.ref m1, .ref t1, .ref s1, .ref st1, .ref e1, .int (nI (fs))])), (m1, .inl (cI, 10, .inl (nF mb))), (t1, .inl (cI, 96, .inl (nF tg))), (s1, .inl (cI, 96, .inl (nF sr))), (st1, .inl (cI, 8, .inl (nF sta))), (e1, .inl (cI, 8, .inl (nF en))), (fm0, .inr (3, [.ref a1, .ref a2, .int (nI (n)), .int (bI (jn))])), (a1, .inl (cI, 4, .inl (nF nm))), (a2, .inl (cI, 8, .inl (nF pl))), (q0, .inr (5, [.ref ow, .int (nI (an)), .ref ra, .int (nI (sz)), .int (bI (lg)), .int (bI (rw9)), .ref fa, .int (bI (se))])), (fa, .inl (cI, 192, .inl (oF fd)))] = A at hD
  have hS : va_S A s.heap s.heap [] := va_S.rf
  refine q_entry hargs (Nat.le_of_ble_eq_true rfl) (fun ls hl => ?_)
  have hl : lv_has ls 9 [(0, .ref n0), (1, .ref q0), (2, .int (nI (k)))] := hl
  obtain ⟨H, locs, eH, eL⟩ : ∃ (H : Heap) (locs : List Loc), s.heap = H ∧ ([] : List Loc) = locs := ⟨_, _, rfl, rfl⟩
  have hS : va_S A s.heap H locs := by rw [← eH, ← eL]; exact hS
  have hP : va_P (dC, dI) qCl [(n0, .inr (2, [.ref fc0, .ref fm0, .ref th])), (th, .inl (cI, 6, .inl (oF (fun _ => none)))), (fc0, .inr (1, [.ref m1, .ref t1, .ref s1, .ref st1, .ref e1, .int (nI (fs))])), (m1, .inl (cI, 10, .inl (nF mb))), (t1, .inl (cI, 96, .inl (nF tg))), (s1, .inl (cI, 96, .inl (nF sr))), (st1, .inl (cI, 8, .inl (nF sta))), (e1, .inl (cI, 8, .inl (nF en))), (fm0, .inr (3, [.ref a1, .ref a2, .int (nI (n)), .int (bI (jn))])), (a1, .inl (cI, 4, .inl (nF nm))), (a2, .inl (cI, 8, .inl (nF pl))), (q0, .inr (5, [.ref ow, .int (nI (an)), .ref ra, .int (nI (sz)), .int (bI (lg)), .int (bI (rw9)), .ref fa, .int (bI (se))])), (fa, .inl (cI, 192, .inl (oF fd)))] H := by rw [← eH]; exact hP
  refine W_at eH eL ?_
  have L23 : ∀ (ap : Bool) (ls : Array Slot) (H : Heap) (locs : List Loc), (ap = decide (an = 2 ∧ jn = false)) → lv_has ls 9 [(0, .ref n0), (1, .ref q0), (2, .int (nI (k)))] → va_P (dC, dI) qCl [(n0, .inr (2, [.ref fc0, .ref fm0, .ref th])), (th, .inl (cI, 6, .inl (oF (fun _ => none)))), (fc0, .inr (1, [.ref m1, .ref t1, .ref s1, .ref st1, .ref e1, .int (nI (fs))])), (m1, .inl (cI, 10, .inl (nF mb))), (t1, .inl (cI, 96, .inl (nF tg))), (s1, .inl (cI, 96, .inl (nF sr))), (st1, .inl (cI, 8, .inl (nF sta))), (e1, .inl (cI, 8, .inl (nF en))), (fm0, .inr (3, [.ref a1, .ref a2, .int (nI (n)), .int (bI (jn))])), (a1, .inl (cI, 4, .inl (nF nm))), (a2, .inl (cI, 8, .inl (nF pl))), (q0, .inr (5, [.ref ow, .int (nI (an)), .ref ra, .int (nI (sz)), .int (bI (lg)), .int (bI (rw9)), .ref fa, .int (bI (se))])), (fa, .inl (cI, 192, .inl (oF fd)))] H → va_D A [(n0, .inr (2, [.ref fc0, .ref fm0, .ref th])), (th, .inl (cI, 6, .inl (oF (fun _ => none)))), (fc0, .inr (1, [.ref m1, .ref t1, .ref s1, .ref st1, .ref e1, .int (nI (fs))])), (m1, .inl (cI, 10, .inl (nF mb))), (t1, .inl (cI, 96, .inl (nF tg))), (s1, .inl (cI, 96, .inl (nF sr))), (st1, .inl (cI, 8, .inl (nF sta))), (e1, .inl (cI, 8, .inl (nF en))), (fm0, .inr (3, [.ref a1, .ref a2, .int (nI (n)), .int (bI (jn))])), (a1, .inl (cI, 4, .inl (nF nm))), (a2, .inl (cI, 8, .inl (nF pl))), (q0, .inr (5, [.ref ow, .int (nI (an)), .ref ra, .int (nI (sz)), .int (bI (lg)), .int (bI (rw9)), .ref fa, .int (bI (se))])), (fa, .inl (cI, 192, .inl (oF fd)))] → va_S A s.heap H locs → W p l e (headSpec wkX2_collect rm_c_Finder_collect).room s m args below meth c H locs 0 0 Q (F0 m 23 ls [.int (bI (ap))]) := by
    intro ap ls H locs hap hl hP hD hS
    refine lv_istore_n (lv' := [(3, .int (bI (ap))), (0, .ref n0), (1, .ref q0), (2, .int (nI (k)))]) hx hb dX2_collect_23 rfl hl (by decide) rfl (fun ls hl => ?_)
    have L51 : ∀  (ls : Array Slot) (H : Heap) (locs : List Loc), (f_cok pl n an jn) → lv_has ls 9 [(3, .int (bI (ap))), (0, .ref n0), (1, .ref q0), (2, .int (nI (k)))] → va_P (dC, dI) qCl [(n0, .inr (2, [.ref fc0, .ref fm0, .ref th])), (th, .inl (cI, 6, .inl (oF (fun _ => none)))), (fc0, .inr (1, [.ref m1, .ref t1, .ref s1, .ref st1, .ref e1, .int (nI (fs))])), (m1, .inl (cI, 10, .inl (nF mb))), (t1, .inl (cI, 96, .inl (nF tg))), (s1, .inl (cI, 96, .inl (nF sr))), (st1, .inl (cI, 8, .inl (nF sta))), (e1, .inl (cI, 8, .inl (nF en))), (fm0, .inr (3, [.ref a1, .ref a2, .int (nI (n)), .int (bI (jn))])), (a1, .inl (cI, 4, .inl (nF nm))), (a2, .inl (cI, 8, .inl (nF pl))), (q0, .inr (5, [.ref ow, .int (nI (an)), .ref ra, .int (nI (sz)), .int (bI (lg)), .int (bI (rw9)), .ref fa, .int (bI (se))])), (fa, .inl (cI, 192, .inl (oF fd)))] H → va_D A [(n0, .inr (2, [.ref fc0, .ref fm0, .ref th])), (th, .inl (cI, 6, .inl (oF (fun _ => none)))), (fc0, .inr (1, [.ref m1, .ref t1, .ref s1, .ref st1, .ref e1, .int (nI (fs))])), (m1, .inl (cI, 10, .inl (nF mb))), (t1, .inl (cI, 96, .inl (nF tg))), (s1, .inl (cI, 96, .inl (nF sr))), (st1, .inl (cI, 8, .inl (nF sta))), (e1, .inl (cI, 8, .inl (nF en))), (fm0, .inr (3, [.ref a1, .ref a2, .int (nI (n)), .int (bI (jn))])), (a1, .inl (cI, 4, .inl (nF nm))), (a2, .inl (cI, 8, .inl (nF pl))), (q0, .inr (5, [.ref ow, .int (nI (an)), .ref ra, .int (nI (sz)), .int (bI (lg)), .int (bI (rw9)), .ref fa, .int (bI (se))])), (fa, .inl (cI, 192, .inl (oF fd)))] → va_S A s.heap H locs → W p l e (headSpec wkX2_collect rm_c_Finder_collect).room s m args below meth c H locs 0 0 Q (F0 m 51 ls []) := by
      intro  ls H locs hok hl hP hD hS
      refine lv_aload_n hx hb dX2_collect_51 rfl (lv_at hl 1 rfl) ?_
      refine lv_iconst (v := (nI (0))) hx hb dX2_collect_52 (by decide) ?_
      refine vp_callSi (va_Run.run (va_runV (As := [.int (nI (0))]) (rest := []) ⟨hx, hb, hml, hown, hts⟩ (c_Finder_fitting l dC dI cI cL cQ cZ n0 fc0 fm0 th m1 t1 s1 st1 e1 fs mb tg sr sta en a1 a2 n jn nm pl (fun _ => none) 0 (show ∀ j, mb j < 4096 from by first | assumption | omega) (show ∀ j, tg j < 4096 from by first | assumption | omega) (show ∀ j, sr j < 4096 from by first | assumption | omega) (show ∀ j, sta j < 4096 from by first | assumption | omega) (show ∀ j, en j < 4096 from by first | assumption | omega) (show n ≤ 4 from by first | assumption | omega) (show f_nok nm n from by first | assumption | omega) (show ∀ j, pl j < 16 from by first | assumption | omega) (show 0 < 16 from by first | assumption | omega) (show ∀ j k, (fun _ => none) j = some k → k < 12 from by (intro j k h; cases h))) (q_cwV 1 hts gkX2_fitting kmX2_87 knX2_fitting klX2_fitting kiX2 rfl rfl rfl (by decide +kernel) ⟨Nat.le_of_ble_eq_true rfl, Nat.le_of_ble_eq_true rfl⟩) (q_preV hK hP [0, 1, 2, 3, 4, 5, 6, 7, 8, 9, 10] rfl 0 (ci := 2) (r := (RX2, TX2, 3)) rfl rfl) rfl rfl hl.1 rfl (lv_room (Nat.le_of_ble_eq_true rfl)) dX2_collect_53 ⟨Nat.zero_le _, Nat.zero_le _⟩)) (fun r1 hr1 => ?_)
      have hr1 : ∃ y9, r1 = nI y9 ∧ f_fits nm pl mb tg sr sta en (fun _ => none) 0 n y9 := hr1
      have hlast := hr1
      obtain ⟨y9, ey9, hf9⟩ := hlast
      refine q_top ey9 ?_
      refine lv_istore (lv' := [(4, .int (nI (y9))), (3, .int (bI (ap))), (0, .ref n0), (1, .ref q0), (2, .int (nI (k)))]) hx hb dX2_collect_56 hl (by decide) rfl (fun ls hl => ?_)
      refine lv_iconst (v := (nI (0))) hx hb dX2_collect_58 (by decide) ?_
      refine lv_istore (lv' := [(5, .int (nI (0))), (4, .int (nI (y9))), (3, .int (bI (ap))), (0, .ref n0), (1, .ref q0), (2, .int (nI (k)))]) hx hb dX2_collect_59 hl (by decide) rfl (fun ls hl => ?_)
      have L61 : ∀ (fu : Nat) (i : Nat) (tx : Nat → Option Nat) (g : Nat → Option Nat) (ls : Array Slot) (H : Heap) (locs : List Loc), 12 - i < fu → (i ≤ 12) → (f_colr (fun a b => a < i ∧ f_col nm pl mb tg sr sta en n an jn a b) k fd g) → (∀ w, 2 ≤ w → tx w = none) → (∀ j k, tx j = some k → k < 12) → lv_has ls 9 [(5, .int (nI (i))), (4, .int (nI (y9))), (3, .int (bI (ap))), (0, .ref n0), (1, .ref q0), (2, .int (nI (k)))] → va_P (dC, dI) qCl [(n0, .inr (2, [.ref fc0, .ref fm0, .ref th])), (th, .inl (cI, 6, .inl (oF tx))), (fc0, .inr (1, [.ref m1, .ref t1, .ref s1, .ref st1, .ref e1, .int (nI (fs))])), (m1, .inl (cI, 10, .inl (nF mb))), (t1, .inl (cI, 96, .inl (nF tg))), (s1, .inl (cI, 96, .inl (nF sr))), (st1, .inl (cI, 8, .inl (nF sta))), (e1, .inl (cI, 8, .inl (nF en))), (fm0, .inr (3, [.ref a1, .ref a2, .int (nI (n)), .int (bI (jn))])), (a1, .inl (cI, 4, .inl (nF nm))), (a2, .inl (cI, 8, .inl (nF pl))), (q0, .inr (5, [.ref ow, .int (nI (an)), .ref ra, .int (nI (sz)), .int (bI (lg)), .int (bI (rw9)), .ref fa, .int (bI (se))])), (fa, .inl (cI, 192, .inl (oF g)))] H → va_D A [(n0, .inr (2, [.ref fc0, .ref fm0, .ref th])), (th, .inl (cI, 6, .inl (oF tx))), (fc0, .inr (1, [.ref m1, .ref t1, .ref s1, .ref st1, .ref e1, .int (nI (fs))])), (m1, .inl (cI, 10, .inl (nF mb))), (t1, .inl (cI, 96, .inl (nF tg))), (s1, .inl (cI, 96, .inl (nF sr))), (st1, .inl (cI, 8, .inl (nF sta))), (e1, .inl (cI, 8, .inl (nF en))), (fm0, .inr (3, [.ref a1, .ref a2, .int (nI (n)), .int (bI (jn))])), (a1, .inl (cI, 4, .inl (nF nm))), (a2, .inl (cI, 8, .inl (nF pl))), (q0, .inr (5, [.ref ow, .int (nI (an)), .ref ra, .int (nI (sz)), .int (bI (lg)), .int (bI (rw9)), .ref fa, .int (bI (se))])), (fa, .inl (cI, 192, .inl (oF g)))] → va_S A s.heap H locs → W p l e (headSpec wkX2_collect rm_c_Finder_collect).room s m args below meth c H locs 0 0 Q (F0 m 61 ls []) := by
        intro fu
        induction fu with
        | zero => intro i tx g ls H locs hmu; exact absurd hmu (Nat.not_lt_zero _)
        | succ fu ih61 =>
          intro i tx g ls H locs hmu hi hg htx htb hl hP hD hS
          refine lv_iload hx hb dX2_collect_61 (lv_at hl 0 rfl) ?_
          refine lv_bipush (v := (nI (12))) hx hb dX2_collect_63 (by decide) ?_
          refine q_icmp_ge (x := i) (y := 12) (tgt := 199) hx hb dX2_collect_65 (by decide) (by omega) (by omega) (fun c65_2 => ?_) (fun c65_2 => ?_)
          · subst hQ
            subst hAe
            have hP9 := hP.sub (ws' := [(n0, .inr (2, [.ref fc0, .ref fm0, .ref th])), (th, .inl (cI, 6, .inl (oF tx))), (fc0, .inr (1, [.ref m1, .ref t1, .ref s1, .ref st1, .ref e1, .int (nI (fs))])), (m1, .inl (cI, 10, .inl (nF mb))), (t1, .inl (cI, 96, .inl (nF tg))), (s1, .inl (cI, 96, .inl (nF sr))), (st1, .inl (cI, 8, .inl (nF sta))), (e1, .inl (cI, 8, .inl (nF en))), (fm0, .inr (3, [.ref a1, .ref a2, .int (nI (n)), .int (bI (jn))])), (a1, .inl (cI, 4, .inl (nF nm))), (a2, .inl (cI, 8, .inl (nF pl))), (q0, .inr (5, [.ref ow, .int (nI (an)), .ref ra, .int (nI (sz)), .int (bI (lg)), .int (bI (rw9)), .ref fa, .int (bI (se))])), (fa, .inl (cI, 192, .inl (oF g)))]) [0, 1, 2, 3, 4, 5, 6, 7, 8, 9, 10, 11, 12] rfl
            exact W.vret hx hb hr (fun t9 h9 _ => ⟨⟨(tx, g), rfl, ⟨(show ∀ j k, tx j = some k → k < 12 from by (exact htb)), (show f_colr (f_col nm pl mb tg sr sta en n an jn) k fd g from by (exact f_colr_c hg (fun a b ha _ => ⟨fun h => h.2, fun h => ⟨by omega, h⟩⟩)))⟩, by show va_P _ _ _ t9.heap; rw [h9]; exact hP9⟩, hS.F h9⟩) hS.2.2 dX2_collect_199
          · refine lv_iload hx hb dX2_collect_68 (lv_at hl 0 rfl) ?_
            refine lv_iload hx hb dX2_collect_70 (lv_at hl 1 rfl) ?_
            refine vp_callSi (va_Run.run (va_runS (As := [.int (nI (i)), .int (nI (y9))]) (rest := []) ⟨hx, hb, hml, hown, hts⟩ (c_Facts_isIn l dC dI cI cL cQ cZ i y9 (show y9 < 4096 from by (exact hf9.1)) (show i < 12 from by first | assumption | omega)) (q_cwS 2 hts gkX1_isIn kmX2_90 ksX1_isIn kiX1 rfl rfl rfl (by decide +kernel) ⟨Nat.le_of_ble_eq_true rfl, Nat.le_of_ble_eq_true rfl⟩) (q_preS hK hP [] rfl) rfl rfl hl.1 rfl (lv_room (Nat.le_of_ble_eq_true rfl)) dX2_collect_72 ⟨Nat.zero_le _, Nat.zero_le _⟩)) (fun r3 hr3 => ?_)
            subst hr3
            refine q_ifb_eq (b := y9.testBit i) (tgt := 193) hx hb dX2_collect_75 (by decide) (fun c75_4 => ?_) (fun c75_4 => ?_)
            · refine lv_iinc (v := (nI (i + 1))) (lv' := [(5, .int (nI (i + 1))), (4, .int (nI (y9))), (3, .int (bI (ap))), (0, .ref n0), (1, .ref q0), (2, .int (nI (k)))]) hx hb dX2_collect_193 hl (k := 0) rfl (q_inc _) (by decide) rfl (fun ls hl => ?_)
              refine lv_goto (tgt := 61) hx hb dX2_collect_196 (by decide) ?_
              exact ih61 (i + 1) tx g ls _ _ (by omega) (show (i + 1) ≤ 12 from by omega) (show f_colr (fun a b => a < (i + 1) ∧ f_col nm pl mb tg sr sta en n an jn a b) k fd g from by (first | (exact f_colr_n (by rw [show 12 = jj by omega]; exact hgg)) | (refine f_colr_sk hg (fun b h9 => ?_); have h8 := (hf9.2 i).mpr ⟨by omega, h9.2.1⟩; simp_all; done))) (show ∀ w, 2 ≤ w → tx w = none from by (first | exact htz | exact htx)) (show ∀ j k, tx j = some k → k < 12 from by (first | exact htzb | exact htb)) (lv_sub hl [0, 1, 2, 3, 4, 5] rfl) (hP.sub [0, 1, 2, 3, 4, 5, 6, 7, 8, 9, 10, 11, 12] rfl) (hD.sub [0, 1, 2, 3, 4, 5, 6, 7, 8, 9, 10, 11, 12] (by decide) rfl) hS
            · refine lv_aload_n hx hb dX2_collect_78 rfl (lv_at hl 3 rfl) ?_
              refine va_get (D := (dC, dI)) (ci := 2) (v := .ref th) (C := RX2) (T := TX2) (N := 3) hx hb hts uX2 hown hK hP 0 rfl rfl 2 (by decide) (hts _ kfX2_18) (fun _ h9 => h9) rfl dX2_collect_79 ?_
              refine lv_iconst (v := (nI (0))) hx hb dX2_collect_82 (by decide) ?_
              refine lv_iload hx hb dX2_collect_83 (lv_at hl 0 rfl) ?_
              refine q_iastO hx hb hK hP hD hS 1 0 rfl rfl (j := 0) (x := some i) (by omega) (by omega) dX2_collect_85 (fun H locs hP hD hS => ?_)
              have hP : va_P (dC, dI) qCl [(n0, .inr (2, [.ref fc0, .ref fm0, .ref th])), (th, .inl (cI, 6, .inl (oF (va_up tx 0 (some i))))), (fc0, .inr (1, [.ref m1, .ref t1, .ref s1, .ref st1, .ref e1, .int (nI (fs))])), (m1, .inl (cI, 10, .inl (nF mb))), (t1, .inl (cI, 96, .inl (nF tg))), (s1, .inl (cI, 96, .inl (nF sr))), (st1, .inl (cI, 8, .inl (nF sta))), (e1, .inl (cI, 8, .inl (nF en))), (fm0, .inr (3, [.ref a1, .ref a2, .int (nI (n)), .int (bI (jn))])), (a1, .inl (cI, 4, .inl (nF nm))), (a2, .inl (cI, 8, .inl (nF pl))), (q0, .inr (5, [.ref ow, .int (nI (an)), .ref ra, .int (nI (sz)), .int (bI (lg)), .int (bI (rw9)), .ref fa, .int (bI (se))])), (fa, .inl (cI, 192, .inl (oF g)))] H := hP
              have hD : va_D A [(n0, .inr (2, [.ref fc0, .ref fm0, .ref th])), (th, .inl (cI, 6, .inl (oF (va_up tx 0 (some i))))), (fc0, .inr (1, [.ref m1, .ref t1, .ref s1, .ref st1, .ref e1, .int (nI (fs))])), (m1, .inl (cI, 10, .inl (nF mb))), (t1, .inl (cI, 96, .inl (nF tg))), (s1, .inl (cI, 96, .inl (nF sr))), (st1, .inl (cI, 8, .inl (nF sta))), (e1, .inl (cI, 8, .inl (nF en))), (fm0, .inr (3, [.ref a1, .ref a2, .int (nI (n)), .int (bI (jn))])), (a1, .inl (cI, 4, .inl (nF nm))), (a2, .inl (cI, 8, .inl (nF pl))), (q0, .inr (5, [.ref ow, .int (nI (an)), .ref ra, .int (nI (sz)), .int (bI (lg)), .int (bI (rw9)), .ref fa, .int (bI (se))])), (fa, .inl (cI, 192, .inl (oF g)))] := hD
              have L116 : ∀ (sc : Nat) (ls : Array Slot) (H : Heap) (locs : List Loc), (sc < 4096 ∧ ∀ b, b < 12 → (sc.testBit b = true ↔ f_sec nm pl mb tg sr sta en n an jn i b)) → lv_has ls 9 [(5, .int (nI (i))), (4, .int (nI (y9))), (3, .int (bI (ap))), (0, .ref n0), (1, .ref q0), (2, .int (nI (k)))] → va_P (dC, dI) qCl [(n0, .inr (2, [.ref fc0, .ref fm0, .ref th])), (th, .inl (cI, 6, .inl (oF (va_up tx 0 (some i))))), (fc0, .inr (1, [.ref m1, .ref t1, .ref s1, .ref st1, .ref e1, .int (nI (fs))])), (m1, .inl (cI, 10, .inl (nF mb))), (t1, .inl (cI, 96, .inl (nF tg))), (s1, .inl (cI, 96, .inl (nF sr))), (st1, .inl (cI, 8, .inl (nF sta))), (e1, .inl (cI, 8, .inl (nF en))), (fm0, .inr (3, [.ref a1, .ref a2, .int (nI (n)), .int (bI (jn))])), (a1, .inl (cI, 4, .inl (nF nm))), (a2, .inl (cI, 8, .inl (nF pl))), (q0, .inr (5, [.ref ow, .int (nI (an)), .ref ra, .int (nI (sz)), .int (bI (lg)), .int (bI (rw9)), .ref fa, .int (bI (se))])), (fa, .inl (cI, 192, .inl (oF g)))] H → va_D A [(n0, .inr (2, [.ref fc0, .ref fm0, .ref th])), (th, .inl (cI, 6, .inl (oF (va_up tx 0 (some i))))), (fc0, .inr (1, [.ref m1, .ref t1, .ref s1, .ref st1, .ref e1, .int (nI (fs))])), (m1, .inl (cI, 10, .inl (nF mb))), (t1, .inl (cI, 96, .inl (nF tg))), (s1, .inl (cI, 96, .inl (nF sr))), (st1, .inl (cI, 8, .inl (nF sta))), (e1, .inl (cI, 8, .inl (nF en))), (fm0, .inr (3, [.ref a1, .ref a2, .int (nI (n)), .int (bI (jn))])), (a1, .inl (cI, 4, .inl (nF nm))), (a2, .inl (cI, 8, .inl (nF pl))), (q0, .inr (5, [.ref ow, .int (nI (an)), .ref ra, .int (nI (sz)), .int (bI (lg)), .int (bI (rw9)), .ref fa, .int (bI (se))])), (fa, .inl (cI, 192, .inl (oF g)))] → va_S A s.heap H locs → W p l e (headSpec wkX2_collect rm_c_Finder_collect).room s m args below meth c H locs 0 0 Q (F0 m 116 ls [.int (nI (sc))]) := by
                intro sc ls H locs hsc hl hP hD hS
                refine lv_istore (lv' := [(6, .int (nI (sc))), (5, .int (nI (i))), (4, .int (nI (y9))), (3, .int (bI (ap))), (0, .ref n0), (1, .ref q0), (2, .int (nI (k)))]) hx hb dX2_collect_116 hl (by decide) rfl (fun ls hl => ?_)
                refine lv_iconst (v := (nI (0))) hx hb dX2_collect_118 (by decide) ?_
                refine lv_istore (lv' := [(7, .int (nI (0))), (6, .int (nI (sc))), (5, .int (nI (i))), (4, .int (nI (y9))), (3, .int (bI (ap))), (0, .ref n0), (1, .ref q0), (2, .int (nI (k)))]) hx hb dX2_collect_119 hl (by decide) rfl (fun ls hl => ?_)
                have L121 : ∀ (fu : Nat) (jj : Nat) (tz : Nat → Option Nat) (gg : Nat → Option Nat) (ls : Array Slot) (H : Heap) (locs : List Loc), 12 - jj < fu → (jj ≤ 12) → (f_colr (fun a b => (a < i ∨ a = i ∧ b < jj) ∧ f_col nm pl mb tg sr sta en n an jn a b) k fd gg) → (tz 0 = some i) → (∀ w, 2 ≤ w → tz w = none) → (∀ j k, tz j = some k → k < 12) → lv_has ls 9 [(7, .int (nI (jj))), (6, .int (nI (sc))), (5, .int (nI (i))), (4, .int (nI (y9))), (3, .int (bI (ap))), (0, .ref n0), (1, .ref q0), (2, .int (nI (k)))] → va_P (dC, dI) qCl [(n0, .inr (2, [.ref fc0, .ref fm0, .ref th])), (th, .inl (cI, 6, .inl (oF tz))), (fc0, .inr (1, [.ref m1, .ref t1, .ref s1, .ref st1, .ref e1, .int (nI (fs))])), (m1, .inl (cI, 10, .inl (nF mb))), (t1, .inl (cI, 96, .inl (nF tg))), (s1, .inl (cI, 96, .inl (nF sr))), (st1, .inl (cI, 8, .inl (nF sta))), (e1, .inl (cI, 8, .inl (nF en))), (fm0, .inr (3, [.ref a1, .ref a2, .int (nI (n)), .int (bI (jn))])), (a1, .inl (cI, 4, .inl (nF nm))), (a2, .inl (cI, 8, .inl (nF pl))), (q0, .inr (5, [.ref ow, .int (nI (an)), .ref ra, .int (nI (sz)), .int (bI (lg)), .int (bI (rw9)), .ref fa, .int (bI (se))])), (fa, .inl (cI, 192, .inl (oF gg)))] H → va_D A [(n0, .inr (2, [.ref fc0, .ref fm0, .ref th])), (th, .inl (cI, 6, .inl (oF tz))), (fc0, .inr (1, [.ref m1, .ref t1, .ref s1, .ref st1, .ref e1, .int (nI (fs))])), (m1, .inl (cI, 10, .inl (nF mb))), (t1, .inl (cI, 96, .inl (nF tg))), (s1, .inl (cI, 96, .inl (nF sr))), (st1, .inl (cI, 8, .inl (nF sta))), (e1, .inl (cI, 8, .inl (nF en))), (fm0, .inr (3, [.ref a1, .ref a2, .int (nI (n)), .int (bI (jn))])), (a1, .inl (cI, 4, .inl (nF nm))), (a2, .inl (cI, 8, .inl (nF pl))), (q0, .inr (5, [.ref ow, .int (nI (an)), .ref ra, .int (nI (sz)), .int (bI (lg)), .int (bI (rw9)), .ref fa, .int (bI (se))])), (fa, .inl (cI, 192, .inl (oF gg)))] → va_S A s.heap H locs → W p l e (headSpec wkX2_collect rm_c_Finder_collect).room s m args below meth c H locs 0 0 Q (F0 m 121 ls []) := by
                  intro fu
                  induction fu with
                  | zero => intro jj tz gg ls H locs hmu; exact absurd hmu (Nat.not_lt_zero _)
                  | succ fu ih121 =>
                    intro jj tz gg ls H locs hmu hjj hgg htz0 htz htzb hl hP hD hS
                    refine lv_iload hx hb dX2_collect_121 (lv_at hl 0 rfl) ?_
                    refine lv_bipush (v := (nI (12))) hx hb dX2_collect_123 (by decide) ?_
                    refine q_icmp_ge (x := jj) (y := 12) (tgt := 193) hx hb dX2_collect_125 (by decide) (by omega) (by omega) (fun c125_5 => ?_) (fun c125_5 => ?_)
                    · refine lv_iinc (v := (nI (i + 1))) (lv' := [(5, .int (nI (i + 1))), (7, .int (nI (jj))), (6, .int (nI (sc))), (4, .int (nI (y9))), (3, .int (bI (ap))), (0, .ref n0), (1, .ref q0), (2, .int (nI (k)))]) hx hb dX2_collect_193 hl (k := 2) rfl (q_inc _) (by decide) rfl (fun ls hl => ?_)
                      refine lv_goto (tgt := 61) hx hb dX2_collect_196 (by decide) ?_
                      exact ih61 (i + 1) tz gg ls _ _ (by omega) (show (i + 1) ≤ 12 from by omega) (show f_colr (fun a b => a < (i + 1) ∧ f_col nm pl mb tg sr sta en n an jn a b) k fd gg from by (first | (exact f_colr_n (by rw [show 12 = jj by omega]; exact hgg)) | (refine f_colr_sk hg (fun b h9 => ?_); have h8 := (hf9.2 i).mpr ⟨by omega, h9.2.1⟩; simp_all; done))) (show ∀ w, 2 ≤ w → tz w = none from by (first | exact htz | exact htx)) (show ∀ j k, tz j = some k → k < 12 from by (first | exact htzb | exact htb)) (lv_sub hl [0, 3, 4, 5, 6, 7] rfl) (hP.sub [0, 1, 2, 3, 4, 5, 6, 7, 8, 9, 10, 11, 12] rfl) (hD.sub [0, 1, 2, 3, 4, 5, 6, 7, 8, 9, 10, 11, 12] (by decide) rfl) hS
                    · refine lv_bipush (v := (nI (16))) hx hb dX2_collect_128 (by decide) ?_
                      refine lv_iload hx hb dX2_collect_130 (lv_at hl 2 rfl) ?_
                      refine q_imul (x := 16) (y := i) hx hb dX2_collect_132 ?_
                      refine lv_iload hx hb dX2_collect_133 (lv_at hl 0 rfl) ?_
                      refine q_iadd (x := 16 * i) (y := jj) hx hb dX2_collect_135 ?_
                      refine lv_istore (lv' := [(8, .int (nI ((16 * i) + jj))), (7, .int (nI (jj))), (6, .int (nI (sc))), (5, .int (nI (i))), (4, .int (nI (y9))), (3, .int (bI (ap))), (0, .ref n0), (1, .ref q0), (2, .int (nI (k)))]) hx hb dX2_collect_136 hl (by decide) rfl (fun ls hl => ?_)
                      refine lv_iload hx hb dX2_collect_138 (lv_at hl 1 rfl) ?_
                      refine lv_iload hx hb dX2_collect_140 (lv_at hl 2 rfl) ?_
                      refine vp_callSi (va_Run.run (va_runS (As := [.int (nI (jj)), .int (nI (sc))]) (rest := []) ⟨hx, hb, hml, hown, hts⟩ (c_Facts_isIn l dC dI cI cL cQ cZ jj sc (show sc < 4096 from by (exact hsc.1)) (show jj < 12 from by first | assumption | omega)) (q_cwS 2 hts gkX1_isIn kmX2_90 ksX1_isIn kiX1 rfl rfl rfl (by decide +kernel) ⟨Nat.le_of_ble_eq_true rfl, Nat.le_of_ble_eq_true rfl⟩) (q_preS hK hP [] rfl) rfl rfl hl.1 rfl (lv_room (Nat.le_of_ble_eq_true rfl)) dX2_collect_142 ⟨Nat.zero_le _, Nat.zero_le _⟩)) (fun r6 hr6 => ?_)
                      subst hr6
                      refine q_ifb_eq (b := sc.testBit jj) (tgt := 187) hx hb dX2_collect_145 (by decide) (fun c145_7 => ?_) (fun c145_7 => ?_)
                      · refine lv_iinc (v := (nI (jj + 1))) (lv' := [(7, .int (nI (jj + 1))), (8, .int (nI ((16 * i) + jj))), (6, .int (nI (sc))), (5, .int (nI (i))), (4, .int (nI (y9))), (3, .int (bI (ap))), (0, .ref n0), (1, .ref q0), (2, .int (nI (k)))]) hx hb dX2_collect_187 hl (k := 1) rfl (q_inc _) (by decide) rfl (fun ls hl => ?_)
                        refine lv_goto (tgt := 121) hx hb dX2_collect_190 (by decide) ?_
                        exact ih121 (jj + 1) tz gg ls _ _ (by omega) (show (jj + 1) ≤ 12 from by omega) (show f_colr (fun a b => (a < i ∨ a = i ∧ b < (jj + 1)) ∧ f_col nm pl mb tg sr sta en n an jn a b) k fd gg from by (first | (exact f_colr_A hgg (fun h9 => b_no ((hsc.2 jj (by omega)).mpr h9.2.2.1) (by assumption))) | (exact f_colr_B hgg (by omega) (by assumption)) | (exact f_colr_C hgg (by omega) (by omega) (by assumption) (Or.inl ⟨⟨hok, ((hf9.2 i).mp (by assumption)).2, (hsc.2 jj (by omega)).mp (by assumption), hcp.mp (by assumption)⟩, rfl⟩)) | (exact f_colr_C hgg (by omega) (by omega) (by assumption) (Or.inr ⟨fun h9 => b_no (hcp.mpr h9.2.2.2) (by assumption), rfl⟩)))) (show tz 0 = some i from by (first | exact htz0 | rfl)) (show ∀ w, 2 ≤ w → tz w = none from by (first | exact htz | (intro w hw; exact f_t2_n hw))) (show ∀ j k, tz j = some k → k < 12 from by (first | exact htzb | exact f_t2_lt (by omega) (by omega))) (lv_sub hl [0, 2, 3, 4, 5, 6, 7, 8] rfl) (hP.sub [0, 1, 2, 3, 4, 5, 6, 7, 8, 9, 10, 11, 12] rfl) (hD.sub [0, 1, 2, 3, 4, 5, 6, 7, 8, 9, 10, 11, 12] (by decide) rfl) hS
                      · refine lv_aload_n hx hb dX2_collect_148 rfl (lv_at hl 7 rfl) ?_
                        refine va_get (D := (dC, dI)) (ci := 5) (v := .ref fa) (C := RX5) (T := TX5) (N := 8) hx hb hts uX5 hown hK hP 11 rfl rfl 6 (by decide) (hts _ kfX2_26) (fun _ h9 => h9) rfl dX2_collect_149 ?_
                        refine lv_iload hx hb dX2_collect_152 (lv_at hl 0 rfl) ?_
                        refine q_ialdO hx hb hK hP 12 0 rfl rfl (j := (16 * i) + jj) (by omega) (by omega) dX2_collect_154 ?_
                        refine lv_iconst (v := (oI (none))) hx hb dX2_collect_155 (by decide) ?_
                        refine q_icmpO_ne (x := gg ((16 * i) + jj)) (tgt := 187) hx hb dX2_collect_156 (by decide) (by (intro k9 h9; have := f_colr_lt hgg hk9 hfd _ _ h9; omega)) (fun c156_8 => ?_) (fun c156_8 => ?_)
                        · refine lv_iinc (v := (nI (jj + 1))) (lv' := [(7, .int (nI (jj + 1))), (8, .int (nI ((16 * i) + jj))), (6, .int (nI (sc))), (5, .int (nI (i))), (4, .int (nI (y9))), (3, .int (bI (ap))), (0, .ref n0), (1, .ref q0), (2, .int (nI (k)))]) hx hb dX2_collect_187 hl (k := 1) rfl (q_inc _) (by decide) rfl (fun ls hl => ?_)
                          refine lv_goto (tgt := 121) hx hb dX2_collect_190 (by decide) ?_
                          exact ih121 (jj + 1) tz gg ls _ _ (by omega) (show (jj + 1) ≤ 12 from by omega) (show f_colr (fun a b => (a < i ∨ a = i ∧ b < (jj + 1)) ∧ f_col nm pl mb tg sr sta en n an jn a b) k fd gg from by (first | (exact f_colr_A hgg (fun h9 => b_no ((hsc.2 jj (by omega)).mpr h9.2.2.1) (by assumption))) | (exact f_colr_B hgg (by omega) (by assumption)) | (exact f_colr_C hgg (by omega) (by omega) (by assumption) (Or.inl ⟨⟨hok, ((hf9.2 i).mp (by assumption)).2, (hsc.2 jj (by omega)).mp (by assumption), hcp.mp (by assumption)⟩, rfl⟩)) | (exact f_colr_C hgg (by omega) (by omega) (by assumption) (Or.inr ⟨fun h9 => b_no (hcp.mpr h9.2.2.2) (by assumption), rfl⟩)))) (show tz 0 = some i from by (first | exact htz0 | rfl)) (show ∀ w, 2 ≤ w → tz w = none from by (first | exact htz | (intro w hw; exact f_t2_n hw))) (show ∀ j k, tz j = some k → k < 12 from by (first | exact htzb | exact f_t2_lt (by omega) (by omega))) (lv_sub hl [0, 2, 3, 4, 5, 6, 7, 8] rfl) (hP.sub [0, 1, 2, 3, 4, 5, 6, 7, 8, 9, 10, 11, 12] rfl) (hD.sub [0, 1, 2, 3, 4, 5, 6, 7, 8, 9, 10, 11, 12] (by decide) rfl) hS
                        · refine lv_aload_n hx hb dX2_collect_159 rfl (lv_at hl 6 rfl) ?_
                          refine va_get (D := (dC, dI)) (ci := 2) (v := .ref th) (C := RX2) (T := TX2) (N := 3) hx hb hts uX2 hown hK hP 0 rfl rfl 2 (by decide) (hts _ kfX2_18) (fun _ h9 => h9) rfl dX2_collect_160 ?_
                          refine lv_iconst (v := (nI (1))) hx hb dX2_collect_163 (by decide) ?_
                          refine lv_iload hx hb dX2_collect_164 (lv_at hl 1 rfl) ?_
                          refine q_iastO hx hb hK hP hD hS 1 0 rfl rfl (j := 1) (x := some jj) (by omega) (by omega) dX2_collect_166 (fun H locs hP hD hS => ?_)
                          have hP : va_P (dC, dI) qCl [(n0, .inr (2, [.ref fc0, .ref fm0, .ref th])), (th, .inl (cI, 6, .inl (oF (va_up tz 1 (some jj))))), (fc0, .inr (1, [.ref m1, .ref t1, .ref s1, .ref st1, .ref e1, .int (nI (fs))])), (m1, .inl (cI, 10, .inl (nF mb))), (t1, .inl (cI, 96, .inl (nF tg))), (s1, .inl (cI, 96, .inl (nF sr))), (st1, .inl (cI, 8, .inl (nF sta))), (e1, .inl (cI, 8, .inl (nF en))), (fm0, .inr (3, [.ref a1, .ref a2, .int (nI (n)), .int (bI (jn))])), (a1, .inl (cI, 4, .inl (nF nm))), (a2, .inl (cI, 8, .inl (nF pl))), (q0, .inr (5, [.ref ow, .int (nI (an)), .ref ra, .int (nI (sz)), .int (bI (lg)), .int (bI (rw9)), .ref fa, .int (bI (se))])), (fa, .inl (cI, 192, .inl (oF gg)))] H := hP
                          have hD : va_D A [(n0, .inr (2, [.ref fc0, .ref fm0, .ref th])), (th, .inl (cI, 6, .inl (oF (va_up tz 1 (some jj))))), (fc0, .inr (1, [.ref m1, .ref t1, .ref s1, .ref st1, .ref e1, .int (nI (fs))])), (m1, .inl (cI, 10, .inl (nF mb))), (t1, .inl (cI, 96, .inl (nF tg))), (s1, .inl (cI, 96, .inl (nF sr))), (st1, .inl (cI, 8, .inl (nF sta))), (e1, .inl (cI, 8, .inl (nF en))), (fm0, .inr (3, [.ref a1, .ref a2, .int (nI (n)), .int (bI (jn))])), (a1, .inl (cI, 4, .inl (nF nm))), (a2, .inl (cI, 8, .inl (nF pl))), (q0, .inr (5, [.ref ow, .int (nI (an)), .ref ra, .int (nI (sz)), .int (bI (lg)), .int (bI (rw9)), .ref fa, .int (bI (se))])), (fa, .inl (cI, 192, .inl (oF gg)))] := hD
                          have ea9 : (va_up tz 1 (some jj)) = f_t2 i jj := by (exact f_t2_eq htz0 htz)
                          rw [ea9] at hP hD
                          have hP : va_P (dC, dI) qCl [(n0, .inr (2, [.ref fc0, .ref fm0, .ref th])), (th, .inl (cI, 6, .inl (oF (f_t2 i jj)))), (fc0, .inr (1, [.ref m1, .ref t1, .ref s1, .ref st1, .ref e1, .int (nI (fs))])), (m1, .inl (cI, 10, .inl (nF mb))), (t1, .inl (cI, 96, .inl (nF tg))), (s1, .inl (cI, 96, .inl (nF sr))), (st1, .inl (cI, 8, .inl (nF sta))), (e1, .inl (cI, 8, .inl (nF en))), (fm0, .inr (3, [.ref a1, .ref a2, .int (nI (n)), .int (bI (jn))])), (a1, .inl (cI, 4, .inl (nF nm))), (a2, .inl (cI, 8, .inl (nF pl))), (q0, .inr (5, [.ref ow, .int (nI (an)), .ref ra, .int (nI (sz)), .int (bI (lg)), .int (bI (rw9)), .ref fa, .int (bI (se))])), (fa, .inl (cI, 192, .inl (oF gg)))] H := hP
                          have hD : va_D A [(n0, .inr (2, [.ref fc0, .ref fm0, .ref th])), (th, .inl (cI, 6, .inl (oF (f_t2 i jj)))), (fc0, .inr (1, [.ref m1, .ref t1, .ref s1, .ref st1, .ref e1, .int (nI (fs))])), (m1, .inl (cI, 10, .inl (nF mb))), (t1, .inl (cI, 96, .inl (nF tg))), (s1, .inl (cI, 96, .inl (nF sr))), (st1, .inl (cI, 8, .inl (nF sta))), (e1, .inl (cI, 8, .inl (nF en))), (fm0, .inr (3, [.ref a1, .ref a2, .int (nI (n)), .int (bI (jn))])), (a1, .inl (cI, 4, .inl (nF nm))), (a2, .inl (cI, 8, .inl (nF pl))), (q0, .inr (5, [.ref ow, .int (nI (an)), .ref ra, .int (nI (sz)), .int (bI (lg)), .int (bI (rw9)), .ref fa, .int (bI (se))])), (fa, .inl (cI, 192, .inl (oF gg)))] := hD
                          refine lv_aload_n hx hb dX2_collect_167 rfl (lv_at hl 7 rfl) ?_
                          refine va_get (D := (dC, dI)) (ci := 5) (v := .ref fa) (C := RX5) (T := TX5) (N := 8) hx hb hts uX5 hown hK hP 11 rfl rfl 6 (by decide) (hts _ kfX2_26) (fun _ h9 => h9) rfl dX2_collect_168 ?_
                          refine lv_iload hx hb dX2_collect_171 (lv_at hl 0 rfl) ?_
                          refine lv_aload_n hx hb dX2_collect_173 rfl (lv_at hl 6 rfl) ?_
                          refine lv_iconst (v := (nI (2))) hx hb dX2_collect_174 (by decide) ?_
                          refine q_joini (wr := [(q0, .inr (5, [.ref ow, .int (nI (an)), .ref ra, .int (nI (sz)), .int (bI (lg)), .int (bI (rw9)), .ref fa, .int (bI (se))])), (fa, .inl (cI, 192, .inl (oF gg)))]) (va_runV (As := [.int (nI (2))]) (rest := [.int (nI ((16 * i) + jj)), .ref fa]) ⟨hx, hb, hml, hown, hts⟩ (c_Finder_completes_4 l dC dI cI cL cQ cZ n0 fc0 fm0 th m1 t1 s1 st1 e1 fs mb tg sr sta en a1 a2 n jn nm pl (f_t2 i jj) 2 (show ∀ j, mb j < 4096 from by first | assumption | omega) (show ∀ j, tg j < 4096 from by first | assumption | omega) (show ∀ j, sr j < 4096 from by first | assumption | omega) (show ∀ j, sta j < 4096 from by first | assumption | omega) (show ∀ j, en j < 4096 from by first | assumption | omega) (show n ≤ 4 from by first | assumption | omega) (show f_nok nm n from by first | assumption | omega) (show ∀ j, pl j < 16 from by first | assumption | omega) (show ∀ j k, (f_t2 i jj) j = some k → k < 12 from by (exact f_t2_lt (by omega) (by omega))) (show 2 = 2 from by first | assumption | omega) (show ∀ w, 2 ≤ w → (f_t2 i jj) w = none from by (intro w hw; exact f_t2_n hw))) (q_cwV 1 hts gkX2_completes kmX2_60 knX2_completes klX2_completes kiX2 rfl rfl rfl (by decide +kernel) ⟨Nat.le_of_ble_eq_true rfl, Nat.le_of_ble_eq_true rfl⟩) (q_preVW hK hP hD [0, 1, 2, 3, 4, 5, 6, 7, 8, 9, 10] rfl (by decide) 0 (ci := 2) (r := (RX2, TX2, 3)) rfl rfl) rfl rfl hl.1 rfl (lv_room (Nat.le_of_ble_eq_true rfl)) dX2_collect_175 ⟨Nat.zero_le _, Nat.zero_le _⟩) hP hD hS [0, 1, 2, 3, 4, 5, 6, 7, 8, 9, 10] [11, 12] rfl rfl (by decide) (fun _ => rfl) (fun r11 u9 H locs hq12 hP hD hS => ?_)
                          obtain ⟨b1_10, rfl⟩ : ∃ z, z = u9 := ⟨_, rfl⟩
                          have hq12 : (r11 = (bI (b1_10))) ∧ (b1_10 = true ↔ f_comp nm pl mb tg sr sta en n 4 2 (f_t2 i jj)) := hq12
                          obtain ⟨er11, hb1_13⟩ := hq12
                          have hlast := hb1_13
                          subst er11
                          have hP : va_P (dC, dI) qCl [(q0, .inr (5, [.ref ow, .int (nI (an)), .ref ra, .int (nI (sz)), .int (bI (lg)), .int (bI (rw9)), .ref fa, .int (bI (se))])), (fa, .inl (cI, 192, .inl (oF gg))), (n0, .inr (2, [.ref fc0, .ref fm0, .ref th])), (th, .inl (cI, 6, .inl (oF (f_t2 i jj)))), (fc0, .inr (1, [.ref m1, .ref t1, .ref s1, .ref st1, .ref e1, .int (nI (fs))])), (m1, .inl (cI, 10, .inl (nF mb))), (t1, .inl (cI, 96, .inl (nF tg))), (s1, .inl (cI, 96, .inl (nF sr))), (st1, .inl (cI, 8, .inl (nF sta))), (e1, .inl (cI, 8, .inl (nF en))), (fm0, .inr (3, [.ref a1, .ref a2, .int (nI (n)), .int (bI (jn))])), (a1, .inl (cI, 4, .inl (nF nm))), (a2, .inl (cI, 8, .inl (nF pl)))] H := hP
                          have hD : va_D A [(q0, .inr (5, [.ref ow, .int (nI (an)), .ref ra, .int (nI (sz)), .int (bI (lg)), .int (bI (rw9)), .ref fa, .int (bI (se))])), (fa, .inl (cI, 192, .inl (oF gg))), (n0, .inr (2, [.ref fc0, .ref fm0, .ref th])), (th, .inl (cI, 6, .inl (oF (f_t2 i jj)))), (fc0, .inr (1, [.ref m1, .ref t1, .ref s1, .ref st1, .ref e1, .int (nI (fs))])), (m1, .inl (cI, 10, .inl (nF mb))), (t1, .inl (cI, 96, .inl (nF tg))), (s1, .inl (cI, 96, .inl (nF sr))), (st1, .inl (cI, 8, .inl (nF sta))), (e1, .inl (cI, 8, .inl (nF en))), (fm0, .inr (3, [.ref a1, .ref a2, .int (nI (n)), .int (bI (jn))])), (a1, .inl (cI, 4, .inl (nF nm))), (a2, .inl (cI, 8, .inl (nF pl)))] := hD
                          have hcp := hlast
                          refine q_ifb_eq (b := b1_10) (tgt := 185) hx hb dX2_collect_178 (by decide) (fun c178_14 => ?_) (fun c178_14 => ?_)
                          · refine lv_iconst (v := (oI (none))) hx hb dX2_collect_185 (by decide) ?_
                            refine q_iastO hx hb hK hP hD hS 1 0 rfl rfl (j := (16 * i) + jj) (x := none) (by omega) (by omega) dX2_collect_186 (fun H locs hP hD hS => ?_)
                            have hP : va_P (dC, dI) qCl [(q0, .inr (5, [.ref ow, .int (nI (an)), .ref ra, .int (nI (sz)), .int (bI (lg)), .int (bI (rw9)), .ref fa, .int (bI (se))])), (fa, .inl (cI, 192, .inl (oF (va_up gg ((16 * i) + jj) none)))), (n0, .inr (2, [.ref fc0, .ref fm0, .ref th])), (th, .inl (cI, 6, .inl (oF (f_t2 i jj)))), (fc0, .inr (1, [.ref m1, .ref t1, .ref s1, .ref st1, .ref e1, .int (nI (fs))])), (m1, .inl (cI, 10, .inl (nF mb))), (t1, .inl (cI, 96, .inl (nF tg))), (s1, .inl (cI, 96, .inl (nF sr))), (st1, .inl (cI, 8, .inl (nF sta))), (e1, .inl (cI, 8, .inl (nF en))), (fm0, .inr (3, [.ref a1, .ref a2, .int (nI (n)), .int (bI (jn))])), (a1, .inl (cI, 4, .inl (nF nm))), (a2, .inl (cI, 8, .inl (nF pl)))] H := hP
                            have hD : va_D A [(q0, .inr (5, [.ref ow, .int (nI (an)), .ref ra, .int (nI (sz)), .int (bI (lg)), .int (bI (rw9)), .ref fa, .int (bI (se))])), (fa, .inl (cI, 192, .inl (oF (va_up gg ((16 * i) + jj) none)))), (n0, .inr (2, [.ref fc0, .ref fm0, .ref th])), (th, .inl (cI, 6, .inl (oF (f_t2 i jj)))), (fc0, .inr (1, [.ref m1, .ref t1, .ref s1, .ref st1, .ref e1, .int (nI (fs))])), (m1, .inl (cI, 10, .inl (nF mb))), (t1, .inl (cI, 96, .inl (nF tg))), (s1, .inl (cI, 96, .inl (nF sr))), (st1, .inl (cI, 8, .inl (nF sta))), (e1, .inl (cI, 8, .inl (nF en))), (fm0, .inr (3, [.ref a1, .ref a2, .int (nI (n)), .int (bI (jn))])), (a1, .inl (cI, 4, .inl (nF nm))), (a2, .inl (cI, 8, .inl (nF pl)))] := hD
                            refine lv_iinc (v := (nI (jj + 1))) (lv' := [(7, .int (nI (jj + 1))), (8, .int (nI ((16 * i) + jj))), (6, .int (nI (sc))), (5, .int (nI (i))), (4, .int (nI (y9))), (3, .int (bI (ap))), (0, .ref n0), (1, .ref q0), (2, .int (nI (k)))]) hx hb dX2_collect_187 hl (k := 1) rfl (q_inc _) (by decide) rfl (fun ls hl => ?_)
                            refine lv_goto (tgt := 121) hx hb dX2_collect_190 (by decide) ?_
                            exact ih121 (jj + 1) (f_t2 i jj) (va_up gg ((16 * i) + jj) none) ls _ _ (by omega) (show (jj + 1) ≤ 12 from by omega) (show f_colr (fun a b => (a < i ∨ a = i ∧ b < (jj + 1)) ∧ f_col nm pl mb tg sr sta en n an jn a b) k fd (va_up gg ((16 * i) + jj) none) from by (first | (exact f_colr_A hgg (fun h9 => b_no ((hsc.2 jj (by omega)).mpr h9.2.2.1) (by assumption))) | (exact f_colr_B hgg (by omega) (by assumption)) | (exact f_colr_C hgg (by omega) (by omega) (by assumption) (Or.inl ⟨⟨hok, ((hf9.2 i).mp (by assumption)).2, (hsc.2 jj (by omega)).mp (by assumption), hcp.mp (by assumption)⟩, rfl⟩)) | (exact f_colr_C hgg (by omega) (by omega) (by assumption) (Or.inr ⟨fun h9 => b_no (hcp.mpr h9.2.2.2) (by assumption), rfl⟩)))) (show (f_t2 i jj) 0 = some i from by (first | exact htz0 | rfl)) (show ∀ w, 2 ≤ w → (f_t2 i jj) w = none from by (first | exact htz | (intro w hw; exact f_t2_n hw))) (show ∀ j k, (f_t2 i jj) j = some k → k < 12 from by (first | exact htzb | exact f_t2_lt (by omega) (by omega))) (lv_sub hl [0, 2, 3, 4, 5, 6, 7, 8] rfl) (hP.sub [2, 3, 4, 5, 6, 7, 8, 9, 10, 11, 12, 0, 1] rfl) (hD.sub [2, 3, 4, 5, 6, 7, 8, 9, 10, 11, 12, 0, 1] (by decide) rfl) hS
                          · refine lv_iload_n hx hb dX2_collect_181 rfl (lv_at hl 8 rfl) ?_
                            refine lv_goto (tgt := 186) hx hb dX2_collect_182 (by decide) ?_
                            refine q_iastO hx hb hK hP hD hS 1 0 rfl rfl (j := (16 * i) + jj) (x := some k) (by omega) (by omega) dX2_collect_186 (fun H locs hP hD hS => ?_)
                            have hP : va_P (dC, dI) qCl [(q0, .inr (5, [.ref ow, .int (nI (an)), .ref ra, .int (nI (sz)), .int (bI (lg)), .int (bI (rw9)), .ref fa, .int (bI (se))])), (fa, .inl (cI, 192, .inl (oF (va_up gg ((16 * i) + jj) (some k))))), (n0, .inr (2, [.ref fc0, .ref fm0, .ref th])), (th, .inl (cI, 6, .inl (oF (f_t2 i jj)))), (fc0, .inr (1, [.ref m1, .ref t1, .ref s1, .ref st1, .ref e1, .int (nI (fs))])), (m1, .inl (cI, 10, .inl (nF mb))), (t1, .inl (cI, 96, .inl (nF tg))), (s1, .inl (cI, 96, .inl (nF sr))), (st1, .inl (cI, 8, .inl (nF sta))), (e1, .inl (cI, 8, .inl (nF en))), (fm0, .inr (3, [.ref a1, .ref a2, .int (nI (n)), .int (bI (jn))])), (a1, .inl (cI, 4, .inl (nF nm))), (a2, .inl (cI, 8, .inl (nF pl)))] H := hP
                            have hD : va_D A [(q0, .inr (5, [.ref ow, .int (nI (an)), .ref ra, .int (nI (sz)), .int (bI (lg)), .int (bI (rw9)), .ref fa, .int (bI (se))])), (fa, .inl (cI, 192, .inl (oF (va_up gg ((16 * i) + jj) (some k))))), (n0, .inr (2, [.ref fc0, .ref fm0, .ref th])), (th, .inl (cI, 6, .inl (oF (f_t2 i jj)))), (fc0, .inr (1, [.ref m1, .ref t1, .ref s1, .ref st1, .ref e1, .int (nI (fs))])), (m1, .inl (cI, 10, .inl (nF mb))), (t1, .inl (cI, 96, .inl (nF tg))), (s1, .inl (cI, 96, .inl (nF sr))), (st1, .inl (cI, 8, .inl (nF sta))), (e1, .inl (cI, 8, .inl (nF en))), (fm0, .inr (3, [.ref a1, .ref a2, .int (nI (n)), .int (bI (jn))])), (a1, .inl (cI, 4, .inl (nF nm))), (a2, .inl (cI, 8, .inl (nF pl)))] := hD
                            refine lv_iinc (v := (nI (jj + 1))) (lv' := [(7, .int (nI (jj + 1))), (8, .int (nI ((16 * i) + jj))), (6, .int (nI (sc))), (5, .int (nI (i))), (4, .int (nI (y9))), (3, .int (bI (ap))), (0, .ref n0), (1, .ref q0), (2, .int (nI (k)))]) hx hb dX2_collect_187 hl (k := 1) rfl (q_inc _) (by decide) rfl (fun ls hl => ?_)
                            refine lv_goto (tgt := 121) hx hb dX2_collect_190 (by decide) ?_
                            exact ih121 (jj + 1) (f_t2 i jj) (va_up gg ((16 * i) + jj) (some k)) ls _ _ (by omega) (show (jj + 1) ≤ 12 from by omega) (show f_colr (fun a b => (a < i ∨ a = i ∧ b < (jj + 1)) ∧ f_col nm pl mb tg sr sta en n an jn a b) k fd (va_up gg ((16 * i) + jj) (some k)) from by (first | (exact f_colr_A hgg (fun h9 => b_no ((hsc.2 jj (by omega)).mpr h9.2.2.1) (by assumption))) | (exact f_colr_B hgg (by omega) (by assumption)) | (exact f_colr_C hgg (by omega) (by omega) (by assumption) (Or.inl ⟨⟨hok, ((hf9.2 i).mp (by assumption)).2, (hsc.2 jj (by omega)).mp (by assumption), hcp.mp (by assumption)⟩, rfl⟩)) | (exact f_colr_C hgg (by omega) (by omega) (by assumption) (Or.inr ⟨fun h9 => b_no (hcp.mpr h9.2.2.2) (by assumption), rfl⟩)))) (show (f_t2 i jj) 0 = some i from by (first | exact htz0 | rfl)) (show ∀ w, 2 ≤ w → (f_t2 i jj) w = none from by (first | exact htz | (intro w hw; exact f_t2_n hw))) (show ∀ j k, (f_t2 i jj) j = some k → k < 12 from by (first | exact htzb | exact f_t2_lt (by omega) (by omega))) (lv_sub hl [0, 2, 3, 4, 5, 6, 7, 8] rfl) (hP.sub [2, 3, 4, 5, 6, 7, 8, 9, 10, 11, 12, 0, 1] rfl) (hD.sub [2, 3, 4, 5, 6, 7, 8, 9, 10, 11, 12, 0, 1] (by decide) rfl) hS
                exact L121 _ 0 (va_up tx 0 (some i)) g ls _ _ (by exact Nat.lt_succ_self _) (show 0 ≤ 12 from by omega) (show f_colr (fun a b => (a < i ∨ a = i ∧ b < 0) ∧ f_col nm pl mb tg sr sta en n an jn a b) k fd g from by (exact f_colr_i hg)) (show (va_up tx 0 (some i)) 0 = some i from by (exact up_s _ _ _)) (show ∀ w, 2 ≤ w → (va_up tx 0 (some i)) w = none from by (intro w hw; rw [up_n _ _ (by omega)]; exact htx w hw)) (show ∀ j k, (va_up tx 0 (some i)) j = some k → k < 12 from by (exact up_olt htb (by omega))) (lv_sub hl [0, 1, 2, 3, 4, 5, 6, 7] rfl) (hP.sub [0, 1, 2, 3, 4, 5, 6, 7, 8, 9, 10, 11, 12] rfl) (hD.sub [0, 1, 2, 3, 4, 5, 6, 7, 8, 9, 10, 11, 12] (by decide) rfl) hS
              refine lv_iload_n hx hb dX2_collect_86 rfl (lv_at hl 2 rfl) ?_
              refine q_ifb_eq (b := ap) (tgt := 98) hx hb dX2_collect_87 (by decide) (fun c87_15 => ?_) (fun c87_15 => ?_)
              · refine lv_iconst (v := (nI (1))) hx hb dX2_collect_98 (by decide) ?_
                refine lv_aload_n hx hb dX2_collect_99 rfl (lv_at hl 3 rfl) ?_
                refine va_get (D := (dC, dI)) (ci := 2) (v := .ref fm0) (C := RX2) (T := TX2) (N := 3) hx hb hts uX2 hown hK hP 0 rfl rfl 1 (by decide) (hts _ kfX2_12) (fun _ h9 => h9) rfl dX2_collect_100 ?_
                refine va_get (D := (dC, dI)) (ci := 3) (v := .int (bI (jn))) (C := RX3) (T := TX3) (N := 4) hx hb hts uX3 hown hK hP 8 rfl rfl 3 (by decide) (hts _ kfX2_80) (fun _ h9 => h9) rfl dX2_collect_103 ?_
                refine q_ifb_eq (b := jn) (tgt := 114) hx hb dX2_collect_106 (by decide) (fun c106_16 => ?_) (fun c106_16 => ?_)
                · refine lv_iconst (v := (nI (0))) hx hb dX2_collect_114 (by decide) ?_
                  refine lv_ishl hx hb dX2_collect_115 ?_
                  refine q_top (show ((nI (1)) <<< ((nI (0)) &&& 31)) = (nI (2 ^ (if jn = true then i else 0))) from (by first | (rw [one_shl (t := i) (by omega), if_pos (by assumption)]) | (rw [one_shl (t := 0) (by omega), if_neg (by simp_all)]))) ?_
                  exact L116 (2 ^ (if jn = true then i else 0)) ls _ _ (show (2 ^ (if jn = true then i else 0)) < 4096 ∧ ∀ b, b < 12 → ((2 ^ (if jn = true then i else 0)).testBit b = true ↔ f_sec nm pl mb tg sr sta en n an jn i b) from by (first | exact hsc9 | (exact ⟨(by show 2 ^ (if jn = true then i else 0) < 2 ^ 12; exact Nat.pow_lt_pow_right (by decide) (by split <;> omega)), fun b9 hb9 => (by rw [f_sec_n (of_decide_eq_false (hap.symm.trans (by assumption)))]; exact sec_bit (by omega))⟩))) (lv_sub hl [0, 1, 2, 3, 4, 5] rfl) (hP.sub [0, 1, 2, 3, 4, 5, 6, 7, 8, 9, 10, 11, 12] rfl) (hD.sub [0, 1, 2, 3, 4, 5, 6, 7, 8, 9, 10, 11, 12] (by decide) rfl) hS
                · refine lv_iload hx hb dX2_collect_109 (lv_at hl 0 rfl) ?_
                  refine lv_goto (tgt := 115) hx hb dX2_collect_111 (by decide) ?_
                  refine lv_ishl hx hb dX2_collect_115 ?_
                  refine q_top (show ((nI (1)) <<< ((nI (i)) &&& 31)) = (nI (2 ^ (if jn = true then i else 0))) from (by first | (rw [one_shl (t := i) (by omega), if_pos (by assumption)]) | (rw [one_shl (t := 0) (by omega), if_neg (by simp_all)]))) ?_
                  exact L116 (2 ^ (if jn = true then i else 0)) ls _ _ (show (2 ^ (if jn = true then i else 0)) < 4096 ∧ ∀ b, b < 12 → ((2 ^ (if jn = true then i else 0)).testBit b = true ↔ f_sec nm pl mb tg sr sta en n an jn i b) from by (first | exact hsc9 | (exact ⟨(by show 2 ^ (if jn = true then i else 0) < 2 ^ 12; exact Nat.pow_lt_pow_right (by decide) (by split <;> omega)), fun b9 hb9 => (by rw [f_sec_n (of_decide_eq_false (hap.symm.trans (by assumption)))]; exact sec_bit (by omega))⟩))) (lv_sub hl [0, 1, 2, 3, 4, 5] rfl) (hP.sub [0, 1, 2, 3, 4, 5, 6, 7, 8, 9, 10, 11, 12] rfl) (hD.sub [0, 1, 2, 3, 4, 5, 6, 7, 8, 9, 10, 11, 12] (by decide) rfl) hS
              · refine lv_aload_n hx hb dX2_collect_90 rfl (lv_at hl 3 rfl) ?_
                refine lv_iconst (v := (nI (1))) hx hb dX2_collect_91 (by decide) ?_
                refine vp_callSi (va_Run.run (va_runV (As := [.int (nI (1))]) (rest := []) ⟨hx, hb, hml, hown, hts⟩ (c_Finder_fitting l dC dI cI cL cQ cZ n0 fc0 fm0 th m1 t1 s1 st1 e1 fs mb tg sr sta en a1 a2 n jn nm pl (va_up tx 0 (some i)) 1 (show ∀ j, mb j < 4096 from by first | assumption | omega) (show ∀ j, tg j < 4096 from by first | assumption | omega) (show ∀ j, sr j < 4096 from by first | assumption | omega) (show ∀ j, sta j < 4096 from by first | assumption | omega) (show ∀ j, en j < 4096 from by first | assumption | omega) (show n ≤ 4 from by first | assumption | omega) (show f_nok nm n from by first | assumption | omega) (show ∀ j, pl j < 16 from by first | assumption | omega) (show 1 < 16 from by first | assumption | omega) (show ∀ j k, (va_up tx 0 (some i)) j = some k → k < 12 from by (exact up_olt htb (by omega)))) (q_cwV 1 hts gkX2_fitting kmX2_87 knX2_fitting klX2_fitting kiX2 rfl rfl rfl (by decide +kernel) ⟨Nat.le_of_ble_eq_true rfl, Nat.le_of_ble_eq_true rfl⟩) (q_preV hK hP [0, 1, 2, 3, 4, 5, 6, 7, 8, 9, 10] rfl 0 (ci := 2) (r := (RX2, TX2, 3)) rfl rfl) rfl rfl hl.1 rfl (lv_room (Nat.le_of_ble_eq_true rfl)) dX2_collect_92 ⟨Nat.zero_le _, Nat.zero_le _⟩)) (fun r17 hr17 => ?_)
                have hr17 : ∃ y9, r17 = nI y9 ∧ f_fits nm pl mb tg sr sta en (va_up tx 0 (some i)) 1 n y9 := hr17
                have hlast := hr17
                obtain ⟨y8, ey9, hs9⟩ := hlast
                have hsc9 : y8 < 4096 ∧ ∀ b, b < 12 → (y8.testBit b = true ↔ f_sec nm pl mb tg sr sta en n an jn i b) := ⟨hs9.1, fun b hb9 => by rw [hs9.2 b, f_sec, if_pos (by simp_all)]; exact ⟨fun h9 j hj => by rw [← f_fit_cg (fun w hw => f_tt_cg htx w hw) j b]; exact h9.2 j hj, fun h9 => ⟨hb9, fun j hj => by rw [f_fit_cg (fun w hw => f_tt_cg htx w hw) j b]; exact h9 j hj⟩⟩⟩
                refine q_top ey9 ?_
                refine lv_goto (tgt := 116) hx hb dX2_collect_95 (by decide) ?_
                exact L116 y8 ls _ _ (show y8 < 4096 ∧ ∀ b, b < 12 → (y8.testBit b = true ↔ f_sec nm pl mb tg sr sta en n an jn i b) from by (first | exact hsc9 | (exact ⟨(by show 2 ^ (if jn = true then i else 0) < 2 ^ 12; exact Nat.pow_lt_pow_right (by decide) (by split <;> omega)), fun b9 hb9 => (by rw [f_sec_n (of_decide_eq_false (hap.symm.trans (by assumption)))]; exact sec_bit (by omega))⟩))) (lv_sub hl [0, 1, 2, 3, 4, 5] rfl) (hP.sub [0, 1, 2, 3, 4, 5, 6, 7, 8, 9, 10, 11, 12] rfl) (hD.sub [0, 1, 2, 3, 4, 5, 6, 7, 8, 9, 10, 11, 12] (by decide) rfl) hS
      exact L61 _ 0 (fun _ => none) fd ls _ _ (by exact Nat.lt_succ_self _) (show 0 ≤ 12 from by omega) (show f_colr (fun a b => a < 0 ∧ f_col nm pl mb tg sr sta en n an jn a b) k fd fd from by (exact f_colr_0 _ _ (fun a b _ _ h => by omega))) (show ∀ w, 2 ≤ w → (fun _ => none) w = none from by (intro w hw; rfl)) (show ∀ j k, (fun _ => none) j = some k → k < 12 from by (intro j k h; cases h)) (lv_sub hl [0, 1, 2, 3, 4, 5] rfl) (hP.sub [0, 1, 2, 3, 4, 5, 6, 7, 8, 9, 10, 11, 12] rfl) (hD.sub [0, 1, 2, 3, 4, 5, 6, 7, 8, 9, 10, 11, 12] (by decide) rfl) hS
    refine lv_aload_n hx hb dX2_collect_24 rfl (lv_at hl 1 rfl) ?_
    refine va_get (D := (dC, dI)) (ci := 2) (v := .ref fm0) (C := RX2) (T := TX2) (N := 3) hx hb hts uX2 hown hK hP 0 rfl rfl 1 (by decide) (hts _ kfX2_12) (fun _ h9 => h9) rfl dX2_collect_25 ?_
    refine lv_iconst (v := (nI (0))) hx hb dX2_collect_28 (by decide) ?_
    refine vp_callSi (va_Run.run (va_runV (As := [.int (nI (0))]) (rest := []) ⟨hx, hb, hml, hown, hts⟩ (c_Form_timesOf l dC dI cI cL cQ cZ fm0 a1 a2 n jn nm pl 0 (show n ≤ 4 from by first | assumption | omega) (show ∀ j, pl j < 16 from by first | assumption | omega) (show 0 < 16 from by first | assumption | omega)) (q_cwV 1 hts gkX3_timesOf kmX2_83 knX3_timesOf klX3_timesOf kiX3 rfl rfl rfl (by decide +kernel) ⟨Nat.le_of_ble_eq_true rfl, Nat.le_of_ble_eq_true rfl⟩) (q_preV hK hP [8, 9, 10] rfl 8 (ci := 3) (r := (RX3, TX3, 4)) rfl rfl) rfl rfl hl.1 rfl (lv_room (Nat.le_of_ble_eq_true rfl)) dX2_collect_29 ⟨Nat.zero_le _, Nat.zero_le _⟩)) (fun r18 hr18 => ?_)
    subst hr18
    refine q_if_eq (x := f_cnt pl 0 (2 * n)) (tgt := 50) hx hb dX2_collect_32 (by decide) (by (have := f_cnt_le pl 0 (2 * n); omega)) (fun c32_19 => ?_) (fun c32_19 => ?_)
    · subst hQ
      subst hAe
      have hP9 := hP.sub (ws' := [(n0, .inr (2, [.ref fc0, .ref fm0, .ref th])), (th, .inl (cI, 6, .inl (oF (fun _ => none)))), (fc0, .inr (1, [.ref m1, .ref t1, .ref s1, .ref st1, .ref e1, .int (nI (fs))])), (m1, .inl (cI, 10, .inl (nF mb))), (t1, .inl (cI, 96, .inl (nF tg))), (s1, .inl (cI, 96, .inl (nF sr))), (st1, .inl (cI, 8, .inl (nF sta))), (e1, .inl (cI, 8, .inl (nF en))), (fm0, .inr (3, [.ref a1, .ref a2, .int (nI (n)), .int (bI (jn))])), (a1, .inl (cI, 4, .inl (nF nm))), (a2, .inl (cI, 8, .inl (nF pl))), (q0, .inr (5, [.ref ow, .int (nI (an)), .ref ra, .int (nI (sz)), .int (bI (lg)), .int (bI (rw9)), .ref fa, .int (bI (se))])), (fa, .inl (cI, 192, .inl (oF fd)))]) [0, 1, 2, 3, 4, 5, 6, 7, 8, 9, 10, 11, 12] rfl
      exact W.vret hx hb hr (fun t9 h9 _ => ⟨⟨(fun _ => none, fd), rfl, ⟨(show ∀ j k, (fun _ => none) j = some k → k < 12 from by (intro j k h; cases h)), (show f_colr (f_col nm pl mb tg sr sta en n an jn) k fd fd from by (exact f_colr_0 _ _ (fun a b _ _ h9 => by have h8 := h9.1; unfold f_cok at h8; simp_all; try omega)))⟩, by show va_P _ _ _ t9.heap; rw [h9]; exact hP9⟩, hS.F h9⟩) hS.2.2 dX2_collect_50
    · refine lv_iload_n hx hb dX2_collect_35 rfl (lv_at hl 0 rfl) ?_
      refine q_ifb_eq (b := ap) (tgt := 51) hx hb dX2_collect_36 (by decide) (fun c36_20 => ?_) (fun c36_20 => ?_)
      · exact L51  ls _ _ (show f_cok pl n an jn from by (refine ⟨by omega, fun h9 => ?_⟩; first | omega | simp_all)) (lv_sub hl [0, 1, 2, 3] rfl) (hP.sub [0, 1, 2, 3, 4, 5, 6, 7, 8, 9, 10, 11, 12] rfl) (hD.sub [0, 1, 2, 3, 4, 5, 6, 7, 8, 9, 10, 11, 12] (by decide) rfl) hS
      · refine lv_aload_n hx hb dX2_collect_39 rfl (lv_at hl 1 rfl) ?_
        refine va_get (D := (dC, dI)) (ci := 2) (v := .ref fm0) (C := RX2) (T := TX2) (N := 3) hx hb hts uX2 hown hK hP 0 rfl rfl 1 (by decide) (hts _ kfX2_12) (fun _ h9 => h9) rfl dX2_collect_40 ?_
        refine lv_iconst (v := (nI (1))) hx hb dX2_collect_43 (by decide) ?_
        refine vp_callSi (va_Run.run (va_runV (As := [.int (nI (1))]) (rest := []) ⟨hx, hb, hml, hown, hts⟩ (c_Form_timesOf l dC dI cI cL cQ cZ fm0 a1 a2 n jn nm pl 1 (show n ≤ 4 from by first | assumption | omega) (show ∀ j, pl j < 16 from by first | assumption | omega) (show 1 < 16 from by first | assumption | omega)) (q_cwV 1 hts gkX3_timesOf kmX2_83 knX3_timesOf klX3_timesOf kiX3 rfl rfl rfl (by decide +kernel) ⟨Nat.le_of_ble_eq_true rfl, Nat.le_of_ble_eq_true rfl⟩) (q_preV hK hP [8, 9, 10] rfl 8 (ci := 3) (r := (RX3, TX3, 4)) rfl rfl) rfl rfl hl.1 rfl (lv_room (Nat.le_of_ble_eq_true rfl)) dX2_collect_44 ⟨Nat.zero_le _, Nat.zero_le _⟩)) (fun r21 hr21 => ?_)
        subst hr21
        refine q_if_ne (x := f_cnt pl 1 (2 * n)) (tgt := 51) hx hb dX2_collect_47 (by decide) (by (have := f_cnt_le pl 1 (2 * n); omega)) (fun c47_22 => ?_) (fun c47_22 => ?_)
        · exact L51  ls _ _ (show f_cok pl n an jn from by (refine ⟨by omega, fun h9 => ?_⟩; first | omega | simp_all)) (lv_sub hl [0, 1, 2, 3] rfl) (hP.sub [0, 1, 2, 3, 4, 5, 6, 7, 8, 9, 10, 11, 12] rfl) (hD.sub [0, 1, 2, 3, 4, 5, 6, 7, 8, 9, 10, 11, 12] (by decide) rfl) hS
        · subst hQ
          subst hAe
          have hP9 := hP.sub (ws' := [(n0, .inr (2, [.ref fc0, .ref fm0, .ref th])), (th, .inl (cI, 6, .inl (oF (fun _ => none)))), (fc0, .inr (1, [.ref m1, .ref t1, .ref s1, .ref st1, .ref e1, .int (nI (fs))])), (m1, .inl (cI, 10, .inl (nF mb))), (t1, .inl (cI, 96, .inl (nF tg))), (s1, .inl (cI, 96, .inl (nF sr))), (st1, .inl (cI, 8, .inl (nF sta))), (e1, .inl (cI, 8, .inl (nF en))), (fm0, .inr (3, [.ref a1, .ref a2, .int (nI (n)), .int (bI (jn))])), (a1, .inl (cI, 4, .inl (nF nm))), (a2, .inl (cI, 8, .inl (nF pl))), (q0, .inr (5, [.ref ow, .int (nI (an)), .ref ra, .int (nI (sz)), .int (bI (lg)), .int (bI (rw9)), .ref fa, .int (bI (se))])), (fa, .inl (cI, 192, .inl (oF fd)))]) [0, 1, 2, 3, 4, 5, 6, 7, 8, 9, 10, 11, 12] rfl
          exact W.vret hx hb hr (fun t9 h9 _ => ⟨⟨(fun _ => none, fd), rfl, ⟨(show ∀ j k, (fun _ => none) j = some k → k < 12 from by (intro j k h; cases h)), (show f_colr (f_col nm pl mb tg sr sta en n an jn) k fd fd from by (exact f_colr_0 _ _ (fun a b _ _ h9 => by have h8 := h9.1; unfold f_cok at h8; simp_all; try omega)))⟩, by show va_P _ _ _ t9.heap; rw [h9]; exact hP9⟩, hS.F h9⟩) hS.2.2 dX2_collect_50
  refine lv_aload_n hx hb dX2_collect_0 rfl (lv_at hl 1 rfl) ?_
  refine va_get (D := (dC, dI)) (ci := 5) (v := .int (nI (an))) (C := RX5) (T := TX5) (N := 8) hx hb hts uX5 hown hK hP 11 rfl rfl 1 (by decide) (hts _ kfX2_53) (fun _ h9 => h9) rfl dX2_collect_1 ?_
  refine lv_iconst (v := (nI (2))) hx hb dX2_collect_4 (by decide) ?_
  refine q_icmp_ne (x := an) (y := 2) (tgt := 22) hx hb dX2_collect_5 (by decide) (by omega) (by omega) (fun c5_23 => ?_) (fun c5_23 => ?_)
  · refine lv_iconst (v := (nI (0))) hx hb dX2_collect_22 (by decide) ?_
    exact L23 false ls _ _ (show false = decide (an = 2 ∧ jn = false) from by (simp_all)) (lv_sub hl [0, 1, 2] rfl) (hP.sub [0, 1, 2, 3, 4, 5, 6, 7, 8, 9, 10, 11, 12] rfl) (hD.sub [0, 1, 2, 3, 4, 5, 6, 7, 8, 9, 10, 11, 12] (by decide) rfl) hS
  · refine lv_aload_n hx hb dX2_collect_8 rfl (lv_at hl 0 rfl) ?_
    refine va_get (D := (dC, dI)) (ci := 2) (v := .ref fm0) (C := RX2) (T := TX2) (N := 3) hx hb hts uX2 hown hK hP 0 rfl rfl 1 (by decide) (hts _ kfX2_12) (fun _ h9 => h9) rfl dX2_collect_9 ?_
    refine va_get (D := (dC, dI)) (ci := 3) (v := .int (bI (jn))) (C := RX3) (T := TX3) (N := 4) hx hb hts uX3 hown hK hP 8 rfl rfl 3 (by decide) (hts _ kfX2_80) (fun _ h9 => h9) rfl dX2_collect_12 ?_
    refine q_ifb_ne (b := jn) (tgt := 22) hx hb dX2_collect_15 (by decide) (fun c15_24 => ?_) (fun c15_24 => ?_)
    · refine lv_iconst (v := (nI (0))) hx hb dX2_collect_22 (by decide) ?_
      exact L23 false ls _ _ (show false = decide (an = 2 ∧ jn = false) from by (simp_all)) (lv_sub hl [0, 1, 2] rfl) (hP.sub [0, 1, 2, 3, 4, 5, 6, 7, 8, 9, 10, 11, 12] rfl) (hD.sub [0, 1, 2, 3, 4, 5, 6, 7, 8, 9, 10, 11, 12] (by decide) rfl) hS
    · refine lv_iconst (v := (nI (1))) hx hb dX2_collect_18 (by decide) ?_
      refine lv_goto (tgt := 23) hx hb dX2_collect_19 (by decide) ?_
      exact L23 true ls _ _ (show true = decide (an = 2 ∧ jn = false) from by (simp_all)) (lv_sub hl [0, 1, 2] rfl) (hP.sub [0, 1, 2, 3, 4, 5, 6, 7, 8, 9, 10, 11, 12] rfl) (hD.sub [0, 1, 2, 3, 4, 5, 6, 7, 8, 9, 10, 11, 12] (by decide) rfl) hS
