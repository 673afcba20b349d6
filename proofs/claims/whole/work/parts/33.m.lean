section QO
variable {p : Program} {l : Launch} {e : Env} {R : Room} {s : State} {m : MethodId} {args : Array Value} {below : List Frame} {meth : Method} {c : Code} {H : Heap} {locs : List Loc} {cells slots : Nat} {Q : State → Prop}
variable {cc : ByteArray} {pc : Nat} {ls : Array Slot} {rest : List Value}
theorem oI_lt {x : Option Nat} (hx : ∀ k, x = some k → k < 2 ^ 31) : oI x < 0 ↔ x = none := by
  cases x with
  | none => exact ⟨fun _ => rfl, fun _ => by decide⟩
  | some k => exact ⟨fun h => absurd h (nI_pos (hx k rfl)), fun h => by cases h⟩
theorem q_ifO_ge (hexec : p.tables.exec = Jvm.exec) (hb : c.code = cc) {x : Option Nat} {off : Int} {tgt : Nat} (hdg : decode cc pc = .ok (.ifCond .ge off, 3)) (ht : (pc : Int) + off = (tgt : Int)) (hx : ∀ k, x = some k → k < 2 ^ 31)
    (kt : ¬ x = none → W p l e R s m args below meth c H locs cells slots Q (F0 m tgt ls rest)) (kf : x = none → W p l e R s m args below meth c H locs cells slots Q (F0 m (pc + 3) ls rest)) : W p l e R s m args below meth c H locs cells slots Q (F0 m pc ls (.int (oI x) :: rest)) := lv_if_ge hexec hb hdg ht (fun h => kt (fun h2 => absurd ((oI_lt hx).mpr h2) (Int32.not_lt.mpr h))) (fun h => kf ((oI_lt hx).mp (Int32.not_le.mp h)))
theorem q_ifO_lt (hexec : p.tables.exec = Jvm.exec) (hb : c.code = cc) {x : Option Nat} {off : Int} {tgt : Nat} (hdg : decode cc pc = .ok (.ifCond .lt off, 3)) (ht : (pc : Int) + off = (tgt : Int)) (hx : ∀ k, x = some k → k < 2 ^ 31)
    (kt : x = none → W p l e R s m args below meth c H locs cells slots Q (F0 m tgt ls rest)) (kf : ¬ x = none → W p l e R s m args below meth c H locs cells slots Q (F0 m (pc + 3) ls rest)) : W p l e R s m args below meth c H locs cells slots Q (F0 m pc ls (.int (oI x) :: rest)) := lv_if_lt hexec hb hdg ht (fun h => kt ((oI_lt hx).mp h)) (fun h => kf (fun h2 => h ((oI_lt hx).mpr h2)))
end QO
theorem m_rnb_lt {pp pb : Nat → Nat} {k fr to b : Nat} (h : ∀ j, pb j < b) (ht : to < b) : ∀ j, m_rnb pp pb k fr to j < b := by
  intro j
  unfold m_rnb
  split
  · exact ht
  · exact h j
theorem m_jn_lt {pp pa pb : Nat → Nat} {he : Nat → Option Nat} {md hc x y r1 : Nat} {pa1 pb1 : Nat → Nat} {he1 : Nat → Option Nat} (h : m_jn pp pa pb he md hc x y r1 pa1 pb1 he1) (hx : x < 18) (hy : y < 18) (hpa : ∀ j, pa j < 18) (hpb : ∀ j, pb j < 18) (hhe : m_hok he hc) : r1 < 18 ∧ (∀ j, pa1 j < 18) ∧ (∀ j, pb1 j < 18) ∧ m_hok he1 hc := by
  unfold m_jn at h
  by_cases h6 : x = 6 ∨ y = 6 ∨ x = y
  · rw [if_pos h6] at h
    obtain ⟨a, b, c, d⟩ := h
    subst b; subst c; subst d
    exact ⟨by rw [a]; split <;> omega, hpa, hpb, hhe⟩
  · rw [if_neg h6] at h
    obtain ⟨a, b, c, d⟩ := h
    subst a; subst b; subst c; subst d
    refine ⟨by omega, f_ren_lt hpa (by omega), m_rnb_lt hpb (by omega), fun j hj => ?_⟩
    have h1 := hhe j hj
    have e : m_rnh he hc (max x y) (min x y) j = if he j = some (max x y) then some (min x y) else he j := by
      unfold m_rnh
      by_cases h2 : he j = some (max x y)
      · rw [if_pos ⟨hj, h2⟩, if_pos h2]
      · rw [if_neg (fun h3 => h2 h3.2), if_neg h2]
    by_cases h2 : he j = some (max x y)
    · rw [if_pos h2] at e
      have e2 : m_h (m_rnh he hc (max x y) (min x y)) j = min x y := by unfold m_h; rw [e]; rfl
      rw [e2, e]; exact ⟨rfl, by omega⟩
    · rw [if_neg h2] at e
      have e2 : m_h (m_rnh he hc (max x y) (min x y)) j = m_h he j := by unfold m_h; rw [e]
      rw [e2, e]; exact h1
def m_mt (pp pa pb : Nat → Nat) (he : Nat → Option Nat) (md hc i k : Nat) (b1 : Bool) (pa1 pb1 : Nat → Nat) (he1 : Nat → Option Nat) : Prop :=
  (¬ pp i = pp k ∧ b1 = false ∧ pa1 = pa ∧ pb1 = pb ∧ he1 = he) ∨
  (pp i = pp k ∧ b1 = true ∧ ∃ (r : Nat) (pa' pb' : Nat → Nat) (he' : Nat → Option Nat), m_jn pp pa pb he md hc (pa i) (pa k) r pa' pb' he' ∧
    ((pp i < 32 ∧ pa1 = va_up (va_up (va_up pa' i r) k r) k (va_up (va_up pa' i r) k r i) ∧ pb1 = pb' ∧ he1 = he') ∨
     (32 ≤ pp i ∧ ∃ (r2 : Nat) (pa2 pb2 : Nat → Nat) (he2 : Nat → Option Nat), m_jn pp (va_up (va_up pa' i r) k r) pb' he' md hc (pb' i) (pb' k) r2 pa2 pb2 he2 ∧ pa1 = va_up pa2 k (pa2 i) ∧ pb1 = va_up (va_up pb2 i r2) k r2 ∧ he1 = he2)))
def m_hcn (o0 o1 : Option Nat) : Nat := if o0 = none then 0 else if o1 = none then 1 else 2
def m_ld (cs : Nat → Nat) (f : Nat) (g1 g2 g3 : Nat → Nat) (k : Nat) : Prop := ∀ j, j < k → g1 j = cs (4 * f + j) / 64 ∧ g2 j = cs (4 * f + j) / 8 % 8 ∧ g3 j = cs (4 * f + j) % 8
theorem m_ld_s {cs : Nat → Nat} {f i : Nat} {g1 g2 g3 : Nat → Nat} (h : m_ld cs f g1 g2 g3 i) : m_ld cs f (va_up g1 i (cs (4 * f + i) / 64)) (va_up g2 i (cs (4 * f + i) / 8 % 8)) (va_up g3 i (cs (4 * f + i) % 8)) (i + 1) := by
  intro j hj
  by_cases hji : j = i
  · rw [hji, up_s, up_s, up_s]; exact ⟨rfl, rfl, rfl⟩
  · rw [up_n _ _ hji, up_n _ _ hji, up_n _ _ hji]; exact h j (by omega)
def m_code (pp pa pb nd : Nat → Nat) (k : Nat) : Nat := 64 * pp k + 8 * nd (pa k) + (if 32 ≤ pp k then nd (pb k) else 7)
theorem m_code_lt {pp pa pb nd : Nat → Nat} {i : Nat} (hp : pp i < 64) (hn : ∀ j, nd j < 8) : m_code pp pa pb nd i < 8192 := by
  unfold m_code
  have h1 := hn (pa i)
  have h2 := hn (pb i)
  split <;> omega
abbrev cX8_meet : ByteArray := prog_10_method_30_code
def yX8_meet : MethodName := ⟨RX8, "meet", "(II)Z"⟩
def wkX8_meet : List Cond := .code yX8_meet cX8_meet 5 (some .boolean) :: qW
set_option maxRecDepth 40000 in
theorem gkX8_meet : GoodIn qW wkX8_meet := q_good (qw 789 rfl rfl)
set_option maxRecDepth 40000 in
theorem knX8_meet : Cond.instanceMethod yX8_meet ∈ qW := qw 788 rfl rfl
set_option maxRecDepth 40000 in
theorem klX8_meet : Cond.selects RX8 yX8_meet yX8_meet ∈ qW := qw 35 rfl rfl
theorem dX8_meet_0 : decode cX8_meet 0 = .ok (.aload_n 0, 1) := by decide +kernel
theorem dX8_meet_1 : decode cX8_meet 1 = .ok (.getfield 56, 3) := by decide +kernel
theorem dX8_meet_4 : decode cX8_meet 4 = .ok (.iload_n 1, 1) := by decide +kernel
theorem dX8_meet_5 : decode cX8_meet 5 = .ok (.iaload, 1) := by decide +kernel
theorem dX8_meet_6 : decode cX8_meet 6 = .ok (.aload_n 0, 1) := by decide +kernel
theorem dX8_meet_7 : decode cX8_meet 7 = .ok (.getfield 56, 3) := by decide +kernel
theorem dX8_meet_10 : decode cX8_meet 10 = .ok (.iload_n 2, 1) := by decide +kernel
theorem dX8_meet_11 : decode cX8_meet 11 = .ok (.iaload, 1) := by decide +kernel
theorem dX8_meet_12 : decode cX8_meet 12 = .ok (.if_icmp .eq 5, 3) := by decide +kernel
theorem dX8_meet_15 : decode cX8_meet 15 = .ok (.iconst 0, 1) := by decide +kernel
theorem dX8_meet_16 : decode cX8_meet 16 = .ok (.ireturn, 1) := by decide +kernel
theorem dX8_meet_17 : decode cX8_meet 17 = .ok (.aload_n 0, 1) := by decide +kernel
theorem dX8_meet_18 : decode cX8_meet 18 = .ok (.aload_n 0, 1) := by decide +kernel
theorem dX8_meet_19 : decode cX8_meet 19 = .ok (.getfield 59, 3) := by decide +kernel
theorem dX8_meet_22 : decode cX8_meet 22 = .ok (.iload_n 1, 1) := by decide +kernel
theorem dX8_meet_23 : decode cX8_meet 23 = .ok (.iaload, 1) := by decide +kernel
theorem dX8_meet_24 : decode cX8_meet 24 = .ok (.aload_n 0, 1) := by decide +kernel
theorem dX8_meet_25 : decode cX8_meet 25 = .ok (.getfield 59, 3) := by decide +kernel
theorem dX8_meet_28 : decode cX8_meet 28 = .ok (.iload_n 2, 1) := by decide +kernel
theorem dX8_meet_29 : decode cX8_meet 29 = .ok (.iaload, 1) := by decide +kernel
theorem dX8_meet_30 : decode cX8_meet 30 = .ok (.invokevirtual 176, 3) := by decide +kernel
theorem dX8_meet_33 : decode cX8_meet 33 = .ok (.istore_n 3, 1) := by decide +kernel
theorem dX8_meet_34 : decode cX8_meet 34 = .ok (.aload_n 0, 1) := by decide +kernel
theorem dX8_meet_35 : decode cX8_meet 35 = .ok (.getfield 59, 3) := by decide +kernel
theorem dX8_meet_38 : decode cX8_meet 38 = .ok (.iload_n 1, 1) := by decide +kernel
theorem dX8_meet_39 : decode cX8_meet 39 = .ok (.iload_n 3, 1) := by decide +kernel
theorem dX8_meet_40 : decode cX8_meet 40 = .ok (.iastore, 1) := by decide +kernel
theorem dX8_meet_41 : decode cX8_meet 41 = .ok (.aload_n 0, 1) := by decide +kernel
theorem dX8_meet_42 : decode cX8_meet 42 = .ok (.getfield 59, 3) := by decide +kernel
theorem dX8_meet_45 : decode cX8_meet 45 = .ok (.iload_n 2, 1) := by decide +kernel
theorem dX8_meet_46 : decode cX8_meet 46 = .ok (.iload_n 3, 1) := by decide +kernel
theorem dX8_meet_47 : decode cX8_meet 47 = .ok (.iastore, 1) := by decide +kernel
theorem dX8_meet_48 : decode cX8_meet 48 = .ok (.aload_n 0, 1) := by decide +kernel
theorem dX8_meet_49 : decode cX8_meet 49 = .ok (.getfield 56, 3) := by decide +kernel
theorem dX8_meet_52 : decode cX8_meet 52 = .ok (.iload_n 1, 1) := by decide +kernel
theorem dX8_meet_53 : decode cX8_meet 53 = .ok (.iaload, 1) := by decide +kernel
theorem dX8_meet_54 : decode cX8_meet 54 = .ok (.bipush 32, 2) := by decide +kernel
theorem dX8_meet_56 : decode cX8_meet 56 = .ok (.if_icmp .lt 37, 3) := by decide +kernel
theorem dX8_meet_59 : decode cX8_meet 59 = .ok (.aload_n 0, 1) := by decide +kernel
theorem dX8_meet_60 : decode cX8_meet 60 = .ok (.aload_n 0, 1) := by decide +kernel
theorem dX8_meet_61 : decode cX8_meet 61 = .ok (.getfield 62, 3) := by decide +kernel
theorem dX8_meet_64 : decode cX8_meet 64 = .ok (.iload_n 1, 1) := by decide +kernel
theorem dX8_meet_65 : decode cX8_meet 65 = .ok (.iaload, 1) := by decide +kernel
theorem dX8_meet_66 : decode cX8_meet 66 = .ok (.aload_n 0, 1) := by decide +kernel
theorem dX8_meet_67 : decode cX8_meet 67 = .ok (.getfield 62, 3) := by decide +kernel
theorem dX8_meet_70 : decode cX8_meet 70 = .ok (.iload_n 2, 1) := by decide +kernel
theorem dX8_meet_71 : decode cX8_meet 71 = .ok (.iaload, 1) := by decide +kernel
theorem dX8_meet_72 : decode cX8_meet 72 = .ok (.invokevirtual 176, 3) := by decide +kernel
theorem dX8_meet_75 : decode cX8_meet 75 = .ok (.istore 4, 2) := by decide +kernel
theorem dX8_meet_77 : decode cX8_meet 77 = .ok (.aload_n 0, 1) := by decide +kernel
theorem dX8_meet_78 : decode cX8_meet 78 = .ok (.getfield 62, 3) := by decide +kernel
theorem dX8_meet_81 : decode cX8_meet 81 = .ok (.iload_n 1, 1) := by decide +kernel
theorem dX8_meet_82 : decode cX8_meet 82 = .ok (.iload 4, 2) := by decide +kernel
theorem dX8_meet_84 : decode cX8_meet 84 = .ok (.iastore, 1) := by decide +kernel
theorem dX8_meet_85 : decode cX8_meet 85 = .ok (.aload_n 0, 1) := by decide +kernel
theorem dX8_meet_86 : decode cX8_meet 86 = .ok (.getfield 62, 3) := by decide +kernel
theorem dX8_meet_89 : decode cX8_meet 89 = .ok (.iload_n 2, 1) := by decide +kernel
theorem dX8_meet_90 : decode cX8_meet 90 = .ok (.iload 4, 2) := by decide +kernel
theorem dX8_meet_92 : decode cX8_meet 92 = .ok (.iastore, 1) := by decide +kernel
theorem dX8_meet_93 : decode cX8_meet 93 = .ok (.aload_n 0, 1) := by decide +kernel
theorem dX8_meet_94 : decode cX8_meet 94 = .ok (.getfield 59, 3) := by decide +kernel
theorem dX8_meet_97 : decode cX8_meet 97 = .ok (.iload_n 2, 1) := by decide +kernel
theorem dX8_meet_98 : decode cX8_meet 98 = .ok (.aload_n 0, 1) := by decide +kernel
theorem dX8_meet_99 : decode cX8_meet 99 = .ok (.getfield 59, 3) := by decide +kernel
theorem dX8_meet_102 : decode cX8_meet 102 = .ok (.iload_n 1, 1) := by decide +kernel
theorem dX8_meet_103 : decode cX8_meet 103 = .ok (.iaload, 1) := by decide +kernel
theorem dX8_meet_104 : decode cX8_meet 104 = .ok (.iastore, 1) := by decide +kernel
theorem dX8_meet_105 : decode cX8_meet 105 = .ok (.iconst 1, 1) := by decide +kernel
theorem dX8_meet_106 : decode cX8_meet 106 = .ok (.ireturn, 1) := by decide +kernel
abbrev cX8_load : ByteArray := prog_10_method_25_code
def yX8_load : MethodName := ⟨RX8, "load", "(I)V"⟩
def wkX8_load : List Cond := .code yX8_load cX8_load 3 none :: qW
set_option maxRecDepth 40000 in
theorem gkX8_load : GoodIn qW wkX8_load := q_good (qw 777 rfl rfl)
set_option maxRecDepth 40000 in
theorem knX8_load : Cond.instanceMethod yX8_load ∈ qW := qw 776 rfl rfl
set_option maxRecDepth 40000 in
theorem klX8_load : Cond.selects RX8 yX8_load yX8_load ∈ qW := qw 32 rfl rfl
theorem dX8_load_0 : decode cX8_load 0 = .ok (.aload_n 0, 1) := by decide +kernel
theorem dX8_load_1 : decode cX8_load 1 = .ok (.aload_n 0, 1) := by decide +kernel
theorem dX8_load_2 : decode cX8_load 2 = .ok (.getfield 47, 3) := by decide +kernel
theorem dX8_load_5 : decode cX8_load 5 = .ok (.iload_n 1, 1) := by decide +kernel
theorem dX8_load_6 : decode cX8_load 6 = .ok (.iaload, 1) := by decide +kernel
theorem dX8_load_7 : decode cX8_load 7 = .ok (.putfield 121, 3) := by decide +kernel
theorem dX8_load_10 : decode cX8_load 10 = .ok (.iconst 0, 1) := by decide +kernel
theorem dX8_load_11 : decode cX8_load 11 = .ok (.istore_n 2, 1) := by decide +kernel
theorem dX8_load_12 : decode cX8_load 12 = .ok (.iload_n 2, 1) := by decide +kernel
theorem dX8_load_13 : decode cX8_load 13 = .ok (.aload_n 0, 1) := by decide +kernel
theorem dX8_load_14 : decode cX8_load 14 = .ok (.getfield 121, 3) := by decide +kernel
theorem dX8_load_17 : decode cX8_load 17 = .ok (.if_icmp .ge 69, 3) := by decide +kernel
theorem dX8_load_20 : decode cX8_load 20 = .ok (.aload_n 0, 1) := by decide +kernel
theorem dX8_load_21 : decode cX8_load 21 = .ok (.getfield 56, 3) := by decide +kernel
theorem dX8_load_24 : decode cX8_load 24 = .ok (.iload_n 2, 1) := by decide +kernel
theorem dX8_load_25 : decode cX8_load 25 = .ok (.aload_n 0, 1) := by decide +kernel
theorem dX8_load_26 : decode cX8_load 26 = .ok (.getfield 50, 3) := by decide +kernel
theorem dX8_load_29 : decode cX8_load 29 = .ok (.iconst 4, 1) := by decide +kernel
theorem dX8_load_30 : decode cX8_load 30 = .ok (.iload_n 1, 1) := by decide +kernel
theorem dX8_load_31 : decode cX8_load 31 = .ok (.imul, 1) := by decide +kernel
theorem dX8_load_32 : decode cX8_load 32 = .ok (.iload_n 2, 1) := by decide +kernel
theorem dX8_load_33 : decode cX8_load 33 = .ok (.iadd, 1) := by decide +kernel
theorem dX8_load_34 : decode cX8_load 34 = .ok (.iaload, 1) := by decide +kernel
theorem dX8_load_35 : decode cX8_load 35 = .ok (.bipush 64, 2) := by decide +kernel
theorem dX8_load_37 : decode cX8_load 37 = .ok (.idiv, 1) := by decide +kernel
theorem dX8_load_38 : decode cX8_load 38 = .ok (.iastore, 1) := by decide +kernel
theorem dX8_load_39 : decode cX8_load 39 = .ok (.aload_n 0, 1) := by decide +kernel
theorem dX8_load_40 : decode cX8_load 40 = .ok (.getfield 59, 3) := by decide +kernel
theorem dX8_load_43 : decode cX8_load 43 = .ok (.iload_n 2, 1) := by decide +kernel
theorem dX8_load_44 : decode cX8_load 44 = .ok (.aload_n 0, 1) := by decide +kernel
theorem dX8_load_45 : decode cX8_load 45 = .ok (.getfield 50, 3) := by decide +kernel
theorem dX8_load_48 : decode cX8_load 48 = .ok (.iconst 4, 1) := by decide +kernel
theorem dX8_load_49 : decode cX8_load 49 = .ok (.iload_n 1, 1) := by decide +kernel
theorem dX8_load_50 : decode cX8_load 50 = .ok (.imul, 1) := by decide +kernel
theorem dX8_load_51 : decode cX8_load 51 = .ok (.iload_n 2, 1) := by decide +kernel
theorem dX8_load_52 : decode cX8_load 52 = .ok (.iadd, 1) := by decide +kernel
theorem dX8_load_53 : decode cX8_load 53 = .ok (.iaload, 1) := by decide +kernel
theorem dX8_load_54 : decode cX8_load 54 = .ok (.bipush 8, 2) := by decide +kernel
theorem dX8_load_56 : decode cX8_load 56 = .ok (.idiv, 1) := by decide +kernel
theorem dX8_load_57 : decode cX8_load 57 = .ok (.bipush 8, 2) := by decide +kernel
theorem dX8_load_59 : decode cX8_load 59 = .ok (.irem, 1) := by decide +kernel
theorem dX8_load_60 : decode cX8_load 60 = .ok (.iastore, 1) := by decide +kernel
theorem dX8_load_61 : decode cX8_load 61 = .ok (.aload_n 0, 1) := by decide +kernel
theorem dX8_load_62 : decode cX8_load 62 = .ok (.getfield 62, 3) := by decide +kernel
theorem dX8_load_65 : decode cX8_load 65 = .ok (.iload_n 2, 1) := by decide +kernel
theorem dX8_load_66 : decode cX8_load 66 = .ok (.aload_n 0, 1) := by decide +kernel
theorem dX8_load_67 : decode cX8_load 67 = .ok (.getfield 50, 3) := by decide +kernel
theorem dX8_load_70 : decode cX8_load 70 = .ok (.iconst 4, 1) := by decide +kernel
theorem dX8_load_71 : decode cX8_load 71 = .ok (.iload_n 1, 1) := by decide +kernel
theorem dX8_load_72 : decode cX8_load 72 = .ok (.imul, 1) := by decide +kernel
theorem dX8_load_73 : decode cX8_load 73 = .ok (.iload_n 2, 1) := by decide +kernel
theorem dX8_load_74 : decode cX8_load 74 = .ok (.iadd, 1) := by decide +kernel
theorem dX8_load_75 : decode cX8_load 75 = .ok (.iaload, 1) := by decide +kernel
theorem dX8_load_76 : decode cX8_load 76 = .ok (.bipush 8, 2) := by decide +kernel
theorem dX8_load_78 : decode cX8_load 78 = .ok (.irem, 1) := by decide +kernel
theorem dX8_load_79 : decode cX8_load 79 = .ok (.iastore, 1) := by decide +kernel
theorem dX8_load_80 : decode cX8_load 80 = .ok (.iinc 2 1, 3) := by decide +kernel
theorem dX8_load_83 : decode cX8_load 83 = .ok (.goto (-71), 3) := by decide +kernel
theorem dX8_load_86 : decode cX8_load 86 = .ok (.aload_n 0, 1) := by decide +kernel
theorem dX8_load_87 : decode cX8_load 87 = .ok (.aload_n 0, 1) := by decide +kernel
theorem dX8_load_88 : decode cX8_load 88 = .ok (.getfield 53, 3) := by decide +kernel
theorem dX8_load_91 : decode cX8_load 91 = .ok (.iconst 2, 1) := by decide +kernel
theorem dX8_load_92 : decode cX8_load 92 = .ok (.iload_n 1, 1) := by decide +kernel
theorem dX8_load_93 : decode cX8_load 93 = .ok (.imul, 1) := by decide +kernel
theorem dX8_load_94 : decode cX8_load 94 = .ok (.iaload, 1) := by decide +kernel
theorem dX8_load_95 : decode cX8_load 95 = .ok (.ifCond .ge 7, 3) := by decide +kernel
theorem dX8_load_98 : decode cX8_load 98 = .ok (.iconst 0, 1) := by decide +kernel
theorem dX8_load_99 : decode cX8_load 99 = .ok (.goto 21, 3) := by decide +kernel
theorem dX8_load_102 : decode cX8_load 102 = .ok (.aload_n 0, 1) := by decide +kernel
theorem dX8_load_103 : decode cX8_load 103 = .ok (.getfield 53, 3) := by decide +kernel
theorem dX8_load_106 : decode cX8_load 106 = .ok (.iconst 2, 1) := by decide +kernel
theorem dX8_load_107 : decode cX8_load 107 = .ok (.iload_n 1, 1) := by decide +kernel
theorem dX8_load_108 : decode cX8_load 108 = .ok (.imul, 1) := by decide +kernel
theorem dX8_load_109 : decode cX8_load 109 = .ok (.iconst 1, 1) := by decide +kernel
theorem dX8_load_110 : decode cX8_load 110 = .ok (.iadd, 1) := by decide +kernel
theorem dX8_load_111 : decode cX8_load 111 = .ok (.iaload, 1) := by decide +kernel
theorem dX8_load_112 : decode cX8_load 112 = .ok (.ifCond .ge 7, 3) := by decide +kernel
theorem dX8_load_115 : decode cX8_load 115 = .ok (.iconst 1, 1) := by decide +kernel
theorem dX8_load_116 : decode cX8_load 116 = .ok (.goto 4, 3) := by decide +kernel
theorem dX8_load_119 : decode cX8_load 119 = .ok (.iconst 2, 1) := by decide +kernel
theorem dX8_load_120 : decode cX8_load 120 = .ok (.putfield 118, 3) := by decide +kernel
theorem dX8_load_123 : decode cX8_load 123 = .ok (.aload_n 0, 1) := by decide +kernel
theorem dX8_load_124 : decode cX8_load 124 = .ok (.getfield 65, 3) := by decide +kernel
theorem dX8_load_127 : decode cX8_load 127 = .ok (.iconst 0, 1) := by decide +kernel
theorem dX8_load_128 : decode cX8_load 128 = .ok (.aload_n 0, 1) := by decide +kernel
theorem dX8_load_129 : decode cX8_load 129 = .ok (.getfield 53, 3) := by decide +kernel
theorem dX8_load_132 : decode cX8_load 132 = .ok (.iconst 2, 1) := by decide +kernel
theorem dX8_load_133 : decode cX8_load 133 = .ok (.iload_n 1, 1) := by decide +kernel
theorem dX8_load_134 : decode cX8_load 134 = .ok (.imul, 1) := by decide +kernel
theorem dX8_load_135 : decode cX8_load 135 = .ok (.iaload, 1) := by decide +kernel
theorem dX8_load_136 : decode cX8_load 136 = .ok (.iastore, 1) := by decide +kernel
theorem dX8_load_137 : decode cX8_load 137 = .ok (.aload_n 0, 1) := by decide +kernel
theorem dX8_load_138 : decode cX8_load 138 = .ok (.getfield 65, 3) := by decide +kernel
theorem dX8_load_141 : decode cX8_load 141 = .ok (.iconst 1, 1) := by decide +kernel
theorem dX8_load_142 : decode cX8_load 142 = .ok (.aload_n 0, 1) := by decide +kernel
theorem dX8_load_143 : decode cX8_load 143 = .ok (.getfield 53, 3) := by decide +kernel
theorem dX8_load_146 : decode cX8_load 146 = .ok (.iconst 2, 1) := by decide +kernel
theorem dX8_load_147 : decode cX8_load 147 = .ok (.iload_n 1, 1) := by decide +kernel
theorem dX8_load_148 : decode cX8_load 148 = .ok (.imul, 1) := by decide +kernel
theorem dX8_load_149 : decode cX8_load 149 = .ok (.iconst 1, 1) := by decide +kernel
theorem dX8_load_150 : decode cX8_load 150 = .ok (.iadd, 1) := by decide +kernel
theorem dX8_load_151 : decode cX8_load 151 = .ok (.iaload, 1) := by decide +kernel
theorem dX8_load_152 : decode cX8_load 152 = .ok (.iastore, 1) := by decide +kernel
theorem dX8_load_153 : decode cX8_load 153 = .ok (.return_, 1) := by decide +kernel
abbrev cX8_lay : ByteArray := prog_10_method_19_code
def yX8_lay : MethodName := ⟨RX8, "lay", "()V"⟩
def wkX8_lay : List Cond := .code yX8_lay cX8_lay 4 none :: qW
set_option maxRecDepth 40000 in
theorem gkX8_lay : GoodIn qW wkX8_lay := q_good (qw 765 rfl rfl)
set_option maxRecDepth 40000 in
theorem knX8_lay : Cond.instanceMethod yX8_lay ∈ qW := qw 764 rfl rfl
set_option maxRecDepth 40000 in
theorem klX8_lay : Cond.selects RX8 yX8_lay yX8_lay ∈ qW := qw 29 rfl rfl
theorem dX8_lay_0 : decode cX8_lay 0 = .ok (.iconst 0, 1) := by decide +kernel
theorem dX8_lay_1 : decode cX8_lay 1 = .ok (.istore_n 1, 1) := by decide +kernel
theorem dX8_lay_2 : decode cX8_lay 2 = .ok (.iload_n 1, 1) := by decide +kernel
theorem dX8_lay_3 : decode cX8_lay 3 = .ok (.aload_n 0, 1) := by decide +kernel
theorem dX8_lay_4 : decode cX8_lay 4 = .ok (.getfield 121, 3) := by decide +kernel
theorem dX8_lay_7 : decode cX8_lay 7 = .ok (.if_icmp .ge 107, 3) := by decide +kernel
theorem dX8_lay_10 : decode cX8_lay 10 = .ok (.bipush 64, 2) := by decide +kernel
theorem dX8_lay_12 : decode cX8_lay 12 = .ok (.aload_n 0, 1) := by decide +kernel
theorem dX8_lay_13 : decode cX8_lay 13 = .ok (.getfield 56, 3) := by decide +kernel
theorem dX8_lay_16 : decode cX8_lay 16 = .ok (.iload_n 1, 1) := by decide +kernel
theorem dX8_lay_17 : decode cX8_lay 17 = .ok (.iaload, 1) := by decide +kernel
theorem dX8_lay_18 : decode cX8_lay 18 = .ok (.imul, 1) := by decide +kernel
theorem dX8_lay_19 : decode cX8_lay 19 = .ok (.bipush 8, 2) := by decide +kernel
theorem dX8_lay_21 : decode cX8_lay 21 = .ok (.aload_n 0, 1) := by decide +kernel
theorem dX8_lay_22 : decode cX8_lay 22 = .ok (.getfield 68, 3) := by decide +kernel
theorem dX8_lay_25 : decode cX8_lay 25 = .ok (.aload_n 0, 1) := by decide +kernel
theorem dX8_lay_26 : decode cX8_lay 26 = .ok (.getfield 59, 3) := by decide +kernel
theorem dX8_lay_29 : decode cX8_lay 29 = .ok (.iload_n 1, 1) := by decide +kernel
theorem dX8_lay_30 : decode cX8_lay 30 = .ok (.iaload, 1) := by decide +kernel
theorem dX8_lay_31 : decode cX8_lay 31 = .ok (.iaload, 1) := by decide +kernel
theorem dX8_lay_32 : decode cX8_lay 32 = .ok (.imul, 1) := by decide +kernel
theorem dX8_lay_33 : decode cX8_lay 33 = .ok (.iadd, 1) := by decide +kernel
theorem dX8_lay_34 : decode cX8_lay 34 = .ok (.aload_n 0, 1) := by decide +kernel
theorem dX8_lay_35 : decode cX8_lay 35 = .ok (.getfield 56, 3) := by decide +kernel
theorem dX8_lay_38 : decode cX8_lay 38 = .ok (.iload_n 1, 1) := by decide +kernel
theorem dX8_lay_39 : decode cX8_lay 39 = .ok (.iaload, 1) := by decide +kernel
theorem dX8_lay_40 : decode cX8_lay 40 = .ok (.bipush 32, 2) := by decide +kernel
theorem dX8_lay_42 : decode cX8_lay 42 = .ok (.if_icmp .lt 17, 3) := by decide +kernel
theorem dX8_lay_45 : decode cX8_lay 45 = .ok (.aload_n 0, 1) := by decide +kernel
theorem dX8_lay_46 : decode cX8_lay 46 = .ok (.getfield 68, 3) := by decide +kernel
theorem dX8_lay_49 : decode cX8_lay 49 = .ok (.aload_n 0, 1) := by decide +kernel
theorem dX8_lay_50 : decode cX8_lay 50 = .ok (.getfield 62, 3) := by decide +kernel
theorem dX8_lay_53 : decode cX8_lay 53 = .ok (.iload_n 1, 1) := by decide +kernel
theorem dX8_lay_54 : decode cX8_lay 54 = .ok (.iaload, 1) := by decide +kernel
theorem dX8_lay_55 : decode cX8_lay 55 = .ok (.iaload, 1) := by decide +kernel
theorem dX8_lay_56 : decode cX8_lay 56 = .ok (.goto 5, 3) := by decide +kernel
theorem dX8_lay_59 : decode cX8_lay 59 = .ok (.bipush 7, 2) := by decide +kernel
theorem dX8_lay_61 : decode cX8_lay 61 = .ok (.iadd, 1) := by decide +kernel
theorem dX8_lay_62 : decode cX8_lay 62 = .ok (.istore_n 2, 1) := by decide +kernel
theorem dX8_lay_63 : decode cX8_lay 63 = .ok (.iload_n 1, 1) := by decide +kernel
theorem dX8_lay_64 : decode cX8_lay 64 = .ok (.istore_n 3, 1) := by decide +kernel
theorem dX8_lay_65 : decode cX8_lay 65 = .ok (.iload_n 3, 1) := by decide +kernel
theorem dX8_lay_66 : decode cX8_lay 66 = .ok (.ifCond .le 35, 3) := by decide +kernel
theorem dX8_lay_69 : decode cX8_lay 69 = .ok (.aload_n 0, 1) := by decide +kernel
theorem dX8_lay_70 : decode cX8_lay 70 = .ok (.getfield 74, 3) := by decide +kernel
theorem dX8_lay_73 : decode cX8_lay 73 = .ok (.iload_n 3, 1) := by decide +kernel
theorem dX8_lay_74 : decode cX8_lay 74 = .ok (.iconst 1, 1) := by decide +kernel
theorem dX8_lay_75 : decode cX8_lay 75 = .ok (.isub, 1) := by decide +kernel
theorem dX8_lay_76 : decode cX8_lay 76 = .ok (.iaload, 1) := by decide +kernel
theorem dX8_lay_77 : decode cX8_lay 77 = .ok (.iload_n 2, 1) := by decide +kernel
theorem dX8_lay_78 : decode cX8_lay 78 = .ok (.if_icmp .le 23, 3) := by decide +kernel
theorem dX8_lay_81 : decode cX8_lay 81 = .ok (.aload_n 0, 1) := by decide +kernel
theorem dX8_lay_82 : decode cX8_lay 82 = .ok (.getfield 74, 3) := by decide +kernel
theorem dX8_lay_85 : decode cX8_lay 85 = .ok (.iload_n 3, 1) := by decide +kernel
theorem dX8_lay_86 : decode cX8_lay 86 = .ok (.aload_n 0, 1) := by decide +kernel
theorem dX8_lay_87 : decode cX8_lay 87 = .ok (.getfield 74, 3) := by decide +kernel
theorem dX8_lay_90 : decode cX8_lay 90 = .ok (.iload_n 3, 1) := by decide +kernel
theorem dX8_lay_91 : decode cX8_lay 91 = .ok (.iconst 1, 1) := by decide +kernel
theorem dX8_lay_92 : decode cX8_lay 92 = .ok (.isub, 1) := by decide +kernel
theorem dX8_lay_93 : decode cX8_lay 93 = .ok (.iaload, 1) := by decide +kernel
theorem dX8_lay_94 : decode cX8_lay 94 = .ok (.iastore, 1) := by decide +kernel
theorem dX8_lay_95 : decode cX8_lay 95 = .ok (.iinc 3 (-1), 3) := by decide +kernel
theorem dX8_lay_98 : decode cX8_lay 98 = .ok (.goto (-33), 3) := by decide +kernel
theorem dX8_lay_101 : decode cX8_lay 101 = .ok (.aload_n 0, 1) := by decide +kernel
theorem dX8_lay_102 : decode cX8_lay 102 = .ok (.getfield 74, 3) := by decide +kernel
theorem dX8_lay_105 : decode cX8_lay 105 = .ok (.iload_n 3, 1) := by decide +kernel
theorem dX8_lay_106 : decode cX8_lay 106 = .ok (.iload_n 2, 1) := by decide +kernel
theorem dX8_lay_107 : decode cX8_lay 107 = .ok (.iastore, 1) := by decide +kernel
theorem dX8_lay_108 : decode cX8_lay 108 = .ok (.iinc 1 1, 3) := by decide +kernel
theorem dX8_lay_111 : decode cX8_lay 111 = .ok (.goto (-109), 3) := by decide +kernel
theorem dX8_lay_114 : decode cX8_lay 114 = .ok (.return_, 1) := by decide +kernel
set_option maxRecDepth 40000 in
theorem kmX8_176 : Cond.methodLink RX8 176 yX8_join ∈ qW := qw 790 rfl rfl
set_option maxRecDepth 40000 in
theorem kfX8_47 : Cond.fieldLink RX8 47 "QlRewriteModel" "sizes" "[I" ∈ qW := qw 587 rfl rfl
set_option maxRecDepth 40000 in
theorem kfX8_53 : Cond.fieldLink RX8 53 "QlRewriteModel" "heads" "[I" ∈ qW := qw 589 rfl rfl
set_option maxRecDepth 40000 in
theorem kfX8_50 : Cond.fieldLink RX8 50 "QlRewriteModel" "codes" "[I" ∈ qW := qw 588 rfl rfl
set_option maxRecDepth 40000 in
theorem kfX8_74 : Cond.fieldLink RX8 74 "QlRewriteModel" "row" "[I" ∈ qW := qw 598 rfl rfl
set_option maxRecDepth 40000 in
theorem kfX8_68 : Cond.fieldLink RX8 68 "QlRewriteModel" "named" "[I" ∈ qW := qw 596 rfl rfl
abbrev rm_c_Model_meet : Room := { frames := 1, cells := 0, slots := 0, locals := 25 }
set_option maxHeartbeats 4000000 in
set_option maxRecDepth 100000 in
theorem c_Model_meet (l : Launch) (dC : Nat → ClassId) (dI : Nat → Nat → Nat) (cI cL cQ cZ : ClassId) (x0 : Nat) (ax : Nat) (z1 : Nat) (z2 : Nat) (z3 : Nat) (fc : Nat) (z5 : Nat) (z6 : Nat) (z7 : Nat) (qs : Nat) (z9 : Nat) (z10 : Nat) (z11 : Nat) (z12 : Nat) (z13 : Nat) (hd : Option Nat) (lg : Bool) (fcn : Nat) (z17 : Nat) (z18 : Nat) (z19 : Nat) (md : Nat) (z21 : Nat) (z22 : Nat) (z23 : Nat) (z24 : Nat) (hc : Nat) (z26 : Nat) (z27 : Nat) (z28 : Nat) (z29 : Nat) (z30 : Nat) (z31 : Nat) (sm : Bool) (z33 : Nat) (z34 : Nat) (pp : Nat → Nat) (pa : Nat → Nat) (pb : Nat → Nat) (he : Nat → Option Nat) (i : Nat) (k : Nat) (hmd : md ≤ 4) (hpp : ∀ j, pp j < 64) (hpa : ∀ j, pa j < 18) (hpb : ∀ j, pb j < 18) (hhc : hc ≤ 2) (hhe : m_hok he hc) (hi : i < 4) (hk : k < 4) : Met l yX8_meet wkX8_meet rm_c_Model_meet (q_W (dC, dI) qCl (qT cI cL cQ cZ) [(x0, .inr (8, mO ax z1 z2 z3 fc z5 z6 z7 qs z9 z10 z11 z12 z13 hd lg fcn z17 z18 z19 md z21 z22 z23 z24 hc z26 z27 z28 z29 z30 z31 sm z33 z34)), (z21, .inl (cI, 4, .inl (nF pp))), (z22, .inl (cI, 4, .inl (nF pa))), (z23, .inl (cI, 4, .inl (nF pb))), (z24, .inl (cI, 2, .inl (oF he)))] [.ref x0, .int (nI (i)), .int (nI (k))]) (va_Qi (fun (r : Int32) (u : Bool × (Nat → Nat) × (Nat → Nat) × (Nat → Option Nat)) => (r = (bI (u.1))) ∧ (m_mt pp pa pb he md hc i k u.1 u.2.1 u.2.2.1 u.2.2.2)) (fun (u : Bool × (Nat → Nat) × (Nat → Nat) × (Nat → Option Nat)) t => va_P (dC, dI) qCl [(x0, .inr (8, mO ax z1 z2 z3 fc z5 z6 z7 qs z9 z10 z11 z12 z13 hd lg fcn z17 z18 z19 md z21 z22 z23 z24 hc z26 z27 z28 z29 z30 z31 sm z33 z34)), (z21, .inl (cI, 4, .inl (nF pp))), (z22, .inl (cI, 4, .inl (nF u.2.1))), (z23, .inl (cI, 4, .inl (nF u.2.2.1))), (z24, .inl (cI, 2, .inl (oF u.2.2.2)))] t.heap) (q_A [(x0, .inr (8, mO ax z1 z2 z3 fc z5 z6 z7 qs z9 z10 z11 z12 z13 hd lg fcn z17 z18 z19 md z21 z22 z23 z24 hc z26 z27 z28 z29 z30 z31 sm z33 z34)), (z21, .inl (cI, 4, .inl (nF pp))), (z22, .inl (cI, 4, .inl (nF pa))), (z23, .inl (cI, 4, .inl (nF pb))), (z24, .inl (cI, 2, .inl (oF he)))])) 0 0 (q_A [(x0, .inr (8, mO ax z1 z2 z3 fc z5 z6 z7 qs z9 z10 z11 z12 z13 hd lg fcn z17 z18 z19 md z21 z22 z23 z24 hc z26 z27 z28 z29 z30 z31 sm z33 z34)), (z21, .inl (cI, 4, .inl (nF pp))), (z22, .inl (cI, 4, .inl (nF pa))), (z23, .inl (cI, 4, .inl (nF pb))), (z24, .inl (cI, 2, .inl (oF he)))]) := by
  refine Met.ofW (cc := cX8_meet) (maxL := 5) (ret := (some .boolean)) (by decide) rfl ?_
  intro p e s m args below meth c s₁ B hml hv
  obtain ⟨hargs, hP, hK, hD0⟩ := hv
  have hx := B.exec
  have hb := B.bytes
  have hr := B.returns
  have hts : ∀ w ∈ qW, w.before args s = true := fun w h => atoms_spec (ws := wkX8_meet) B.pre w (List.mem_cons_of_mem _ h)
  have hown : s.vm.findClass RX8 = some m.cls := findClass_of_methodNamed B.named
  have hlocks := B.notSynchronized
  refine q_named (fun Q hQ => ?_)
  have hD : va_D (q_A [(x0, .inr (8, mO ax z1 z2 z3 fc z5 z6 z7 qs z9 z10 z11 z12 z13 hd lg fcn z17 z18 z19 md z21 z22 z23 z24 hc z26 z27 z28 z29 z30 z31 sm z33 z34)), (z21, .inl (cI, 4, .inl (nF pp))), (z22, .inl (cI, 4, .inl (nF pa))), (z23, .inl (cI, 4, .inl (nF pb))), (z24, .inl (cI, 2, .inl (oF he)))]) [(x0, .inr (8, mO ax z1 z2 z3 fc z5 z6 z7 qs z9 z10 z11 z12 z13 hd lg fcn z17 z18 z19 md z21 z22 z23 z24 hc z26 z27 z28 z29 z30 z31 sm z33 z34)), (z21, .inl (cI, 4, .inl (nF pp))), (z22, .inl (cI, 4, .inl (nF pa))), (z23, .inl (cI, 4, .inl (nF pb))), (z24, .inl (cI, 2, .inl (oF he)))] := ⟨hD0.1, fun k q h => ⟨k, q.2, h⟩⟩
  generalize hAe : q_A [(x0, .inr (8, mO ax z1 z2 z3 fc z5 z6 z7 qs z9 z10 z11 z12 z13 hd lg fcn z17 z18 z19 md z21 z22 z23 z24 hc z26 z27 z28 z29 z30 z31 sm z33 z34)), (z21, .inl (cI, 4, .inl (nF pp))), (z22, .inl (cI, 4, .inl (nF pa))), (z23, .inl (cI, 4, .inl (nF pb))), (z24, .inl (cI, 2, .inl (oF he)))] = A at hD
  have hS : va_S A s.heap s.heap [] := va_S.rf
  refine q_entry hargs (Nat.le_of_ble_eq_true rfl) (fun ls hl => ?_)
  have hl : lv_has ls 5 [(0, .ref x0), (1, .int (nI (i))), (2, .int (nI (k)))] := hl
  obtain ⟨H, locs, eH, eL⟩ : ∃ (H : Heap) (locs : List Loc), s.heap = H ∧ ([] : List Loc) = locs := ⟨_, _, rfl, rfl⟩
  have hS : va_S A s.heap H locs := by rw [← eH, ← eL]; exact hS
  have hP : va_P (dC, dI) qCl [(x0, .inr (8, mO ax z1 z2 z3 fc z5 z6 z7 qs z9 z10 z11 z12 z13 hd lg fcn z17 z18 z19 md z21 z22 z23 z24 hc z26 z27 z28 z29 z30 z31 sm z33 z34)), (z21, .inl (cI, 4, .inl (nF pp))), (z22, .inl (cI, 4, .inl (nF pa))), (z23, .inl (cI, 4, .inl (nF pb))), (z24, .inl (cI, 2, .inl (oF he)))] H := by rw [← eH]; exact hP
  refine W_at eH eL ?_
  refine lv_aload_n hx hb dX8_meet_0 rfl (lv_at hl 0 rfl) ?_
  refine va_get (D := (dC, dI)) (ci := 8) (v := .ref z21) (C := RX8) (T := TX8) (N := 35) hx hb hts uX8 hown hK hP 0 rfl rfl 21 (by decide) (hts _ kfX8_56) (fun _ h9 => h9) rfl dX8_meet_1 ?_
  refine lv_iload_n hx hb dX8_meet_4 rfl (lv_at hl 1 rfl) ?_
  refine q_ialdN hx hb hK hP 1 0 rfl rfl (j := i) (by omega) (by omega) dX8_meet_5 ?_
  have bd1 := hpp i
  refine lv_aload_n hx hb dX8_meet_6 rfl (lv_at hl 0 rfl) ?_
  refine va_get (D := (dC, dI)) (ci := 8) (v := .ref z21) (C := RX8) (T := TX8) (N := 35) hx hb hts uX8 hown hK hP 0 rfl rfl 21 (by decide) (hts _ kfX8_56) (fun _ h9 => h9) rfl dX8_meet_7 ?_
  refine lv_iload_n hx hb dX8_meet_10 rfl (lv_at hl 2 rfl) ?_
  refine q_ialdN hx hb hK hP 1 0 rfl rfl (j := k) (by omega) (by omega) dX8_meet_11 ?_
  have bd2 := hpp k
  refine q_icmp_eq (x := pp i) (y := pp k) (tgt := 17) hx hb dX8_meet_12 (by decide) (by omega) (by omega) (fun c12_3 => ?_) (fun c12_3 => ?_)
  · refine lv_aload_n hx hb dX8_meet_17 rfl (lv_at hl 0 rfl) ?_
    refine lv_aload_n hx hb dX8_meet_18 rfl (lv_at hl 0 rfl) ?_
    refine va_get (D := (dC, dI)) (ci := 8) (v := .ref z22) (C := RX8) (T := TX8) (N := 35) hx hb hts uX8 hown hK hP 0 rfl rfl 22 (by decide) (hts _ kfX8_59) (fun _ h9 => h9) rfl dX8_meet_19 ?_
    refine lv_iload_n hx hb dX8_meet_22 rfl (lv_at hl 1 rfl) ?_
    refine q_ialdN hx hb hK hP 2 0 rfl rfl (j := i) (by omega) (by omega) dX8_meet_23 ?_
    have bd4 := hpa i
    refine lv_aload_n hx hb dX8_meet_24 rfl (lv_at hl 0 rfl) ?_
    refine va_get (D := (dC, dI)) (ci := 8) (v := .ref z22) (C := RX8) (T := TX8) (N := 35) hx hb hts uX8 hown hK hP 0 rfl rfl 22 (by decide) (hts _ kfX8_59) (fun _ h9 => h9) rfl dX8_meet_25 ?_
    refine lv_iload_n hx hb dX8_meet_28 rfl (lv_at hl 2 rfl) ?_
    refine q_ialdN hx hb hK hP 2 0 rfl rfl (j := k) (by omega) (by omega) dX8_meet_29 ?_
    have bd5 := hpa k
    refine q_joini (wr := []) (va_runV (As := [.int (nI (pa i)), .int (nI (pa k))]) (rest := []) ⟨hx, hb, hml, hown, hts⟩ (c_Model_join l dC dI cI cL cQ cZ x0 ax z1 z2 z3 fc z5 z6 z7 qs z9 z10 z11 z12 z13 hd lg fcn z17 z18 z19 md z21 z22 z23 z24 hc z26 z27 z28 z29 z30 z31 sm z33 z34 pp pa pb he (pa i) (pa k) (show md ≤ 4 from by first | assumption | omega) (show ∀ j, pp j < 64 from by first | assumption | omega) (show ∀ j, pa j < 18 from by first | assumption | omega) (show ∀ j, pb j < 18 from by first | assumption | omega) (show hc ≤ 2 from by first | assumption | omega) (show m_hok he hc from by first | assumption | omega) (show (pa i) < 18 from by first | assumption | omega) (show (pa k) < 18 from by first | assumption | omega)) (q_cwV 2 hts gkX8_join kmX8_176 knX8_join klX8_join kiX8 rfl rfl rfl (by decide +kernel) ⟨Nat.le_of_ble_eq_true rfl, Nat.le_of_ble_eq_true rfl⟩) (q_preVW hK hP hD [0, 1, 2, 3, 4] rfl (by decide) 0 (ci := 8) (r := (RX8, TX8, 35)) rfl rfl) rfl rfl hl.1 rfl (lv_room (Nat.le_of_ble_eq_true rfl)) dX8_meet_30 ⟨Nat.zero_le _, Nat.zero_le _⟩) hP hD hS [0, 1, 2, 3, 4] [] rfl rfl (by decide) (fun _ => rfl) (fun r10 u9 H locs hq11 hP hD hS => ?_)
    obtain ⟨r1_6, pa1_7, pb1_8, he1_9⟩ := u9
    have hq11 : (r10 = (nI (r1_6))) ∧ (m_jn pp pa pb he md hc (pa i) (pa k) r1_6 pa1_7 pb1_8 he1_9) := hq11
    obtain ⟨er10, hjn_12⟩ := hq11
    have hlast := hjn_12
    subst er10
    have hP : va_P (dC, dI) qCl [(x0, .inr (8, mO ax z1 z2 z3 fc z5 z6 z7 qs z9 z10 z11 z12 z13 hd lg fcn z17 z18 z19 md z21 z22 z23 z24 hc z26 z27 z28 z29 z30 z31 sm z33 z34)), (z21, .inl (cI, 4, .inl (nF pp))), (z22, .inl (cI, 4, .inl (nF pa1_7))), (z23, .inl (cI, 4, .inl (nF pb1_8))), (z24, .inl (cI, 2, .inl (oF he1_9)))] H := hP
    have hD : va_D A [(x0, .inr (8, mO ax z1 z2 z3 fc z5 z6 z7 qs z9 z10 z11 z12 z13 hd lg fcn z17 z18 z19 md z21 z22 z23 z24 hc z26 z27 z28 z29 z30 z31 sm z33 z34)), (z21, .inl (cI, 4, .inl (nF pp))), (z22, .inl (cI, 4, .inl (nF pa1_7))), (z23, .inl (cI, 4, .inl (nF pb1_8))), (z24, .inl (cI, 2, .inl (oF he1_9)))] := hD
    have hj1 := hlast
    obtain ⟨hr1, ha1, hb1, hh1⟩ := m_jn_lt hj1 (by omega) (by omega) hpa hpb hhe
    refine lv_istore_n (lv' := [(3, .int (nI (r1_6))), (0, .ref x0), (1, .int (nI (i))), (2, .int (nI (k)))]) hx hb dX8_meet_33 rfl hl (by decide) rfl (fun ls hl => ?_)
    refine lv_aload_n hx hb dX8_meet_34 rfl (lv_at hl 1 rfl) ?_
    refine va_get (D := (dC, dI)) (ci := 8) (v := .ref z22) (C := RX8) (T := TX8) (N := 35) hx hb hts uX8 hown hK hP 0 rfl rfl 22 (by decide) (hts _ kfX8_59) (fun _ h9 => h9) rfl dX8_meet_35 ?_
    refine lv_iload_n hx hb dX8_meet_38 rfl (lv_at hl 2 rfl) ?_
    refine lv_iload_n hx hb dX8_meet_39 rfl (lv_at hl 0 rfl) ?_
    refine q_iastN hx hb hK hP hD hS 2 0 rfl rfl (j := i) (x := r1_6) (by omega) (by omega) dX8_meet_40 (fun H locs hP hD hS => ?_)
    have hP : va_P (dC, dI) qCl [(x0, .inr (8, mO ax z1 z2 z3 fc z5 z6 z7 qs z9 z10 z11 z12 z13 hd lg fcn z17 z18 z19 md z21 z22 z23 z24 hc z26 z27 z28 z29 z30 z31 sm z33 z34)), (z21, .inl (cI, 4, .inl (nF pp))), (z22, .inl (cI, 4, .inl (nF (va_up pa1_7 i r1_6)))), (z23, .inl (cI, 4, .inl (nF pb1_8))), (z24, .inl (cI, 2, .inl (oF he1_9)))] H := hP
    have hD : va_D A [(x0, .inr (8, mO ax z1 z2 z3 fc z5 z6 z7 qs z9 z10 z11 z12 z13 hd lg fcn z17 z18 z19 md z21 z22 z23 z24 hc z26 z27 z28 z29 z30 z31 sm z33 z34)), (z21, .inl (cI, 4, .inl (nF pp))), (z22, .inl (cI, 4, .inl (nF (va_up pa1_7 i r1_6)))), (z23, .inl (cI, 4, .inl (nF pb1_8))), (z24, .inl (cI, 2, .inl (oF he1_9)))] := hD
    refine lv_aload_n hx hb dX8_meet_41 rfl (lv_at hl 1 rfl) ?_
    refine va_get (D := (dC, dI)) (ci := 8) (v := .ref z22) (C := RX8) (T := TX8) (N := 35) hx hb hts uX8 hown hK hP 0 rfl rfl 22 (by decide) (hts _ kfX8_59) (fun _ h9 => h9) rfl dX8_meet_42 ?_
    refine lv_iload_n hx hb dX8_meet_45 rfl (lv_at hl 3 rfl) ?_
    refine lv_iload_n hx hb dX8_meet_46 rfl (lv_at hl 0 rfl) ?_
    refine q_iastN hx hb hK hP hD hS 2 0 rfl rfl (j := k) (x := r1_6) (by omega) (by omega) dX8_meet_47 (fun H locs hP hD hS => ?_)
    have hP : va_P (dC, dI) qCl [(x0, .inr (8, mO ax z1 z2 z3 fc z5 z6 z7 qs z9 z10 z11 z12 z13 hd lg fcn z17 z18 z19 md z21 z22 z23 z24 hc z26 z27 z28 z29 z30 z31 sm z33 z34)), (z21, .inl (cI, 4, .inl (nF pp))), (z22, .inl (cI, 4, .inl (nF (va_up (va_up pa1_7 i r1_6) k r1_6)))), (z23, .inl (cI, 4, .inl (nF pb1_8))), (z24, .inl (cI, 2, .inl (oF he1_9)))] H := hP
    have hD : va_D A [(x0, .inr (8, mO ax z1 z2 z3 fc z5 z6 z7 qs z9 z10 z11 z12 z13 hd lg fcn z17 z18 z19 md z21 z22 z23 z24 hc z26 z27 z28 z29 z30 z31 sm z33 z34)), (z21, .inl (cI, 4, .inl (nF pp))), (z22, .inl (cI, 4, .inl (nF (va_up (va_up pa1_7 i r1_6) k r1_6)))), (z23, .inl (cI, 4, .inl (nF pb1_8))), (z24, .inl (cI, 2, .inl (oF he1_9)))] := hD
    refine lv_aload_n hx hb dX8_meet_48 rfl (lv_at hl 1 rfl) ?_
    refine va_get (D := (dC, dI)) (ci := 8) (v := .ref z21) (C := RX8) (T := TX8) (N := 35) hx hb hts uX8 hown hK hP 0 rfl rfl 21 (by decide) (hts _ kfX8_56) (fun _ h9 => h9) rfl dX8_meet_49 ?_
    refine lv_iload_n hx hb dX8_meet_52 rfl (lv_at hl 2 rfl) ?_
    refine q_ialdN hx hb hK hP 1 0 rfl rfl (j := i) (by omega) (by omega) dX8_meet_53 ?_
    have bd13 := hpp i
    refine lv_bipush (v := (nI (32))) hx hb dX8_meet_54 (by decide) ?_
    refine q_icmp_lt (x := pp i) (y := 32) (tgt := 93) hx hb dX8_meet_56 (by decide) (by omega) (by omega) (fun c56_14 => ?_) (fun c56_14 => ?_)
    · refine lv_aload_n hx hb dX8_meet_93 rfl (lv_at hl 1 rfl) ?_
      refine va_get (D := (dC, dI)) (ci := 8) (v := .ref z22) (C := RX8) (T := TX8) (N := 35) hx hb hts uX8 hown hK hP 0 rfl rfl 22 (by decide) (hts _ kfX8_59) (fun _ h9 => h9) rfl dX8_meet_94 ?_
      refine lv_iload_n hx hb dX8_meet_97 rfl (lv_at hl 3 rfl) ?_
      refine lv_aload_n hx hb dX8_meet_98 rfl (lv_at hl 1 rfl) ?_
      refine va_get (D := (dC, dI)) (ci := 8) (v := .ref z22) (C := RX8) (T := TX8) (N := 35) hx hb hts uX8 hown hK hP 0 rfl rfl 22 (by decide) (hts _ kfX8_59) (fun _ h9 => h9) rfl dX8_meet_99 ?_
      refine lv_iload_n hx hb dX8_meet_102 rfl (lv_at hl 2 rfl) ?_
      refine q_ialdN hx hb hK hP 2 0 rfl rfl (j := i) (by omega) (by omega) dX8_meet_103 ?_
      refine q_iastN hx hb hK hP hD hS 2 0 rfl rfl (j := k) (x := (va_up (va_up pa1_7 i r1_6) k r1_6) i) (by omega) (by omega) dX8_meet_104 (fun H locs hP hD hS => ?_)
      have hP : va_P (dC, dI) qCl [(x0, .inr (8, mO ax z1 z2 z3 fc z5 z6 z7 qs z9 z10 z11 z12 z13 hd lg fcn z17 z18 z19 md z21 z22 z23 z24 hc z26 z27 z28 z29 z30 z31 sm z33 z34)), (z21, .inl (cI, 4, .inl (nF pp))), (z22, .inl (cI, 4, .inl (nF (va_up (va_up (va_up pa1_7 i r1_6) k r1_6) k ((va_up (va_up pa1_7 i r1_6) k r1_6) i))))), (z23, .inl (cI, 4, .inl (nF pb1_8))), (z24, .inl (cI, 2, .inl (oF he1_9)))] H := hP
      have hD : va_D A [(x0, .inr (8, mO ax z1 z2 z3 fc z5 z6 z7 qs z9 z10 z11 z12 z13 hd lg fcn z17 z18 z19 md z21 z22 z23 z24 hc z26 z27 z28 z29 z30 z31 sm z33 z34)), (z21, .inl (cI, 4, .inl (nF pp))), (z22, .inl (cI, 4, .inl (nF (va_up (va_up (va_up pa1_7 i r1_6) k r1_6) k ((va_up (va_up pa1_7 i r1_6) k r1_6) i))))), (z23, .inl (cI, 4, .inl (nF pb1_8))), (z24, .inl (cI, 2, .inl (oF he1_9)))] := hD
      refine lv_iconst (v := (nI (1))) hx hb dX8_meet_105 (by decide) ?_
      subst hQ
      subst hAe
      have hP9 := hP.sub (ws' := [(x0, .inr (8, mO ax z1 z2 z3 fc z5 z6 z7 qs z9 z10 z11 z12 z13 hd lg fcn z17 z18 z19 md z21 z22 z23 z24 hc z26 z27 z28 z29 z30 z31 sm z33 z34)), (z21, .inl (cI, 4, .inl (nF pp))), (z22, .inl (cI, 4, .inl (nF (va_up (va_up (va_up pa1_7 i r1_6) k r1_6) k ((va_up (va_up pa1_7 i r1_6) k r1_6) i))))), (z23, .inl (cI, 4, .inl (nF pb1_8))), (z24, .inl (cI, 2, .inl (oF he1_9)))]) [0, 1, 2, 3, 4] rfl
      exact W.zret (v := (nI (1))) hx hb hr (by decide) (fun t9 h9 _ => ⟨⟨(nI (1)), (true, va_up (va_up (va_up pa1_7 i r1_6) k r1_6) k ((va_up (va_up pa1_7 i r1_6) k r1_6) i), pb1_8, he1_9), rfl, ⟨bI_1 rfl, (show m_mt pp pa pb he md hc i k true (va_up (va_up (va_up pa1_7 i r1_6) k r1_6) k ((va_up (va_up pa1_7 i r1_6) k r1_6) i)) pb1_8 he1_9 from by (first | (exact Or.inr ⟨by assumption, rfl, _, _, _, _, hj1, Or.inl ⟨by omega, rfl, rfl, rfl⟩⟩) | (exact Or.inr ⟨by assumption, rfl, _, _, _, _, hj1, Or.inr ⟨by omega, _, _, _, _, hj2, rfl, rfl, rfl⟩⟩)))⟩, by show va_P _ _ _ t9.heap; rw [h9]; exact hP9⟩, hS.F h9⟩) hS.2.2 dX8_meet_106
    · refine lv_aload_n hx hb dX8_meet_59 rfl (lv_at hl 1 rfl) ?_
      refine lv_aload_n hx hb dX8_meet_60 rfl (lv_at hl 1 rfl) ?_
      refine va_get (D := (dC, dI)) (ci := 8) (v := .ref z23) (C := RX8) (T := TX8) (N := 35) hx hb hts uX8 hown hK hP 0 rfl rfl 23 (by decide) (hts _ kfX8_62) (fun _ h9 => h9) rfl dX8_meet_61 ?_
      refine lv_iload_n hx hb dX8_meet_64 rfl (lv_at hl 2 rfl) ?_
      refine q_ialdN hx hb hK hP 3 0 rfl rfl (j := i) (by omega) (by omega) dX8_meet_65 ?_
      refine lv_aload_n hx hb dX8_meet_66 rfl (lv_at hl 1 rfl) ?_
      refine va_get (D := (dC, dI)) (ci := 8) (v := .ref z23) (C := RX8) (T := TX8) (N := 35) hx hb hts uX8 hown hK hP 0 rfl rfl 23 (by decide) (hts _ kfX8_62) (fun _ h9 => h9) rfl dX8_meet_67 ?_
      have bq1 := hb1 i
      refine lv_iload_n hx hb dX8_meet_70 rfl (lv_at hl 3 rfl) ?_
      refine q_ialdN hx hb hK hP 3 0 rfl rfl (j := k) (by omega) (by omega) dX8_meet_71 ?_
      have bq2 := hb1 k
      refine q_joini (wr := []) (va_runV (As := [.int (nI (pb1_8 i)), .int (nI (pb1_8 k))]) (rest := []) ⟨hx, hb, hml, hown, hts⟩ (c_Model_join l dC dI cI cL cQ cZ x0 ax z1 z2 z3 fc z5 z6 z7 qs z9 z10 z11 z12 z13 hd lg fcn z17 z18 z19 md z21 z22 z23 z24 hc z26 z27 z28 z29 z30 z31 sm z33 z34 pp (va_up (va_up pa1_7 i r1_6) k r1_6) pb1_8 he1_9 (pb1_8 i) (pb1_8 k) (show md ≤ 4 from by first | assumption | omega) (show ∀ j, pp j < 64 from by first | assumption | omega) (show ∀ j, (va_up (va_up pa1_7 i r1_6) k r1_6) j < 18 from by (exact up_lt (up_lt ha1 hr1) hr1)) (show ∀ j, pb1_8 j < 18 from by (exact hb1)) (show hc ≤ 2 from by first | assumption | omega) (show m_hok he1_9 hc from by (exact hh1)) (show (pb1_8 i) < 18 from by (exact hb1 i)) (show (pb1_8 k) < 18 from by (exact hb1 k))) (q_cwV 2 hts gkX8_join kmX8_176 knX8_join klX8_join kiX8 rfl rfl rfl (by decide +kernel) ⟨Nat.le_of_ble_eq_true rfl, Nat.le_of_ble_eq_true rfl⟩) (q_preVW hK hP hD [0, 1, 2, 3, 4] rfl (by decide) 0 (ci := 8) (r := (RX8, TX8, 35)) rfl rfl) rfl rfl hl.1 rfl (lv_room (Nat.le_of_ble_eq_true rfl)) dX8_meet_72 ⟨Nat.zero_le _, Nat.zero_le _⟩) hP hD hS [0, 1, 2, 3, 4] [] rfl rfl (by decide) (fun _ => rfl) (fun r19 u9 H locs hq20 hP hD hS => ?_)
      obtain ⟨r1_15, pa1_16, pb1_17, he1_18⟩ := u9
      have hq20 : (r19 = (nI (r1_15))) ∧ (m_jn pp (va_up (va_up pa1_7 i r1_6) k r1_6) pb1_8 he1_9 md hc (pb1_8 i) (pb1_8 k) r1_15 pa1_16 pb1_17 he1_18) := hq20
      obtain ⟨er19, hjn_21⟩ := hq20
      have hlast := hjn_21
      subst er19
      have hP : va_P (dC, dI) qCl [(x0, .inr (8, mO ax z1 z2 z3 fc z5 z6 z7 qs z9 z10 z11 z12 z13 hd lg fcn z17 z18 z19 md z21 z22 z23 z24 hc z26 z27 z28 z29 z30 z31 sm z33 z34)), (z21, .inl (cI, 4, .inl (nF pp))), (z22, .inl (cI, 4, .inl (nF pa1_16))), (z23, .inl (cI, 4, .inl (nF pb1_17))), (z24, .inl (cI, 2, .inl (oF he1_18)))] H := hP
      have hD : va_D A [(x0, .inr (8, mO ax z1 z2 z3 fc z5 z6 z7 qs z9 z10 z11 z12 z13 hd lg fcn z17 z18 z19 md z21 z22 z23 z24 hc z26 z27 z28 z29 z30 z31 sm z33 z34)), (z21, .inl (cI, 4, .inl (nF pp))), (z22, .inl (cI, 4, .inl (nF pa1_16))), (z23, .inl (cI, 4, .inl (nF pb1_17))), (z24, .inl (cI, 2, .inl (oF he1_18)))] := hD
      have hj2 := hlast
      refine lv_istore (lv' := [(4, .int (nI (r1_15))), (3, .int (nI (r1_6))), (0, .ref x0), (1, .int (nI (i))), (2, .int (nI (k)))]) hx hb dX8_meet_75 hl (by decide) rfl (fun ls hl => ?_)
      refine lv_aload_n hx hb dX8_meet_77 rfl (lv_at hl 2 rfl) ?_
      refine va_get (D := (dC, dI)) (ci := 8) (v := .ref z23) (C := RX8) (T := TX8) (N := 35) hx hb hts uX8 hown hK hP 0 rfl rfl 23 (by decide) (hts _ kfX8_62) (fun _ h9 => h9) rfl dX8_meet_78 ?_
      refine lv_iload_n hx hb dX8_meet_81 rfl (lv_at hl 3 rfl) ?_
      refine lv_iload hx hb dX8_meet_82 (lv_at hl 0 rfl) ?_
      refine q_iastN hx hb hK hP hD hS 3 0 rfl rfl (j := i) (x := r1_15) (by omega) (by omega) dX8_meet_84 (fun H locs hP hD hS => ?_)
      have hP : va_P (dC, dI) qCl [(x0, .inr (8, mO ax z1 z2 z3 fc z5 z6 z7 qs z9 z10 z11 z12 z13 hd lg fcn z17 z18 z19 md z21 z22 z23 z24 hc z26 z27 z28 z29 z30 z31 sm z33 z34)), (z21, .inl (cI, 4, .inl (nF pp))), (z22, .inl (cI, 4, .inl (nF pa1_16))), (z23, .inl (cI, 4, .inl (nF (va_up pb1_17 i r1_15)))), (z24, .inl (cI, 2, .inl (oF he1_18)))] H := hP
      have hD : va_D A [(x0, .inr (8, mO ax z1 z2 z3 fc z5 z6 z7 qs z9 z10 z11 z12 z13 hd lg fcn z17 z18 z19 md z21 z22 z23 z24 hc z26 z27 z28 z29 z30 z31 sm z33 z34)), (z21, .inl (cI, 4, .inl (nF pp))), (z22, .inl (cI, 4, .inl (nF pa1_16))), (z23, .inl (cI, 4, .inl (nF (va_up pb1_17 i r1_15)))), (z24, .inl (cI, 2, .inl (oF he1_18)))] := hD
      refine lv_aload_n hx hb dX8_meet_85 rfl (lv_at hl 2 rfl) ?_
      refine va_get (D := (dC, dI)) (ci := 8) (v := .ref z23) (C := RX8) (T := TX8) (N := 35) hx hb hts uX8 hown hK hP 0 rfl rfl 23 (by decide) (hts _ kfX8_62) (fun _ h9 => h9) rfl dX8_meet_86 ?_
      refine lv_iload_n hx hb dX8_meet_89 rfl (lv_at hl 4 rfl) ?_
      refine lv_iload hx hb dX8_meet_90 (lv_at hl 0 rfl) ?_
      refine q_iastN hx hb hK hP hD hS 3 0 rfl rfl (j := k) (x := r1_15) (by omega) (by omega) dX8_meet_92 (fun H locs hP hD hS => ?_)
      have hP : va_P (dC, dI) qCl [(x0, .inr (8, mO ax z1 z2 z3 fc z5 z6 z7 qs z9 z10 z11 z12 z13 hd lg fcn z17 z18 z19 md z21 z22 z23 z24 hc z26 z27 z28 z29 z30 z31 sm z33 z34)), (z21, .inl (cI, 4, .inl (nF pp))), (z22, .inl (cI, 4, .inl (nF pa1_16))), (z23, .inl (cI, 4, .inl (nF (va_up (va_up pb1_17 i r1_15) k r1_15)))), (z24, .inl (cI, 2, .inl (oF he1_18)))] H := hP
      have hD : va_D A [(x0, .inr (8, mO ax z1 z2 z3 fc z5 z6 z7 qs z9 z10 z11 z12 z13 hd lg fcn z17 z18 z19 md z21 z22 z23 z24 hc z26 z27 z28 z29 z30 z31 sm z33 z34)), (z21, .inl (cI, 4, .inl (nF pp))), (z22, .inl (cI, 4, .inl (nF pa1_16))), (z23, .inl (cI, 4, .inl (nF (va_up (va_up pb1_17 i r1_15) k r1_15)))), (z24, .inl (cI, 2, .inl (oF he1_18)))] := hD
      refine lv_aload_n hx hb dX8_meet_93 rfl (lv_at hl 2 rfl) ?_
      refine va_get (D := (dC, dI)) (ci := 8) (v := .ref z22) (C := RX8) (T := TX8) (N := 35) hx hb hts uX8 hown hK hP 0 rfl rfl 22 (by decide) (hts _ kfX8_59) (fun _ h9 => h9) rfl dX8_meet_94 ?_
      refine lv_iload_n hx hb dX8_meet_97 rfl (lv_at hl 4 rfl) ?_
      refine lv_aload_n hx hb dX8_meet_98 rfl (lv_at hl 2 rfl) ?_
      refine va_get (D := (dC, dI)) (ci := 8) (v := .ref z22) (C := RX8) (T := TX8) (N := 35) hx hb hts uX8 hown hK hP 0 rfl rfl 22 (by decide) (hts _ kfX8_59) (fun _ h9 => h9) rfl dX8_meet_99 ?_
      refine lv_iload_n hx hb dX8_meet_102 rfl (lv_at hl 3 rfl) ?_
      refine q_ialdN hx hb hK hP 2 0 rfl rfl (j := i) (by omega) (by omega) dX8_meet_103 ?_
      refine q_iastN hx hb hK hP hD hS 2 0 rfl rfl (j := k) (x := pa1_16 i) (by omega) (by omega) dX8_meet_104 (fun H locs hP hD hS => ?_)
      have hP : va_P (dC, dI) qCl [(x0, .inr (8, mO ax z1 z2 z3 fc z5 z6 z7 qs z9 z10 z11 z12 z13 hd lg fcn z17 z18 z19 md z21 z22 z23 z24 hc z26 z27 z28 z29 z30 z31 sm z33 z34)), (z21, .inl (cI, 4, .inl (nF pp))), (z22, .inl (cI, 4, .inl (nF (va_up pa1_16 k (pa1_16 i))))), (z23, .inl (cI, 4, .inl (nF (va_up (va_up pb1_17 i r1_15) k r1_15)))), (z24, .inl (cI, 2, .inl (oF he1_18)))] H := hP
      have hD : va_D A [(x0, .inr (8, mO ax z1 z2 z3 fc z5 z6 z7 qs z9 z10 z11 z12 z13 hd lg fcn z17 z18 z19 md z21 z22 z23 z24 hc z26 z27 z28 z29 z30 z31 sm z33 z34)), (z21, .inl (cI, 4, .inl (nF pp))), (z22, .inl (cI, 4, .inl (nF (va_up pa1_16 k (pa1_16 i))))), (z23, .inl (cI, 4, .inl (nF (va_up (va_up pb1_17 i r1_15) k r1_15)))), (z24, .inl (cI, 2, .inl (oF he1_18)))] := hD
      refine lv_iconst (v := (nI (1))) hx hb dX8_meet_105 (by decide) ?_
      subst hQ
      subst hAe
      have hP9 := hP.sub (ws' := [(x0, .inr (8, mO ax z1 z2 z3 fc z5 z6 z7 qs z9 z10 z11 z12 z13 hd lg fcn z17 z18 z19 md z21 z22 z23 z24 hc z26 z27 z28 z29 z30 z31 sm z33 z34)), (z21, .inl (cI, 4, .inl (nF pp))), (z22, .inl (cI, 4, .inl (nF (va_up pa1_16 k (pa1_16 i))))), (z23, .inl (cI, 4, .inl (nF (va_up (va_up pb1_17 i r1_15) k r1_15)))), (z24, .inl (cI, 2, .inl (oF he1_18)))]) [0, 1, 2, 3, 4] rfl
      exact W.zret (v := (nI (1))) hx hb hr (by decide) (fun t9 h9 _ => ⟨⟨(nI (1)), (true, va_up pa1_16 k (pa1_16 i), va_up (va_up pb1_17 i r1_15) k r1_15, he1_18), rfl, ⟨bI_1 rfl, (show m_mt pp pa pb he md hc i k true (va_up pa1_16 k (pa1_16 i)) (va_up (va_up pb1_17 i r1_15) k r1_15) he1_18 from by (first | (exact Or.inr ⟨by assumption, rfl, _, _, _, _, hj1, Or.inl ⟨by omega, rfl, rfl, rfl⟩⟩) | (exact Or.inr ⟨by assumption, rfl, _, _, _, _, hj1, Or.inr ⟨by omega, _, _, _, _, hj2, rfl, rfl, rfl⟩⟩)))⟩, by show va_P _ _ _ t9.heap; rw [h9]; exact hP9⟩, hS.F h9⟩) hS.2.2 dX8_meet_106
  · refine lv_iconst (v := (nI (0))) hx hb dX8_meet_15 (by decide) ?_
    subst hQ
    subst hAe
    have hP9 := hP.sub (ws' := [(x0, .inr (8, mO ax z1 z2 z3 fc z5 z6 z7 qs z9 z10 z11 z12 z13 hd lg fcn z17 z18 z19 md z21 z22 z23 z24 hc z26 z27 z28 z29 z30 z31 sm z33 z34)), (z21, .inl (cI, 4, .inl (nF pp))), (z22, .inl (cI, 4, .inl (nF pa))), (z23, .inl (cI, 4, .inl (nF pb))), (z24, .inl (cI, 2, .inl (oF he)))]) [0, 1, 2, 3, 4] rfl
    exact W.zret (v := (nI (0))) hx hb hr (by decide) (fun t9 h9 _ => ⟨⟨(nI (0)), (false, pa, pb, he), rfl, ⟨bI_0 rfl, (show m_mt pp pa pb he md hc i k false pa pb he from by (exact Or.inl ⟨by assumption, rfl, rfl, rfl, rfl⟩))⟩, by show va_P _ _ _ t9.heap; rw [h9]; exact hP9⟩, hS.F h9⟩) hS.2.2 dX8_meet_16
abbrev rm_c_Model_load : Room := { frames := 0, cells := 0, slots := 0, locals := 0 }
set_option maxHeartbeats 4000000 in
set_option maxRecDepth 100000 in
theorem c_Model_load (l : Launch) (dC : Nat → ClassId) (dI : Nat → Nat → Nat) (cI cL cQ cZ : ClassId) (x0 : Nat) (ax : Nat) (z1 : Nat) (z2 : Nat) (z3 : Nat) (fc : Nat) (z5 : Nat) (z6 : Nat) (z7 : Nat) (qs : Nat) (z9 : Nat) (z10 : Nat) (z11 : Nat) (z12 : Nat) (z13 : Nat) (hd : Option Nat) (lg : Bool) (fcn : Nat) (z17 : Nat) (z18 : Nat) (z19 : Nat) (md : Nat) (z21 : Nat) (z22 : Nat) (z23 : Nat) (z24 : Nat) (hc : Nat) (z26 : Nat) (z27 : Nat) (z28 : Nat) (z29 : Nat) (z30 : Nat) (z31 : Nat) (sm : Bool) (z33 : Nat) (z34 : Nat) (pp : Nat → Nat) (pa : Nat → Nat) (pb : Nat → Nat) (he : Nat → Option Nat) (zs : Nat → Nat) (cs : Nat → Nat) (hs : Nat → Option Nat) (f : Nat) (hf : f < 90) (hzs : ∀ j, zs j ≤ 4) (hcs : ∀ j, cs j < 4096) (hhs : ∀ j k, hs j = some k → k < 2) (hpp : ∀ j, pp j < 64) (hpa : ∀ j, pa j < 18) (hpb : ∀ j, pb j < 18) : Met l yX8_load wkX8_load rm_c_Model_load (q_W (dC, dI) qCl (qT cI cL cQ cZ) [(x0, .inr (8, mO ax z1 z2 z3 fc z5 z6 z7 qs z9 z10 z11 z12 z13 hd lg fcn z17 z18 z19 md z21 z22 z23 z24 hc z26 z27 z28 z29 z30 z31 sm z33 z34)), (z21, .inl (cI, 4, .inl (nF pp))), (z22, .inl (cI, 4, .inl (nF pa))), (z23, .inl (cI, 4, .inl (nF pb))), (z24, .inl (cI, 2, .inl (oF he))), (z17, .inl (cI, 90, .inl (nF zs))), (z18, .inl (cI, 360, .inl (nF cs))), (z19, .inl (cI, 180, .inl (oF hs)))] [.ref x0, .int (nI (f))]) (va_Qv (fun (u : (Nat → Nat) × (Nat → Nat) × (Nat → Nat)) => (∀ j, u.1 j < 64) ∧ (∀ j, u.2.1 j < 18) ∧ (∀ j, u.2.2 j < 18) ∧ (m_ld cs f u.1 u.2.1 u.2.2 (zs f))) (fun (u : (Nat → Nat) × (Nat → Nat) × (Nat → Nat)) t => va_P (dC, dI) qCl [(x0, .inr (8, mO ax z1 z2 z3 fc z5 z6 z7 qs z9 z10 z11 z12 z13 hd lg fcn z17 z18 z19 (zs f) z21 z22 z23 z24 (m_hcn (hs (2 * f)) (hs (2 * f + 1))) z26 z27 z28 z29 z30 z31 sm z33 z34)), (z21, .inl (cI, 4, .inl (nF u.1))), (z22, .inl (cI, 4, .inl (nF u.2.1))), (z23, .inl (cI, 4, .inl (nF u.2.2))), (z24, .inl (cI, 2, .inl (oF (va_up (va_up he 0 (hs (2 * f))) 1 (hs (2 * f + 1)))))), (z17, .inl (cI, 90, .inl (nF zs))), (z18, .inl (cI, 360, .inl (nF cs))), (z19, .inl (cI, 180, .inl (oF hs)))] t.heap) (q_A [(x0, .inr (8, mO ax z1 z2 z3 fc z5 z6 z7 qs z9 z10 z11 z12 z13 hd lg fcn z17 z18 z19 md z21 z22 z23 z24 hc z26 z27 z28 z29 z30 z31 sm z33 z34)), (z21, .inl (cI, 4, .inl (nF pp))), (z22, .inl (cI, 4, .inl (nF pa))), (z23, .inl (cI, 4, .inl (nF pb))), (z24, .inl (cI, 2, .inl (oF he))), (z17, .inl (cI, 90, .inl (nF zs))), (z18, .inl (cI, 360, .inl (nF cs))), (z19, .inl (cI, 180, .inl (oF hs)))])) 0 0 (q_A [(x0, .inr (8, mO ax z1 z2 z3 fc z5 z6 z7 qs z9 z10 z11 z12 z13 hd lg fcn z17 z18 z19 md z21 z22 z23 z24 hc z26 z27 z28 z29 z30 z31 sm z33 z34)), (z21, .inl (cI, 4, .inl (nF pp))), (z22, .inl (cI, 4, .inl (nF pa))), (z23, .inl (cI, 4, .inl (nF pb))), (z24, .inl (cI, 2, .inl (oF he))), (z17, .inl (cI, 90, .inl (nF zs))), (z18, .inl (cI, 360, .inl (nF cs))), (z19, .inl (cI, 180, .inl (oF hs)))]) := by
  refine Met.ofW (cc := cX8_load) (maxL := 3) (ret := none) (by decide) rfl ?_
  intro p e s m args below meth c s₁ B hml hv
  obtain ⟨hargs, hP, hK, hD0⟩ := hv
  have hx := B.exec
  have hb := B.bytes
  have hr := B.returns
  have hts : ∀ w ∈ qW, w.before args s = true := fun w h => atoms_spec (ws := wkX8_load) B.pre w (List.mem_cons_of_mem _ h)
  have hown : s.vm.findClass RX8 = some m.cls := findClass_of_methodNamed B.named
  have hlocks := B.notSynchronized
  refine q_named (fun Q hQ => ?_)
  have hD : va_D (q_A [(x0, .inr (8, mO ax z1 z2 z3 fc z5 z6 z7 qs z9 z10 z11 z12 z13 hd lg fcn z17 z18 z19 md z21 z22 z23 z24 hc z26 z27 z28 z29 z30 z31 sm z33 z34)), (z21, .inl (cI, 4, .inl (nF pp))), (z22, .inl (cI, 4, .inl (nF pa))), (z23, .inl (cI, 4, .inl (nF pb))), (z24, .inl (cI, 2, .inl (oF he))), (z17, .inl (cI, 90, .inl (nF zs))), (z18, .inl (cI, 360, .inl (nF cs))), (z19, .inl (cI, 180, .inl (oF hs)))]) [(x0, .inr (8, mO ax z1 z2 z3 fc z5 z6 z7 qs z9 z10 z11 z12 z13 hd lg fcn z17 z18 z19 md z21 z22 z23 z24 hc z26 z27 z28 z29 z30 z31 sm z33 z34)), (z21, .inl (cI, 4, .inl (nF pp))), (z22, .inl (cI, 4, .inl (nF pa))), (z23, .inl (cI, 4, .inl (nF pb))), (z24, .inl (cI, 2, .inl (oF he))), (z17, .inl (cI, 90, .inl (nF zs))), (z18, .inl (cI, 360, .inl (nF cs))), (z19, .inl (cI, 180, .inl (oF hs)))] := ⟨hD0.1, fun k q h => ⟨k, q.2, h⟩⟩
  generalize hAe : q_A [(x0, .inr (8, mO ax z1 z2 z3 fc z5 z6 z7 qs z9 z10 z11 z12 z13 hd lg fcn z17 z18 z19 md z21 z22 z23 z24 hc z26 z27 z28 z29 z30 z31 sm z33 z34)), (z21, .inl (cI, 4, .inl (nF pp))), (z22, .inl (cI, 4, .inl (nF pa))), (z23, .inl (cI, 4, .inl (nF pb))), (z24, .inl (cI, 2, .inl (oF he))), (z17, .inl (cI, 90, .inl (nF zs))), (z18, .inl (cI, 360, .inl (nF cs))), (z19, .inl (cI, 180, .inl (oF hs)))] = A at hD
  have hS : va_S A s.heap s.heap [] := va_S.rf
  refine q_entry hargs (Nat.le_of_ble_eq_true rfl) (fun ls hl => ?_)
  have hl : lv_has ls 3 [(0, .ref x0), (1, .int (nI (f)))] := hl
  obtain ⟨H, locs, eH, eL⟩ : ∃ (H : Heap) (locs : List Loc), s.heap = H ∧ ([] : List Loc) = locs := ⟨_, _, rfl, rfl⟩
  have hS : va_S A s.heap H locs := by rw [← eH, ← eL]; exact hS
  have hP : va_P (dC, dI) qCl [(x0, .inr (8, mO ax z1 z2 z3 fc z5 z6 z7 qs z9 z10 z11 z12 z13 hd lg fcn z17 z18 z19 md z21 z22 z23 z24 hc z26 z27 z28 z29 z30 z31 sm z33 z34)), (z21, .inl (cI, 4, .inl (nF pp))), (z22, .inl (cI, 4, .inl (nF pa))), (z23, .inl (cI, 4, .inl (nF pb))), (z24, .inl (cI, 2, .inl (oF he))), (z17, .inl (cI, 90, .inl (nF zs))), (z18, .inl (cI, 360, .inl (nF cs))), (z19, .inl (cI, 180, .inl (oF hs)))] H := by rw [← eH]; exact hP
  refine W_at eH eL ?_
  refine lv_aload_n hx hb dX8_load_0 rfl (lv_at hl 0 rfl) ?_
  refine lv_aload_n hx hb dX8_load_1 rfl (lv_at hl 0 rfl) ?_
  refine va_get (D := (dC, dI)) (ci := 8) (v := .ref z17) (C := RX8) (T := TX8) (N := 35) hx hb hts uX8 hown hK hP 0 rfl rfl 17 (by decide) (hts _ kfX8_47) (fun _ h9 => h9) rfl dX8_load_2 ?_
  refine lv_iload_n hx hb dX8_load_5 rfl (lv_at hl 1 rfl) ?_
  refine q_ialdN hx hb hK hP 5 0 rfl rfl (j := f) (by omega) (by omega) dX8_load_6 ?_
  have bd1 := hzs f
  refine va_put (D := (dC, dI)) (ci := 8) (v := .int (nI (zs f))) (ty := .int) (C := RX8) (T := TX8) (N := 35) hx hb hts uX8 tyX8 tyX8_ok nmX8 hown hK hP hD hS 0 rfl rfl 20 (by decide) (hts _ kfX8_121) (fun _ h9 => h9) rfl (by decide +kernel) (rfl) (rfl) (Nat.le_of_ble_eq_true rfl) dX8_load_7 (fun H locs hP hD hS => ?_)
  have hP : va_P (dC, dI) qCl [(x0, .inr (8, mO ax z1 z2 z3 fc z5 z6 z7 qs z9 z10 z11 z12 z13 hd lg fcn z17 z18 z19 (zs f) z21 z22 z23 z24 hc z26 z27 z28 z29 z30 z31 sm z33 z34)), (z21, .inl (cI, 4, .inl (nF pp))), (z22, .inl (cI, 4, .inl (nF pa))), (z23, .inl (cI, 4, .inl (nF pb))), (z24, .inl (cI, 2, .inl (oF he))), (z17, .inl (cI, 90, .inl (nF zs))), (z18, .inl (cI, 360, .inl (nF cs))), (z19, .inl (cI, 180, .inl (oF hs)))] H := hP
  have hD : va_D A [(x0, .inr (8, mO ax z1 z2 z3 fc z5 z6 z7 qs z9 z10 z11 z12 z13 hd lg fcn z17 z18 z19 (zs f) z21 z22 z23 z24 hc z26 z27 z28 z29 z30 z31 sm z33 z34)), (z21, .inl (cI, 4, .inl (nF pp))), (z22, .inl (cI, 4, .inl (nF pa))), (z23, .inl (cI, 4, .inl (nF pb))), (z24, .inl (cI, 2, .inl (oF he))), (z17, .inl (cI, 90, .inl (nF zs))), (z18, .inl (cI, 360, .inl (nF cs))), (z19, .inl (cI, 180, .inl (oF hs)))] := hD
  refine lv_iconst (v := (nI (0))) hx hb dX8_load_10 (by decide) ?_
  refine lv_istore_n (lv' := [(2, .int (nI (0))), (0, .ref x0), (1, .int (nI (f)))]) hx hb dX8_load_11 rfl hl (by decide) rfl (fun ls hl => ?_)
  have L12 : ∀ (fu : Nat) (g1 : Nat → Nat) (g2 : Nat → Nat) (g3 : Nat → Nat) (i : Nat) (ls : Array Slot) (H : Heap) (locs : List Loc), zs f - i < fu → (i ≤ zs f) → (∀ j, g1 j < 64) → (∀ j, g2 j < 18) → (∀ j, g3 j < 18) → (m_ld cs f g1 g2 g3 i) → lv_has ls 3 [(2, .int (nI (i))), (0, .ref x0), (1, .int (nI (f)))] → va_P (dC, dI) qCl [(x0, .inr (8, mO ax z1 z2 z3 fc z5 z6 z7 qs z9 z10 z11 z12 z13 hd lg fcn z17 z18 z19 (zs f) z21 z22 z23 z24 hc z26 z27 z28 z29 z30 z31 sm z33 z34)), (z21, .inl (cI, 4, .inl (nF g1))), (z22, .inl (cI, 4, .inl (nF g2))), (z23, .inl (cI, 4, .inl (nF g3))), (z24, .inl (cI, 2, .inl (oF he))), (z17, .inl (cI, 90, .inl (nF zs))), (z18, .inl (cI, 360, .inl (nF cs))), (z19, .inl (cI, 180, .inl (oF hs)))] H → va_D A [(x0, .inr (8, mO ax z1 z2 z3 fc z5 z6 z7 qs z9 z10 z11 z12 z13 hd lg fcn z17 z18 z19 (zs f) z21 z22 z23 z24 hc z26 z27 z28 z29 z30 z31 sm z33 z34)), (z21, .inl (cI, 4, .inl (nF g1))), (z22, .inl (cI, 4, .inl (nF g2))), (z23, .inl (cI, 4, .inl (nF g3))), (z24, .inl (cI, 2, .inl (oF he))), (z17, .inl (cI, 90, .inl (nF zs))), (z18, .inl (cI, 360, .inl (nF cs))), (z19, .inl (cI, 180, .inl (oF hs)))] → va_S A s.heap H locs → W p l e (headSpec wkX8_load rm_c_Model_load).room s m args below meth c H locs 0 0 Q (F0 m 12 ls []) := by
    intro fu
    induction fu with
    | zero => intro g1 g2 g3 i ls H locs hmu; exact absurd hmu (Nat.not_lt_zero _)
    | succ fu ih12 =>
      intro g1 g2 g3 i ls H locs hmu hi h1 h2 h3 h4 hl hP hD hS
      have hzf := hzs f
      refine lv_iload_n hx hb dX8_load_12 rfl (lv_at hl 0 rfl) ?_
      refine lv_aload_n hx hb dX8_load_13 rfl (lv_at hl 1 rfl) ?_
      refine va_get (D := (dC, dI)) (ci := 8) (v := .int (nI (zs f))) (C := RX8) (T := TX8) (N := 35) hx hb hts uX8 hown hK hP 0 rfl rfl 20 (by decide) (hts _ kfX8_121) (fun _ h9 => h9) rfl dX8_load_14 ?_
      refine q_icmp_ge (x := i) (y := zs f) (tgt := 86) hx hb dX8_load_17 (by decide) (by omega) (by omega) (fun c17_2 => ?_) (fun c17_2 => ?_)
      · refine lv_aload_n hx hb dX8_load_86 rfl (lv_at hl 1 rfl) ?_
        refine lv_aload_n hx hb dX8_load_87 rfl (lv_at hl 1 rfl) ?_
        refine va_get (D := (dC, dI)) (ci := 8) (v := .ref z19) (C := RX8) (T := TX8) (N := 35) hx hb hts uX8 hown hK hP 0 rfl rfl 19 (by decide) (hts _ kfX8_53) (fun _ h9 => h9) rfl dX8_load_88 ?_
        refine lv_iconst (v := (nI (2))) hx hb dX8_load_91 (by decide) ?_
        refine lv_iload_n hx hb dX8_load_92 rfl (lv_at hl 2 rfl) ?_
        refine q_imul (x := 2) (y := f) hx hb dX8_load_93 ?_
        refine q_ialdO hx hb hK hP 7 0 rfl rfl (j := 2 * f) (by omega) (by omega) dX8_load_94 ?_
        refine q_ifO_ge (x := hs (2 * f)) (tgt := 102) hx hb dX8_load_95 (by decide) (by (intro k9 h9; have := hhs _ _ h9; omega)) (fun c95_3 => ?_) (fun c95_3 => ?_)
        · refine lv_aload_n hx hb dX8_load_102 rfl (lv_at hl 1 rfl) ?_
          refine va_get (D := (dC, dI)) (ci := 8) (v := .ref z19) (C := RX8) (T := TX8) (N := 35) hx hb hts uX8 hown hK hP 0 rfl rfl 19 (by decide) (hts _ kfX8_53) (fun _ h9 => h9) rfl dX8_load_103 ?_
          refine lv_iconst (v := (nI (2))) hx hb dX8_load_106 (by decide) ?_
          refine lv_iload_n hx hb dX8_load_107 rfl (lv_at hl 2 rfl) ?_
          refine q_imul (x := 2) (y := f) hx hb dX8_load_108 ?_
          refine lv_iconst (v := (nI (1))) hx hb dX8_load_109 (by decide) ?_
          refine q_iadd (x := 2 * f) (y := 1) hx hb dX8_load_110 ?_
          refine q_ialdO hx hb hK hP 7 0 rfl rfl (j := (2 * f) + 1) (by omega) (by omega) dX8_load_111 ?_
          refine q_ifO_ge (x := hs ((2 * f) + 1)) (tgt := 119) hx hb dX8_load_112 (by decide) (by (intro k9 h9; have := hhs _ _ h9; omega)) (fun c112_4 => ?_) (fun c112_4 => ?_)
          · refine lv_iconst (v := (nI (2))) hx hb dX8_load_119 (by decide) ?_
            refine q_top (show (nI (2)) = (nI (m_hcn (hs (2 * f)) (hs (2 * f + 1)))) from (congrArg nI (by first | (rw [m_hcn, if_pos (by assumption)]) | (rw [m_hcn, if_neg (by assumption), if_pos (by assumption)]) | (rw [m_hcn, if_neg (by assumption), if_neg (by assumption)])))) ?_
            refine va_put (D := (dC, dI)) (ci := 8) (v := .int (nI (m_hcn (hs (2 * f)) (hs (2 * f + 1))))) (ty := .int) (C := RX8) (T := TX8) (N := 35) hx hb hts uX8 tyX8 tyX8_ok nmX8 hown hK hP hD hS 0 rfl rfl 25 (by decide) (hts _ kfX8_118) (fun _ h9 => h9) rfl (by decide +kernel) (rfl) (rfl) (Nat.le_of_ble_eq_true rfl) dX8_load_120 (fun H locs hP hD hS => ?_)
            have hP : va_P (dC, dI) qCl [(x0, .inr (8, mO ax z1 z2 z3 fc z5 z6 z7 qs z9 z10 z11 z12 z13 hd lg fcn z17 z18 z19 (zs f) z21 z22 z23 z24 (m_hcn (hs (2 * f)) (hs (2 * f + 1))) z26 z27 z28 z29 z30 z31 sm z33 z34)), (z21, .inl (cI, 4, .inl (nF g1))), (z22, .inl (cI, 4, .inl (nF g2))), (z23, .inl (cI, 4, .inl (nF g3))), (z24, .inl (cI, 2, .inl (oF he))), (z17, .inl (cI, 90, .inl (nF zs))), (z18, .inl (cI, 360, .inl (nF cs))), (z19, .inl (cI, 180, .inl (oF hs)))] H := hP
            have hD : va_D A [(x0, .inr (8, mO ax z1 z2 z3 fc z5 z6 z7 qs z9 z10 z11 z12 z13 hd lg fcn z17 z18 z19 (zs f) z21 z22 z23 z24 (m_hcn (hs (2 * f)) (hs (2 * f + 1))) z26 z27 z28 z29 z30 z31 sm z33 z34)), (z21, .inl (cI, 4, .inl (nF g1))), (z22, .inl (cI, 4, .inl (nF g2))), (z23, .inl (cI, 4, .inl (nF g3))), (z24, .inl (cI, 2, .inl (oF he))), (z17, .inl (cI, 90, .inl (nF zs))), (z18, .inl (cI, 360, .inl (nF cs))), (z19, .inl (cI, 180, .inl (oF hs)))] := hD
            refine lv_aload_n hx hb dX8_load_123 rfl (lv_at hl 1 rfl) ?_
            refine va_get (D := (dC, dI)) (ci := 8) (v := .ref z24) (C := RX8) (T := TX8) (N := 35) hx hb hts uX8 hown hK hP 0 rfl rfl 24 (by decide) (hts _ kfX8_65) (fun _ h9 => h9) rfl dX8_load_124 ?_
            refine lv_iconst (v := (nI (0))) hx hb dX8_load_127 (by decide) ?_
            refine lv_aload_n hx hb dX8_load_128 rfl (lv_at hl 1 rfl) ?_
            refine va_get (D := (dC, dI)) (ci := 8) (v := .ref z19) (C := RX8) (T := TX8) (N := 35) hx hb hts uX8 hown hK hP 0 rfl rfl 19 (by decide) (hts _ kfX8_53) (fun _ h9 => h9) rfl dX8_load_129 ?_
            refine lv_iconst (v := (nI (2))) hx hb dX8_load_132 (by decide) ?_
            refine lv_iload_n hx hb dX8_load_133 rfl (lv_at hl 2 rfl) ?_
            refine q_imul (x := 2) (y := f) hx hb dX8_load_134 ?_
            refine q_ialdO hx hb hK hP 7 0 rfl rfl (j := 2 * f) (by omega) (by omega) dX8_load_135 ?_
            refine q_iastO hx hb hK hP hD hS 4 0 rfl rfl (j := 0) (x := hs (2 * f)) (by omega) (by omega) dX8_load_136 (fun H locs hP hD hS => ?_)
            have hP : va_P (dC, dI) qCl [(x0, .inr (8, mO ax z1 z2 z3 fc z5 z6 z7 qs z9 z10 z11 z12 z13 hd lg fcn z17 z18 z19 (zs f) z21 z22 z23 z24 (m_hcn (hs (2 * f)) (hs (2 * f + 1))) z26 z27 z28 z29 z30 z31 sm z33 z34)), (z21, .inl (cI, 4, .inl (nF g1))), (z22, .inl (cI, 4, .inl (nF g2))), (z23, .inl (cI, 4, .inl (nF g3))), (z24, .inl (cI, 2, .inl (oF (va_up he 0 (hs (2 * f)))))), (z17, .inl (cI, 90, .inl (nF zs))), (z18, .inl (cI, 360, .inl (nF cs))), (z19, .inl (cI, 180, .inl (oF hs)))] H := hP
            have hD : va_D A [(x0, .inr (8, mO ax z1 z2 z3 fc z5 z6 z7 qs z9 z10 z11 z12 z13 hd lg fcn z17 z18 z19 (zs f) z21 z22 z23 z24 (m_hcn (hs (2 * f)) (hs (2 * f + 1))) z26 z27 z28 z29 z30 z31 sm z33 z34)), (z21, .inl (cI, 4, .inl (nF g1))), (z22, .inl (cI, 4, .inl (nF g2))), (z23, .inl (cI, 4, .inl (nF g3))), (z24, .inl (cI, 2, .inl (oF (va_up he 0 (hs (2 * f)))))), (z17, .inl (cI, 90, .inl (nF zs))), (z18, .inl (cI, 360, .inl (nF cs))), (z19, .inl (cI, 180, .inl (oF hs)))] := hD
            refine lv_aload_n hx hb dX8_load_137 rfl (lv_at hl 1 rfl) ?_
            refine va_get (D := (dC, dI)) (ci := 8) (v := .ref z24) (C := RX8) (T := TX8) (N := 35) hx hb hts uX8 hown hK hP 0 rfl rfl 24 (by decide) (hts _ kfX8_65) (fun _ h9 => h9) rfl dX8_load_138 ?_
            refine lv_iconst (v := (nI (1))) hx hb dX8_load_141 (by decide) ?_
            refine lv_aload_n hx hb dX8_load_142 rfl (lv_at hl 1 rfl) ?_
            refine va_get (D := (dC, dI)) (ci := 8) (v := .ref z19) (C := RX8) (T := TX8) (N := 35) hx hb hts uX8 hown hK hP 0 rfl rfl 19 (by decide) (hts _ kfX8_53) (fun _ h9 => h9) rfl dX8_load_143 ?_
            refine lv_iconst (v := (nI (2))) hx hb dX8_load_146 (by decide) ?_
            refine lv_iload_n hx hb dX8_load_147 rfl (lv_at hl 2 rfl) ?_
            refine q_imul (x := 2) (y := f) hx hb dX8_load_148 ?_
            refine lv_iconst (v := (nI (1))) hx hb dX8_load_149 (by decide) ?_
            refine q_iadd (x := 2 * f) (y := 1) hx hb dX8_load_150 ?_
            refine q_ialdO hx hb hK hP 7 0 rfl rfl (j := (2 * f) + 1) (by omega) (by omega) dX8_load_151 ?_
            refine q_iastO hx hb hK hP hD hS 4 0 rfl rfl (j := 1) (x := hs ((2 * f) + 1)) (by omega) (by omega) dX8_load_152 (fun H locs hP hD hS => ?_)
            have hP : va_P (dC, dI) qCl [(x0, .inr (8, mO ax z1 z2 z3 fc z5 z6 z7 qs z9 z10 z11 z12 z13 hd lg fcn z17 z18 z19 (zs f) z21 z22 z23 z24 (m_hcn (hs (2 * f)) (hs (2 * f + 1))) z26 z27 z28 z29 z30 z31 sm z33 z34)), (z21, .inl (cI, 4, .inl (nF g1))), (z22, .inl (cI, 4, .inl (nF g2))), (z23, .inl (cI, 4, .inl (nF g3))), (z24, .inl (cI, 2, .inl (oF (va_up (va_up he 0 (hs (2 * f))) 1 (hs ((2 * f) + 1)))))), (z17, .inl (cI, 90, .inl (nF zs))), (z18, .inl (cI, 360, .inl (nF cs))), (z19, .inl (cI, 180, .inl (oF hs)))] H := hP
            have hD : va_D A [(x0, .inr (8, mO ax z1 z2 z3 fc z5 z6 z7 qs z9 z10 z11 z12 z13 hd lg fcn z17 z18 z19 (zs f) z21 z22 z23 z24 (m_hcn (hs (2 * f)) (hs (2 * f + 1))) z26 z27 z28 z29 z30 z31 sm z33 z34)), (z21, .inl (cI, 4, .inl (nF g1))), (z22, .inl (cI, 4, .inl (nF g2))), (z23, .inl (cI, 4, .inl (nF g3))), (z24, .inl (cI, 2, .inl (oF (va_up (va_up he 0 (hs (2 * f))) 1 (hs ((2 * f) + 1)))))), (z17, .inl (cI, 90, .inl (nF zs))), (z18, .inl (cI, 360, .inl (nF cs))), (z19, .inl (cI, 180, .inl (oF hs)))] := hD
            have hP : va_P (dC, dI) qCl [(x0, .inr (8, mO ax z1 z2 z3 fc z5 z6 z7 qs z9 z10 z11 z12 z13 hd lg fcn z17 z18 z19 (zs f) z21 z22 z23 z24 (m_hcn (hs (2 * f)) (hs (2 * f + 1))) z26 z27 z28 z29 z30 z31 sm z33 z34)), (z21, .inl (cI, 4, .inl (nF g1))), (z22, .inl (cI, 4, .inl (nF g2))), (z23, .inl (cI, 4, .inl (nF g3))), (z24, .inl (cI, 2, .inl (oF (va_up (va_up he 0 (hs (2 * f))) 1 (hs (2 * f + 1)))))), (z17, .inl (cI, 90, .inl (nF zs))), (z18, .inl (cI, 360, .inl (nF cs))), (z19, .inl (cI, 180, .inl (oF hs)))] H := hP
            have hD : va_D A [(x0, .inr (8, mO ax z1 z2 z3 fc z5 z6 z7 qs z9 z10 z11 z12 z13 hd lg fcn z17 z18 z19 (zs f) z21 z22 z23 z24 (m_hcn (hs (2 * f)) (hs (2 * f + 1))) z26 z27 z28 z29 z30 z31 sm z33 z34)), (z21, .inl (cI, 4, .inl (nF g1))), (z22, .inl (cI, 4, .inl (nF g2))), (z23, .inl (cI, 4, .inl (nF g3))), (z24, .inl (cI, 2, .inl (oF (va_up (va_up he 0 (hs (2 * f))) 1 (hs (2 * f + 1)))))), (z17, .inl (cI, 90, .inl (nF zs))), (z18, .inl (cI, 360, .inl (nF cs))), (z19, .inl (cI, 180, .inl (oF hs)))] := hD
            subst hQ
            subst hAe
            have hP9 := hP.sub (ws' := [(x0, .inr (8, mO ax z1 z2 z3 fc z5 z6 z7 qs z9 z10 z11 z12 z13 hd lg fcn z17 z18 z19 (zs f) z21 z22 z23 z24 (m_hcn (hs (2 * f)) (hs (2 * f + 1))) z26 z27 z28 z29 z30 z31 sm z33 z34)), (z21, .inl (cI, 4, .inl (nF g1))), (z22, .inl (cI, 4, .inl (nF g2))), (z23, .inl (cI, 4, .inl (nF g3))), (z24, .inl (cI, 2, .inl (oF (va_up (va_up he 0 (hs (2 * f))) 1 (hs (2 * f + 1)))))), (z17, .inl (cI, 90, .inl (nF zs))), (z18, .inl (cI, 360, .inl (nF cs))), (z19, .inl (cI, 180, .inl (oF hs)))]) [0, 1, 2, 3, 4, 5, 6, 7] rfl
            exact W.vret hx hb hr (fun t9 h9 _ => ⟨⟨(g1, g2, g3), rfl, ⟨(show ∀ j, g1 j < 64 from by (exact h1)), (show ∀ j, g2 j < 18 from by (exact h2)), (show ∀ j, g3 j < 18 from by (exact h3)), (show m_ld cs f g1 g2 g3 (zs f) from by (rw [show zs f = i by omega]; exact h4))⟩, by show va_P _ _ _ t9.heap; rw [h9]; exact hP9⟩, hS.F h9⟩) hS.2.2 dX8_load_153
          · refine lv_iconst (v := (nI (1))) hx hb dX8_load_115 (by decide) ?_
            refine lv_goto (tgt := 120) hx hb dX8_load_116 (by decide) ?_
            refine q_top (show (nI (1)) = (nI (m_hcn (hs (2 * f)) (hs (2 * f + 1)))) from (congrArg nI (by first | (rw [m_hcn, if_pos (by assumption)]) | (rw [m_hcn, if_neg (by assumption), if_pos (by assumption)]) | (rw [m_hcn, if_neg (by assumption), if_neg (by assumption)])))) ?_
            refine va_put (D := (dC, dI)) (ci := 8) (v := .int (nI (m_hcn (hs (2 * f)) (hs (2 * f + 1))))) (ty := .int) (C := RX8) (T := TX8) (N := 35) hx hb hts uX8 tyX8 tyX8_ok nmX8 hown hK hP hD hS 0 rfl rfl 25 (by decide) (hts _ kfX8_118) (fun _ h9 => h9) rfl (by decide +kernel) (rfl) (rfl) (Nat.le_of_ble_eq_true rfl) dX8_load_120 (fun H locs hP hD hS => ?_)
            have hP : va_P (dC, dI) qCl [(x0, .inr (8, mO ax z1 z2 z3 fc z5 z6 z7 qs z9 z10 z11 z12 z13 hd lg fcn z17 z18 z19 (zs f) z21 z22 z23 z24 (m_hcn (hs (2 * f)) (hs (2 * f + 1))) z26 z27 z28 z29 z30 z31 sm z33 z34)), (z21, .inl (cI, 4, .inl (nF g1))), (z22, .inl (cI, 4, .inl (nF g2))), (z23, .inl (cI, 4, .inl (nF g3))), (z24, .inl (cI, 2, .inl (oF he))), (z17, .inl (cI, 90, .inl (nF zs))), (z18, .inl (cI, 360, .inl (nF cs))), (z19, .inl (cI, 180, .inl (oF hs)))] H := hP
            have hD : va_D A [(x0, .inr (8, mO ax z1 z2 z3 fc z5 z6 z7 qs z9 z10 z11 z12 z13 hd lg fcn z17 z18 z19 (zs f) z21 z22 z23 z24 (m_hcn (hs (2 * f)) (hs (2 * f + 1))) z26 z27 z28 z29 z30 z31 sm z33 z34)), (z21, .inl (cI, 4, .inl (nF g1))), (z22, .inl (cI, 4, .inl (nF g2))), (z23, .inl (cI, 4, .inl (nF g3))), (z24, .inl (cI, 2, .inl (oF he))), (z17, .inl (cI, 90, .inl (nF zs))), (z18, .inl (cI, 360, .inl (nF cs))), (z19, .inl (cI, 180, .inl (oF hs)))] := hD
            refine lv_aload_n hx hb dX8_load_123 rfl (lv_at hl 1 rfl) ?_
            refine va_get (D := (dC, dI)) (ci := 8) (v := .ref z24) (C := RX8) (T := TX8) (N := 35) hx hb hts uX8 hown hK hP 0 rfl rfl 24 (by decide) (hts _ kfX8_65) (fun _ h9 => h9) rfl dX8_load_124 ?_
            refine lv_iconst (v := (nI (0))) hx hb dX8_load_127 (by decide) ?_
            refine lv_aload_n hx hb dX8_load_128 rfl (lv_at hl 1 rfl) ?_
            refine va_get (D := (dC, dI)) (ci := 8) (v := .ref z19) (C := RX8) (T := TX8) (N := 35) hx hb hts uX8 hown hK hP 0 rfl rfl 19 (by decide) (hts _ kfX8_53) (fun _ h9 => h9) rfl dX8_load_129 ?_
            refine lv_iconst (v := (nI (2))) hx hb dX8_load_132 (by decide) ?_
            refine lv_iload_n hx hb dX8_load_133 rfl (lv_at hl 2 rfl) ?_
            refine q_imul (x := 2) (y := f) hx hb dX8_load_134 ?_
            refine q_ialdO hx hb hK hP 7 0 rfl rfl (j := 2 * f) (by omega) (by omega) dX8_load_135 ?_
            refine q_iastO hx hb hK hP hD hS 4 0 rfl rfl (j := 0) (x := hs (2 * f)) (by omega) (by omega) dX8_load_136 (fun H locs hP hD hS => ?_)
            have hP : va_P (dC, dI) qCl [(x0, .inr (8, mO ax z1 z2 z3 fc z5 z6 z7 qs z9 z10 z11 z12 z13 hd lg fcn z17 z18 z19 (zs f) z21 z22 z23 z24 (m_hcn (hs (2 * f)) (hs (2 * f + 1))) z26 z27 z28 z29 z30 z31 sm z33 z34)), (z21, .inl (cI, 4, .inl (nF g1))), (z22, .inl (cI, 4, .inl (nF g2))), (z23, .inl (cI, 4, .inl (nF g3))), (z24, .inl (cI, 2, .inl (oF (va_up he 0 (hs (2 * f)))))), (z17, .inl (cI, 90, .inl (nF zs))), (z18, .inl (cI, 360, .inl (nF cs))), (z19, .inl (cI, 180, .inl (oF hs)))] H := hP
            have hD : va_D A [(x0, .inr (8, mO ax z1 z2 z3 fc z5 z6 z7 qs z9 z10 z11 z12 z13 hd lg fcn z17 z18 z19 (zs f) z21 z22 z23 z24 (m_hcn (hs (2 * f)) (hs (2 * f + 1))) z26 z27 z28 z29 z30 z31 sm z33 z34)), (z21, .inl (cI, 4, .inl (nF g1))), (z22, .inl (cI, 4, .inl (nF g2))), (z23, .inl (cI, 4, .inl (nF g3))), (z24, .inl (cI, 2, .inl (oF (va_up he 0 (hs (2 * f)))))), (z17, .inl (cI, 90, .inl (nF zs))), (z18, .inl (cI, 360, .inl (nF cs))), (z19, .inl (cI, 180, .inl (oF hs)))] := hD
            refine lv_aload_n hx hb dX8_load_137 rfl (lv_at hl 1 rfl) ?_
            refine va_get (D := (dC, dI)) (ci := 8) (v := .ref z24) (C := RX8) (T := TX8) (N := 35) hx hb hts uX8 hown hK hP 0 rfl rfl 24 (by decide) (hts _ kfX8_65) (fun _ h9 => h9) rfl dX8_load_138 ?_
            refine lv_iconst (v := (nI (1))) hx hb dX8_load_141 (by decide) ?_
            refine lv_aload_n hx hb dX8_load_142 rfl (lv_at hl 1 rfl) ?_
            refine va_get (D := (dC, dI)) (ci := 8) (v := .ref z19) (C := RX8) (T := TX8) (N := 35) hx hb hts uX8 hown hK hP 0 rfl rfl 19 (by decide) (hts _ kfX8_53) (fun _ h9 => h9) rfl dX8_load_143 ?_
            refine lv_iconst (v := (nI (2))) hx hb dX8_load_146 (by decide) ?_
            refine lv_iload_n hx hb dX8_load_147 rfl (lv_at hl 2 rfl) ?_
            refine q_imul (x := 2) (y := f) hx hb dX8_load_148 ?_
            refine lv_iconst (v := (nI (1))) hx hb dX8_load_149 (by decide) ?_
            refine q_iadd (x := 2 * f) (y := 1) hx hb dX8_load_150 ?_
            refine q_ialdO hx hb hK hP 7 0 rfl rfl (j := (2 * f) + 1) (by omega) (by omega) dX8_load_151 ?_
            refine q_iastO hx hb hK hP hD hS 4 0 rfl rfl (j := 1) (x := hs ((2 * f) + 1)) (by omega) (by omega) dX8_load_152 (fun H locs hP hD hS => ?_)
            have hP : va_P (dC, dI) qCl [(x0, .inr (8, mO ax z1 z2 z3 fc z5 z6 z7 qs z9 z10 z11 z12 z13 hd lg fcn z17 z18 z19 (zs f) z21 z22 z23 z24 (m_hcn (hs (2 * f)) (hs (2 * f + 1))) z26 z27 z28 z29 z30 z31 sm z33 z34)), (z21, .inl (cI, 4, .inl (nF g1))), (z22, .inl (cI, 4, .inl (nF g2))), (z23, .inl (cI, 4, .inl (nF g3))), (z24, .inl (cI, 2, .inl (oF (va_up (va_up he 0 (hs (2 * f))) 1 (hs ((2 * f) + 1)))))), (z17, .inl (cI, 90, .inl (nF zs))), (z18, .inl (cI, 360, .inl (nF cs))), (z19, .inl (cI, 180, .inl (oF hs)))] H := hP
            have hD : va_D A [(x0, .inr (8, mO ax z1 z2 z3 fc z5 z6 z7 qs z9 z10 z11 z12 z13 hd lg fcn z17 z18 z19 (zs f) z21 z22 z23 z24 (m_hcn (hs (2 * f)) (hs (2 * f + 1))) z26 z27 z28 z29 z30 z31 sm z33 z34)), (z21, .inl (cI, 4, .inl (nF g1))), (z22, .inl (cI, 4, .inl (nF g2))), (z23, .inl (cI, 4, .inl (nF g3))), (z24, .inl (cI, 2, .inl (oF (va_up (va_up he 0 (hs (2 * f))) 1 (hs ((2 * f) + 1)))))), (z17, .inl (cI, 90, .inl (nF zs))), (z18, .inl (cI, 360, .inl (nF cs))), (z19, .inl (cI, 180, .inl (oF hs)))] := hD
            have hP : va_P (dC, dI) qCl [(x0, .inr (8, mO ax z1 z2 z3 fc z5 z6 z7 qs z9 z10 z11 z12 z13 hd lg fcn z17 z18 z19 (zs f) z21 z22 z23 z24 (m_hcn (hs (2 * f)) (hs (2 * f + 1))) z26 z27 z28 z29 z30 z31 sm z33 z34)), (z21, .inl (cI, 4, .inl (nF g1))), (z22, .inl (cI, 4, .inl (nF g2))), (z23, .inl (cI, 4, .inl (nF g3))), (z24, .inl (cI, 2, .inl (oF (va_up (va_up he 0 (hs (2 * f))) 1 (hs (2 * f + 1)))))), (z17, .inl (cI, 90, .inl (nF zs))), (z18, .inl (cI, 360, .inl (nF cs))), (z19, .inl (cI, 180, .inl (oF hs)))] H := hP
            have hD : va_D A [(x0, .inr (8, mO ax z1 z2 z3 fc z5 z6 z7 qs z9 z10 z11 z12 z13 hd lg fcn z17 z18 z19 (zs f) z21 z22 z23 z24 (m_hcn (hs (2 * f)) (hs (2 * f + 1))) z26 z27 z28 z29 z30 z31 sm z33 z34)), (z21, .inl (cI, 4, .inl (nF g1))), (z22, .inl (cI, 4, .inl (nF g2))), (z23, .inl (cI, 4, .inl (nF g3))), (z24, .inl (cI, 2, .inl (oF (va_up (va_up he 0 (hs (2 * f))) 1 (hs (2 * f + 1)))))), (z17, .inl (cI, 90, .inl (nF zs))), (z18, .inl (cI, 360, .inl (nF cs))), (z19, .inl (cI, 180, .inl (oF hs)))] := hD
            subst hQ
            subst hAe
            have hP9 := hP.sub (ws' := [(x0, .inr (8, mO ax z1 z2 z3 fc z5 z6 z7 qs z9 z10 z11 z12 z13 hd lg fcn z17 z18 z19 (zs f) z21 z22 z23 z24 (m_hcn (hs (2 * f)) (hs (2 * f + 1))) z26 z27 z28 z29 z30 z31 sm z33 z34)), (z21, .inl (cI, 4, .inl (nF g1))), (z22, .inl (cI, 4, .inl (nF g2))), (z23, .inl (cI, 4, .inl (nF g3))), (z24, .inl (cI, 2, .inl (oF (va_up (va_up he 0 (hs (2 * f))) 1 (hs (2 * f + 1)))))), (z17, .inl (cI, 90, .inl (nF zs))), (z18, .inl (cI, 360, .inl (nF cs))), (z19, .inl (cI, 180, .inl (oF hs)))]) [0, 1, 2, 3, 4, 5, 6, 7] rfl
            exact W.vret hx hb hr (fun t9 h9 _ => ⟨⟨(g1, g2, g3), rfl, ⟨(show ∀ j, g1 j < 64 from by (exact h1)), (show ∀ j, g2 j < 18 from by (exact h2)), (show ∀ j, g3 j < 18 from by (exact h3)), (show m_ld cs f g1 g2 g3 (zs f) from by (rw [show zs f = i by omega]; exact h4))⟩, by show va_P _ _ _ t9.heap; rw [h9]; exact hP9⟩, hS.F h9⟩) hS.2.2 dX8_load_153
        · refine lv_iconst (v := (nI (0))) hx hb dX8_load_98 (by decide) ?_
          refine lv_goto (tgt := 120) hx hb dX8_load_99 (by decide) ?_
          refine q_top (show (nI (0)) = (nI (m_hcn (hs (2 * f)) (hs (2 * f + 1)))) from (congrArg nI (by first | (rw [m_hcn, if_pos (by assumption)]) | (rw [m_hcn, if_neg (by assumption), if_pos (by assumption)]) | (rw [m_hcn, if_neg (by assumption), if_neg (by assumption)])))) ?_
          refine va_put (D := (dC, dI)) (ci := 8) (v := .int (nI (m_hcn (hs (2 * f)) (hs (2 * f + 1))))) (ty := .int) (C := RX8) (T := TX8) (N := 35) hx hb hts uX8 tyX8 tyX8_ok nmX8 hown hK hP hD hS 0 rfl rfl 25 (by decide) (hts _ kfX8_118) (fun _ h9 => h9) rfl (by decide +kernel) (rfl) (rfl) (Nat.le_of_ble_eq_true rfl) dX8_load_120 (fun H locs hP hD hS => ?_)
          have hP : va_P (dC, dI) qCl [(x0, .inr (8, mO ax z1 z2 z3 fc z5 z6 z7 qs z9 z10 z11 z12 z13 hd lg fcn z17 z18 z19 (zs f) z21 z22 z23 z24 (m_hcn (hs (2 * f)) (hs (2 * f + 1))) z26 z27 z28 z29 z30 z31 sm z33 z34)), (z21, .inl (cI, 4, .inl (nF g1))), (z22, .inl (cI, 4, .inl (nF g2))), (z23, .inl (cI, 4, .inl (nF g3))), (z24, .inl (cI, 2, .inl (oF he))), (z17, .inl (cI, 90, .inl (nF zs))), (z18, .inl (cI, 360, .inl (nF cs))), (z19, .inl (cI, 180, .inl (oF hs)))] H := hP
          have hD : va_D A [(x0, .inr (8, mO ax z1 z2 z3 fc z5 z6 z7 qs z9 z10 z11 z12 z13 hd lg fcn z17 z18 z19 (zs f) z21 z22 z23 z24 (m_hcn (hs (2 * f)) (hs (2 * f + 1))) z26 z27 z28 z29 z30 z31 sm z33 z34)), (z21, .inl (cI, 4, .inl (nF g1))), (z22, .inl (cI, 4, .inl (nF g2))), (z23, .inl (cI, 4, .inl (nF g3))), (z24, .inl (cI, 2, .inl (oF he))), (z17, .inl (cI, 90, .inl (nF zs))), (z18, .inl (cI, 360, .inl (nF cs))), (z19, .inl (cI, 180, .inl (oF hs)))] := hD
          refine lv_aload_n hx hb dX8_load_123 rfl (lv_at hl 1 rfl) ?_
          refine va_get (D := (dC, dI)) (ci := 8) (v := .ref z24) (C := RX8) (T := TX8) (N := 35) hx hb hts uX8 hown hK hP 0 rfl rfl 24 (by decide) (hts _ kfX8_65) (fun _ h9 => h9) rfl dX8_load_124 ?_
          refine lv_iconst (v := (nI (0))) hx hb dX8_load_127 (by decide) ?_
          refine lv_aload_n hx hb dX8_load_128 rfl (lv_at hl 1 rfl) ?_
          refine va_get (D := (dC, dI)) (ci := 8) (v := .ref z19) (C := RX8) (T := TX8) (N := 35) hx hb hts uX8 hown hK hP 0 rfl rfl 19 (by decide) (hts _ kfX8_53) (fun _ h9 => h9) rfl dX8_load_129 ?_
          refine lv_iconst (v := (nI (2))) hx hb dX8_load_132 (by decide) ?_
          refine lv_iload_n hx hb dX8_load_133 rfl (lv_at hl 2 rfl) ?_
          refine q_imul (x := 2) (y := f) hx hb dX8_load_134 ?_
          refine q_ialdO hx hb hK hP 7 0 rfl rfl (j := 2 * f) (by omega) (by omega) dX8_load_135 ?_
          refine q_iastO hx hb hK hP hD hS 4 0 rfl rfl (j := 0) (x := hs (2 * f)) (by omega) (by omega) dX8_load_136 (fun H locs hP hD hS => ?_)
          have hP : va_P (dC, dI) qCl [(x0, .inr (8, mO ax z1 z2 z3 fc z5 z6 z7 qs z9 z10 z11 z12 z13 hd lg fcn z17 z18 z19 (zs f) z21 z22 z23 z24 (m_hcn (hs (2 * f)) (hs (2 * f + 1))) z26 z27 z28 z29 z30 z31 sm z33 z34)), (z21, .inl (cI, 4, .inl (nF g1))), (z22, .inl (cI, 4, .inl (nF g2))), (z23, .inl (cI, 4, .inl (nF g3))), (z24, .inl (cI, 2, .inl (oF (va_up he 0 (hs (2 * f)))))), (z17, .inl (cI, 90, .inl (nF zs))), (z18, .inl (cI, 360, .inl (nF cs))), (z19, .inl (cI, 180, .inl (oF hs)))] H := hP
          have hD : va_D A [(x0, .inr (8, mO ax z1 z2 z3 fc z5 z6 z7 qs z9 z10 z11 z12 z13 hd lg fcn z17 z18 z19 (zs f) z21 z22 z23 z24 (m_hcn (hs (2 * f)) (hs (2 * f + 1))) z26 z27 z28 z29 z30 z31 sm z33 z34)), (z21, .inl (cI, 4, .inl (nF g1))), (z22, .inl (cI, 4, .inl (nF g2))), (z23, .inl (cI, 4, .inl (nF g3))), (z24, .inl (cI, 2, .inl (oF (va_up he 0 (hs (2 * f)))))), (z17, .inl (cI, 90, .inl (nF zs))), (z18, .inl (cI, 360, .inl (nF cs))), (z19, .inl (cI, 180, .inl (oF hs)))] := hD
          refine lv_aload_n hx hb dX8_load_137 rfl (lv_at hl 1 rfl) ?_
          refine va_get (D := (dC, dI)) (ci := 8) (v := .ref z24) (C := RX8) (T := TX8) (N := 35) hx hb hts uX8 hown hK hP 0 rfl rfl 24 (by decide) (hts _ kfX8_65) (fun _ h9 => h9) rfl dX8_load_138 ?_
          refine lv_iconst (v := (nI (1))) hx hb dX8_load_141 (by decide) ?_
          refine lv_aload_n hx hb dX8_load_142 rfl (lv_at hl 1 rfl) ?_
          refine va_get (D := (dC, dI)) (ci := 8) (v := .ref z19) (C := RX8) (T := TX8) (N := 35) hx hb hts uX8 hown hK hP 0 rfl rfl 19 (by decide) (hts _ kfX8_53) (fun _ h9 => h9) rfl dX8_load_143 ?_
          refine lv_iconst (v := (nI (2))) hx hb dX8_load_146 (by decide) ?_
          refine lv_iload_n hx hb dX8_load_147 rfl (lv_at hl 2 rfl) ?_
          refine q_imul (x := 2) (y := f) hx hb dX8_load_148 ?_
          refine lv_iconst (v := (nI (1))) hx hb dX8_load_149 (by decide) ?_
          refine q_iadd (x := 2 * f) (y := 1) hx hb dX8_load_150 ?_
          refine q_ialdO hx hb hK hP 7 0 rfl rfl (j := (2 * f) + 1) (by omega) (by omega) dX8_load_151 ?_
          refine q_iastO hx hb hK hP hD hS 4 0 rfl rfl (j := 1) (x := hs ((2 * f) + 1)) (by omega) (by omega) dX8_load_152 (fun H locs hP hD hS => ?_)
          have hP : va_P (dC, dI) qCl [(x0, .inr (8, mO ax z1 z2 z3 fc z5 z6 z7 qs z9 z10 z11 z12 z13 hd lg fcn z17 z18 z19 (zs f) z21 z22 z23 z24 (m_hcn (hs (2 * f)) (hs (2 * f + 1))) z26 z27 z28 z29 z30 z31 sm z33 z34)), (z21, .inl (cI, 4, .inl (nF g1))), (z22, .inl (cI, 4, .inl (nF g2))), (z23, .inl (cI, 4, .inl (nF g3))), (z24, .inl (cI, 2, .inl (oF (va_up (va_up he 0 (hs (2 * f))) 1 (hs ((2 * f) + 1)))))), (z17, .inl (cI, 90, .inl (nF zs))), (z18, .inl (cI, 360, .inl (nF cs))), (z19, .inl (cI, 180, .inl (oF hs)))] H := hP
          have hD : va_D A [(x0, .inr (8, mO ax z1 z2 z3 fc z5 z6 z7 qs z9 z10 z11 z12 z13 hd lg fcn z17 z18 z19 (zs f) z21 z22 z23 z24 (m_hcn (hs (2 * f)) (hs (2 * f + 1))) z26 z27 z28 z29 z30 z31 sm z33 z34)), (z21, .inl (cI, 4, .inl (nF g1))), (z22, .inl (cI, 4, .inl (nF g2))), (z23, .inl (cI, 4, .inl (nF g3))), (z24, .inl (cI, 2, .inl (oF (va_up (va_up he 0 (hs (2 * f))) 1 (hs ((2 * f) + 1)))))), (z17, .inl (cI, 90, .inl (nF zs))), (z18, .inl (cI, 360, .inl (nF cs))), (z19, .inl (cI, 180, .inl (oF hs)))] := hD
          have hP : va_P (dC, dI) qCl [(x0, .inr (8, mO ax z1 z2 z3 fc z5 z6 z7 qs z9 z10 z11 z12 z13 hd lg fcn z17 z18 z19 (zs f) z21 z22 z23 z24 (m_hcn (hs (2 * f)) (hs (2 * f + 1))) z26 z27 z28 z29 z30 z31 sm z33 z34)), (z21, .inl (cI, 4, .inl (nF g1))), (z22, .inl (cI, 4, .inl (nF g2))), (z23, .inl (cI, 4, .inl (nF g3))), (z24, .inl (cI, 2, .inl (oF (va_up (va_up he 0 (hs (2 * f))) 1 (hs (2 * f + 1)))))), (z17, .inl (cI, 90, .inl (nF zs))), (z18, .inl (cI, 360, .inl (nF cs))), (z19, .inl (cI, 180, .inl (oF hs)))] H := hP
          have hD : va_D A [(x0, .inr (8, mO ax z1 z2 z3 fc z5 z6 z7 qs z9 z10 z11 z12 z13 hd lg fcn z17 z18 z19 (zs f) z21 z22 z23 z24 (m_hcn (hs (2 * f)) (hs (2 * f + 1))) z26 z27 z28 z29 z30 z31 sm z33 z34)), (z21, .inl (cI, 4, .inl (nF g1))), (z22, .inl (cI, 4, .inl (nF g2))), (z23, .inl (cI, 4, .inl (nF g3))), (z24, .inl (cI, 2, .inl (oF (va_up (va_up he 0 (hs (2 * f))) 1 (hs (2 * f + 1)))))), (z17, .inl (cI, 90, .inl (nF zs))), (z18, .inl (cI, 360, .inl (nF cs))), (z19, .inl (cI, 180, .inl (oF hs)))] := hD
          subst hQ
          subst hAe
          have hP9 := hP.sub (ws' := [(x0, .inr (8, mO ax z1 z2 z3 fc z5 z6 z7 qs z9 z10 z11 z12 z13 hd lg fcn z17 z18 z19 (zs f) z21 z22 z23 z24 (m_hcn (hs (2 * f)) (hs (2 * f + 1))) z26 z27 z28 z29 z30 z31 sm z33 z34)), (z21, .inl (cI, 4, .inl (nF g1))), (z22, .inl (cI, 4, .inl (nF g2))), (z23, .inl (cI, 4, .inl (nF g3))), (z24, .inl (cI, 2, .inl (oF (va_up (va_up he 0 (hs (2 * f))) 1 (hs (2 * f + 1)))))), (z17, .inl (cI, 90, .inl (nF zs))), (z18, .inl (cI, 360, .inl (nF cs))), (z19, .inl (cI, 180, .inl (oF hs)))]) [0, 1, 2, 3, 4, 5, 6, 7] rfl
          exact W.vret hx hb hr (fun t9 h9 _ => ⟨⟨(g1, g2, g3), rfl, ⟨(show ∀ j, g1 j < 64 from by (exact h1)), (show ∀ j, g2 j < 18 from by (exact h2)), (show ∀ j, g3 j < 18 from by (exact h3)), (show m_ld cs f g1 g2 g3 (zs f) from by (rw [show zs f = i by omega]; exact h4))⟩, by show va_P _ _ _ t9.heap; rw [h9]; exact hP9⟩, hS.F h9⟩) hS.2.2 dX8_load_153
      · refine lv_aload_n hx hb dX8_load_20 rfl (lv_at hl 1 rfl) ?_
        refine va_get (D := (dC, dI)) (ci := 8) (v := .ref z21) (C := RX8) (T := TX8) (N := 35) hx hb hts uX8 hown hK hP 0 rfl rfl 21 (by decide) (hts _ kfX8_56) (fun _ h9 => h9) rfl dX8_load_21 ?_
        refine lv_iload_n hx hb dX8_load_24 rfl (lv_at hl 0 rfl) ?_
        refine lv_aload_n hx hb dX8_load_25 rfl (lv_at hl 1 rfl) ?_
        refine va_get (D := (dC, dI)) (ci := 8) (v := .ref z18) (C := RX8) (T := TX8) (N := 35) hx hb hts uX8 hown hK hP 0 rfl rfl 18 (by decide) (hts _ kfX8_50) (fun _ h9 => h9) rfl dX8_load_26 ?_
        refine lv_iconst (v := (nI (4))) hx hb dX8_load_29 (by decide) ?_
        refine lv_iload_n hx hb dX8_load_30 rfl (lv_at hl 2 rfl) ?_
        refine q_imul (x := 4) (y := f) hx hb dX8_load_31 ?_
        refine lv_iload_n hx hb dX8_load_32 rfl (lv_at hl 0 rfl) ?_
        refine q_iadd (x := 4 * f) (y := i) hx hb dX8_load_33 ?_
        refine q_ialdN hx hb hK hP 6 0 rfl rfl (j := (4 * f) + i) (by omega) (by omega) dX8_load_34 ?_
        have bd5 := hcs ((4 * f) + i)
        refine lv_bipush (v := (nI (64))) hx hb dX8_load_35 (by decide) ?_
        refine q_idiv (x := cs ((4 * f) + i)) (y := 64) hx hb (by omega) (by omega) (by omega) dX8_load_37 ?_
        refine q_iastN hx hb hK hP hD hS 1 0 rfl rfl (j := i) (x := (cs ((4 * f) + i)) / 64) (by omega) (by omega) dX8_load_38 (fun H locs hP hD hS => ?_)
        have hP : va_P (dC, dI) qCl [(x0, .inr (8, mO ax z1 z2 z3 fc z5 z6 z7 qs z9 z10 z11 z12 z13 hd lg fcn z17 z18 z19 (zs f) z21 z22 z23 z24 hc z26 z27 z28 z29 z30 z31 sm z33 z34)), (z21, .inl (cI, 4, .inl (nF (va_up g1 i ((cs ((4 * f) + i)) / 64))))), (z22, .inl (cI, 4, .inl (nF g2))), (z23, .inl (cI, 4, .inl (nF g3))), (z24, .inl (cI, 2, .inl (oF he))), (z17, .inl (cI, 90, .inl (nF zs))), (z18, .inl (cI, 360, .inl (nF cs))), (z19, .inl (cI, 180, .inl (oF hs)))] H := hP
        have hD : va_D A [(x0, .inr (8, mO ax z1 z2 z3 fc z5 z6 z7 qs z9 z10 z11 z12 z13 hd lg fcn z17 z18 z19 (zs f) z21 z22 z23 z24 hc z26 z27 z28 z29 z30 z31 sm z33 z34)), (z21, .inl (cI, 4, .inl (nF (va_up g1 i ((cs ((4 * f) + i)) / 64))))), (z22, .inl (cI, 4, .inl (nF g2))), (z23, .inl (cI, 4, .inl (nF g3))), (z24, .inl (cI, 2, .inl (oF he))), (z17, .inl (cI, 90, .inl (nF zs))), (z18, .inl (cI, 360, .inl (nF cs))), (z19, .inl (cI, 180, .inl (oF hs)))] := hD
        refine lv_aload_n hx hb dX8_load_39 rfl (lv_at hl 1 rfl) ?_
        refine va_get (D := (dC, dI)) (ci := 8) (v := .ref z22) (C := RX8) (T := TX8) (N := 35) hx hb hts uX8 hown hK hP 0 rfl rfl 22 (by decide) (hts _ kfX8_59) (fun _ h9 => h9) rfl dX8_load_40 ?_
        refine lv_iload_n hx hb dX8_load_43 rfl (lv_at hl 0 rfl) ?_
        refine lv_aload_n hx hb dX8_load_44 rfl (lv_at hl 1 rfl) ?_
        refine va_get (D := (dC, dI)) (ci := 8) (v := .ref z18) (C := RX8) (T := TX8) (N := 35) hx hb hts uX8 hown hK hP 0 rfl rfl 18 (by decide) (hts _ kfX8_50) (fun _ h9 => h9) rfl dX8_load_45 ?_
        refine lv_iconst (v := (nI (4))) hx hb dX8_load_48 (by decide) ?_
        refine lv_iload_n hx hb dX8_load_49 rfl (lv_at hl 2 rfl) ?_
        refine q_imul (x := 4) (y := f) hx hb dX8_load_50 ?_
        refine lv_iload_n hx hb dX8_load_51 rfl (lv_at hl 0 rfl) ?_
        refine q_iadd (x := 4 * f) (y := i) hx hb dX8_load_52 ?_
        refine q_ialdN hx hb hK hP 6 0 rfl rfl (j := (4 * f) + i) (by omega) (by omega) dX8_load_53 ?_
        have bd6 := hcs ((4 * f) + i)
        refine lv_bipush (v := (nI (8))) hx hb dX8_load_54 (by decide) ?_
        refine q_idiv (x := cs ((4 * f) + i)) (y := 8) hx hb (by omega) (by omega) (by omega) dX8_load_56 ?_
        refine lv_bipush (v := (nI (8))) hx hb dX8_load_57 (by decide) ?_
        refine q_irem (x := (cs ((4 * f) + i)) / 8) (y := 8) hx hb (by omega) (by omega) (by omega) dX8_load_59 ?_
        refine q_iastN hx hb hK hP hD hS 2 0 rfl rfl (j := i) (x := ((cs ((4 * f) + i)) / 8) % 8) (by omega) (by omega) dX8_load_60 (fun H locs hP hD hS => ?_)
        have hP : va_P (dC, dI) qCl [(x0, .inr (8, mO ax z1 z2 z3 fc z5 z6 z7 qs z9 z10 z11 z12 z13 hd lg fcn z17 z18 z19 (zs f) z21 z22 z23 z24 hc z26 z27 z28 z29 z30 z31 sm z33 z34)), (z21, .inl (cI, 4, .inl (nF (va_up g1 i ((cs ((4 * f) + i)) / 64))))), (z22, .inl (cI, 4, .inl (nF (va_up g2 i (((cs ((4 * f) + i)) / 8) % 8))))), (z23, .inl (cI, 4, .inl (nF g3))), (z24, .inl (cI, 2, .inl (oF he))), (z17, .inl (cI, 90, .inl (nF zs))), (z18, .inl (cI, 360, .inl (nF cs))), (z19, .inl (cI, 180, .inl (oF hs)))] H := hP
        have hD : va_D A [(x0, .inr (8, mO ax z1 z2 z3 fc z5 z6 z7 qs z9 z10 z11 z12 z13 hd lg fcn z17 z18 z19 (zs f) z21 z22 z23 z24 hc z26 z27 z28 z29 z30 z31 sm z33 z34)), (z21, .inl (cI, 4, .inl (nF (va_up g1 i ((cs ((4 * f) + i)) / 64))))), (z22, .inl (cI, 4, .inl (nF (va_up g2 i (((cs ((4 * f) + i)) / 8) % 8))))), (z23, .inl (cI, 4, .inl (nF g3))), (z24, .inl (cI, 2, .inl (oF he))), (z17, .inl (cI, 90, .inl (nF zs))), (z18, .inl (cI, 360, .inl (nF cs))), (z19, .inl (cI, 180, .inl (oF hs)))] := hD
        refine lv_aload_n hx hb dX8_load_61 rfl (lv_at hl 1 rfl) ?_
        refine va_get (D := (dC, dI)) (ci := 8) (v := .ref z23) (C := RX8) (T := TX8) (N := 35) hx hb hts uX8 hown hK hP 0 rfl rfl 23 (by decide) (hts _ kfX8_62) (fun _ h9 => h9) rfl dX8_load_62 ?_
        refine lv_iload_n hx hb dX8_load_65 rfl (lv_at hl 0 rfl) ?_
        refine lv_aload_n hx hb dX8_load_66 rfl (lv_at hl 1 rfl) ?_
        refine va_get (D := (dC, dI)) (ci := 8) (v := .ref z18) (C := RX8) (T := TX8) (N := 35) hx hb hts uX8 hown hK hP 0 rfl rfl 18 (by decide) (hts _ kfX8_50) (fun _ h9 => h9) rfl dX8_load_67 ?_
        refine lv_iconst (v := (nI (4))) hx hb dX8_load_70 (by decide) ?_
        refine lv_iload_n hx hb dX8_load_71 rfl (lv_at hl 2 rfl) ?_
        refine q_imul (x := 4) (y := f) hx hb dX8_load_72 ?_
        refine lv_iload_n hx hb dX8_load_73 rfl (lv_at hl 0 rfl) ?_
        refine q_iadd (x := 4 * f) (y := i) hx hb dX8_load_74 ?_
        refine q_ialdN hx hb hK hP 6 0 rfl rfl (j := (4 * f) + i) (by omega) (by omega) dX8_load_75 ?_
        have bd7 := hcs ((4 * f) + i)
        refine lv_bipush (v := (nI (8))) hx hb dX8_load_76 (by decide) ?_
        refine q_irem (x := cs ((4 * f) + i)) (y := 8) hx hb (by omega) (by omega) (by omega) dX8_load_78 ?_
        refine q_iastN hx hb hK hP hD hS 3 0 rfl rfl (j := i) (x := (cs ((4 * f) + i)) % 8) (by omega) (by omega) dX8_load_79 (fun H locs hP hD hS => ?_)
        have hP : va_P (dC, dI) qCl [(x0, .inr (8, mO ax z1 z2 z3 fc z5 z6 z7 qs z9 z10 z11 z12 z13 hd lg fcn z17 z18 z19 (zs f) z21 z22 z23 z24 hc z26 z27 z28 z29 z30 z31 sm z33 z34)), (z21, .inl (cI, 4, .inl (nF (va_up g1 i ((cs ((4 * f) + i)) / 64))))), (z22, .inl (cI, 4, .inl (nF (va_up g2 i (((cs ((4 * f) + i)) / 8) % 8))))), (z23, .inl (cI, 4, .inl (nF (va_up g3 i ((cs ((4 * f) + i)) % 8))))), (z24, .inl (cI, 2, .inl (oF he))), (z17, .inl (cI, 90, .inl (nF zs))), (z18, .inl (cI, 360, .inl (nF cs))), (z19, .inl (cI, 180, .inl (oF hs)))] H := hP
        have hD : va_D A [(x0, .inr (8, mO ax z1 z2 z3 fc z5 z6 z7 qs z9 z10 z11 z12 z13 hd lg fcn z17 z18 z19 (zs f) z21 z22 z23 z24 hc z26 z27 z28 z29 z30 z31 sm z33 z34)), (z21, .inl (cI, 4, .inl (nF (va_up g1 i ((cs ((4 * f) + i)) / 64))))), (z22, .inl (cI, 4, .inl (nF (va_up g2 i (((cs ((4 * f) + i)) / 8) % 8))))), (z23, .inl (cI, 4, .inl (nF (va_up g3 i ((cs ((4 * f) + i)) % 8))))), (z24, .inl (cI, 2, .inl (oF he))), (z17, .inl (cI, 90, .inl (nF zs))), (z18, .inl (cI, 360, .inl (nF cs))), (z19, .inl (cI, 180, .inl (oF hs)))] := hD
        refine lv_iinc (v := (nI (i + 1))) (lv' := [(2, .int (nI (i + 1))), (0, .ref x0), (1, .int (nI (f)))]) hx hb dX8_load_80 hl (k := 0) rfl (q_inc _) (by decide) rfl (fun ls hl => ?_)
        refine lv_goto (tgt := 12) hx hb dX8_load_83 (by decide) ?_
        exact ih12 (va_up g1 i ((cs ((4 * f) + i)) / 64)) (va_up g2 i (((cs ((4 * f) + i)) / 8) % 8)) (va_up g3 i ((cs ((4 * f) + i)) % 8)) (i + 1) ls _ _ (by omega) (show (i + 1) ≤ zs f from by omega) (show ∀ j, (va_up g1 i ((cs ((4 * f) + i)) / 64)) j < 64 from by (exact up_lt h1 (by omega))) (show ∀ j, (va_up g2 i (((cs ((4 * f) + i)) / 8) % 8)) j < 18 from by (exact up_lt h2 (by omega))) (show ∀ j, (va_up g3 i ((cs ((4 * f) + i)) % 8)) j < 18 from by (exact up_lt h3 (by omega))) (show m_ld cs f (va_up g1 i ((cs ((4 * f) + i)) / 64)) (va_up g2 i (((cs ((4 * f) + i)) / 8) % 8)) (va_up g3 i ((cs ((4 * f) + i)) % 8)) (i + 1) from by (exact m_ld_s h4)) (lv_sub hl [0, 1, 2] rfl) (hP.sub [0, 1, 2, 3, 4, 5, 6, 7] rfl) (hD.sub [0, 1, 2, 3, 4, 5, 6, 7] (by decide) rfl) hS
  exact L12 _ pp pa pb 0 ls _ _ (by exact Nat.lt_succ_self _) (show 0 ≤ zs f from by omega) (show ∀ j, pp j < 64 from by (exact hpp)) (show ∀ j, pa j < 18 from by (exact hpa)) (show ∀ j, pb j < 18 from by (exact hpb)) (show m_ld cs f pp pa pb 0 from by (intro j hj; omega)) (lv_sub hl [0, 1, 2] rfl) (hP.sub [0, 1, 2, 3, 4, 5, 6, 7] rfl) (hD.sub [0, 1, 2, 3, 4, 5, 6, 7] (by decide) rfl) hS
abbrev rm_c_Model_lay : Room := { frames := 0, cells := 0, slots := 0, locals := 0 }
set_option maxHeartbeats 4000000 in
set_option maxRecDepth 100000 in
theorem c_Model_lay (l : Launch) (dC : Nat → ClassId) (dI : Nat → Nat → Nat) (cI cL cQ cZ : ClassId) (x0 : Nat) (ax : Nat) (z1 : Nat) (z2 : Nat) (z3 : Nat) (fc : Nat) (z5 : Nat) (z6 : Nat) (z7 : Nat) (qs : Nat) (z9 : Nat) (z10 : Nat) (z11 : Nat) (z12 : Nat) (z13 : Nat) (hd : Option Nat) (lg : Bool) (fcn : Nat) (z17 : Nat) (z18 : Nat) (z19 : Nat) (md : Nat) (z21 : Nat) (z22 : Nat) (z23 : Nat) (z24 : Nat) (hc : Nat) (z26 : Nat) (z27 : Nat) (z28 : Nat) (z29 : Nat) (z30 : Nat) (z31 : Nat) (sm : Bool) (z33 : Nat) (z34 : Nat) (pp : Nat → Nat) (pa : Nat → Nat) (pb : Nat → Nat) (nd : Nat → Nat) (rq : Nat → Nat) (hmd : md ≤ 4) (hpp : ∀ j, pp j < 64) (hpa : ∀ j, pa j < 18) (hpb : ∀ j, pb j < 18) (hnd : ∀ j, nd j < 8) (hrq : ∀ j, rq j < 8192) : Met l yX8_lay wkX8_lay rm_c_Model_lay (q_W (dC, dI) qCl (qT cI cL cQ cZ) [(x0, .inr (8, mO ax z1 z2 z3 fc z5 z6 z7 qs z9 z10 z11 z12 z13 hd lg fcn z17 z18 z19 md z21 z22 z23 z24 hc z26 z27 z28 z29 z30 z31 sm z33 z34)), (z21, .inl (cI, 4, .inl (nF pp))), (z22, .inl (cI, 4, .inl (nF pa))), (z23, .inl (cI, 4, .inl (nF pb))), (z26, .inl (cI, 18, .inl (nF nd))), (z28, .inl (cI, 4, .inl (nF rq)))] [.ref x0]) (va_Qv (fun (u : (Nat → Nat)) => (∀ j, u j < 8192) ∧ (f_srt (m_code pp pa pb nd) u md)) (fun (u : (Nat → Nat)) t => va_P (dC, dI) qCl [(x0, .inr (8, mO ax z1 z2 z3 fc z5 z6 z7 qs z9 z10 z11 z12 z13 hd lg fcn z17 z18 z19 md z21 z22 z23 z24 hc z26 z27 z28 z29 z30 z31 sm z33 z34)), (z21, .inl (cI, 4, .inl (nF pp))), (z22, .inl (cI, 4, .inl (nF pa))), (z23, .inl (cI, 4, .inl (nF pb))), (z26, .inl (cI, 18, .inl (nF nd))), (z28, .inl (cI, 4, .inl (nF u)))] t.heap) (q_A [(x0, .inr (8, mO ax z1 z2 z3 fc z5 z6 z7 qs z9 z10 z11 z12 z13 hd lg fcn z17 z18 z19 md z21 z22 z23 z24 hc z26 z27 z28 z29 z30 z31 sm z33 z34)), (z21, .inl (cI, 4, .inl (nF pp))), (z22, .inl (cI, 4, .inl (nF pa))), (z23, .inl (cI, 4, .inl (nF pb))), (z26, .inl (cI, 18, .inl (nF nd))), (z28, .inl (cI, 4, .inl (nF rq)))])) 0 0 (q_A [(x0, .inr (8, mO ax z1 z2 z3 fc z5 z6 z7 qs z9 z10 z11 z12 z13 hd lg fcn z17 z18 z19 md z21 z22 z23 z24 hc z26 z27 z28 z29 z30 z31 sm z33 z34)), (z21, .inl (cI, 4, .inl (nF pp))), (z22, .inl (cI, 4, .inl (nF pa))), (z23, .inl (cI, 4, .inl (nF pb))), (z26, .inl (cI, 18, .inl (nF nd))), (z28, .inl (cI, 4, .inl (nF rq)))]) := by
  refine Met.ofW (cc := cX8_lay) (maxL := 4) (ret := none) (by decide) rfl ?_
  intro p e s m args below meth c s₁ B hml hv
  obtain ⟨hargs, hP, hK, hD0⟩ := hv
  have hx := B.exec
  have hb := B.bytes
  have hr := B.returns
  have hts : ∀ w ∈ qW, w.before args s = true := fun w h => atoms_spec (ws := wkX8_lay) B.pre w (List.mem_cons_of_mem _ h)
  have hown : s.vm.findClass RX8 = some m.cls := findClass_of_methodNamed B.named
  have hlocks := B.notSynchronized
  refine q_named (fun Q hQ => ?_)
  have hD : va_D (q_A [(x0, .inr (8, mO ax z1 z2 z3 fc z5 z6 z7 qs z9 z10 z11 z12 z13 hd lg fcn z17 z18 z19 md z21 z22 z23 z24 hc z26 z27 z28 z29 z30 z31 sm z33 z34)), (z21, .inl (cI, 4, .inl (nF pp))), (z22, .inl (cI, 4, .inl (nF pa))), (z23, .inl (cI, 4, .inl (nF pb))), (z26, .inl (cI, 18, .inl (nF nd))), (z28, .inl (cI, 4, .inl (nF rq)))]) [(x0, .inr (8, mO ax z1 z2 z3 fc z5 z6 z7 qs z9 z10 z11 z12 z13 hd lg fcn z17 z18 z19 md z21 z22 z23 z24 hc z26 z27 z28 z29 z30 z31 sm z33 z34)), (z21, .inl (cI, 4, .inl (nF pp))), (z22, .inl (cI, 4, .inl (nF pa))), (z23, .inl (cI, 4, .inl (nF pb))), (z26, .inl (cI, 18, .inl (nF nd))), (z28, .inl (cI, 4, .inl (nF rq)))] := ⟨hD0.1, fun k q h => ⟨k, q.2, h⟩⟩
  generalize hAe : q_A [(x0, .inr (8, mO ax z1 z2 z3 fc z5 z6 z7 qs z9 z10 z11 z12 z13 hd lg fcn z17 z18 z19 md z21 z22 z23 z24 hc z26 z27 z28 z29 z30 z31 sm z33 z34)), (z21, .inl (cI, 4, .inl (nF pp))), (z22, .inl (cI, 4, .inl (nF pa))), (z23, .inl (cI, 4, .inl (nF pb))), (z26, .inl (cI, 18, .inl (nF nd))), (z28, .inl (cI, 4, .inl (nF rq)))] = A at hD
  have hS : va_S A s.heap s.heap [] := va_S.rf
  refine q_entry hargs (Nat.le_of_ble_eq_true rfl) (fun ls hl => ?_)
  have hl : lv_has ls 4 [(0, .ref x0)] := hl
  obtain ⟨H, locs, eH, eL⟩ : ∃ (H : Heap) (locs : List Loc), s.heap = H ∧ ([] : List Loc) = locs := ⟨_, _, rfl, rfl⟩
  have hS : va_S A s.heap H locs := by rw [← eH, ← eL]; exact hS
  have hP : va_P (dC, dI) qCl [(x0, .inr (8, mO ax z1 z2 z3 fc z5 z6 z7 qs z9 z10 z11 z12 z13 hd lg fcn z17 z18 z19 md z21 z22 z23 z24 hc z26 z27 z28 z29 z30 z31 sm z33 z34)), (z21, .inl (cI, 4, .inl (nF pp))), (z22, .inl (cI, 4, .inl (nF pa))), (z23, .inl (cI, 4, .inl (nF pb))), (z26, .inl (cI, 18, .inl (nF nd))), (z28, .inl (cI, 4, .inl (nF rq)))] H := by rw [← eH]; exact hP
  refine W_at eH eL ?_
  refine lv_iconst (v := (nI (0))) hx hb dX8_lay_0 (by decide) ?_
  refine lv_istore_n (lv' := [(1, .int (nI (0))), (0, .ref x0)]) hx hb dX8_lay_1 rfl hl (by decide) rfl (fun ls hl => ?_)
  have L2 : ∀ (fu : Nat) (g : Nat → Nat) (i : Nat) (ls : Array Slot) (H : Heap) (locs : List Loc), md - i < fu → (i ≤ md) → (∀ j, g j < 8192) → (f_srt (m_code pp pa pb nd) g i) → lv_has ls 4 [(1, .int (nI (i))), (0, .ref x0)] → va_P (dC, dI) qCl [(x0, .inr (8, mO ax z1 z2 z3 fc z5 z6 z7 qs z9 z10 z11 z12 z13 hd lg fcn z17 z18 z19 md z21 z22 z23 z24 hc z26 z27 z28 z29 z30 z31 sm z33 z34)), (z21, .inl (cI, 4, .inl (nF pp))), (z22, .inl (cI, 4, .inl (nF pa))), (z23, .inl (cI, 4, .inl (nF pb))), (z26, .inl (cI, 18, .inl (nF nd))), (z28, .inl (cI, 4, .inl (nF g)))] H → va_D A [(x0, .inr (8, mO ax z1 z2 z3 fc z5 z6 z7 qs z9 z10 z11 z12 z13 hd lg fcn z17 z18 z19 md z21 z22 z23 z24 hc z26 z27 z28 z29 z30 z31 sm z33 z34)), (z21, .inl (cI, 4, .inl (nF pp))), (z22, .inl (cI, 4, .inl (nF pa))), (z23, .inl (cI, 4, .inl (nF pb))), (z26, .inl (cI, 18, .inl (nF nd))), (z28, .inl (cI, 4, .inl (nF g)))] → va_S A s.heap H locs → W p l e (headSpec wkX8_lay rm_c_Model_lay).room s m args below meth c H locs 0 0 Q (F0 m 2 ls []) := by
    intro fu
    induction fu with
    | zero => intro g i ls H locs hmu; exact absurd hmu (Nat.not_lt_zero _)
    | succ fu ih2 =>
      intro g i ls H locs hmu hi hgb hg hl hP hD hS
      refine lv_iload_n hx hb dX8_lay_2 rfl (lv_at hl 0 rfl) ?_
      refine lv_aload_n hx hb dX8_lay_3 rfl (lv_at hl 1 rfl) ?_
      refine va_get (D := (dC, dI)) (ci := 8) (v := .int (nI (md))) (C := RX8) (T := TX8) (N := 35) hx hb hts uX8 hown hK hP 0 rfl rfl 20 (by decide) (hts _ kfX8_121) (fun _ h9 => h9) rfl dX8_lay_4 ?_
      refine q_icmp_ge (x := i) (y := md) (tgt := 114) hx hb dX8_lay_7 (by decide) (by omega) (by omega) (fun c7_1 => ?_) (fun c7_1 => ?_)
      · subst hQ
        subst hAe
        have hP9 := hP.sub (ws' := [(x0, .inr (8, mO ax z1 z2 z3 fc z5 z6 z7 qs z9 z10 z11 z12 z13 hd lg fcn z17 z18 z19 md z21 z22 z23 z24 hc z26 z27 z28 z29 z30 z31 sm z33 z34)), (z21, .inl (cI, 4, .inl (nF pp))), (z22, .inl (cI, 4, .inl (nF pa))), (z23, .inl (cI, 4, .inl (nF pb))), (z26, .inl (cI, 18, .inl (nF nd))), (z28, .inl (cI, 4, .inl (nF g)))]) [0, 1, 2, 3, 4, 5] rfl
        exact W.vret hx hb hr (fun t9 h9 _ => ⟨⟨(g), rfl, ⟨(show ∀ j, g j < 8192 from by (exact hgb)), (show f_srt (m_code pp pa pb nd) g md from by (rw [show md = i by omega]; exact hg))⟩, by show va_P _ _ _ t9.heap; rw [h9]; exact hP9⟩, hS.F h9⟩) hS.2.2 dX8_lay_114
      · have L62 : ∀  (ls : Array Slot) (H : Heap) (locs : List Loc), lv_has ls 4 [(1, .int (nI (i))), (0, .ref x0)] → va_P (dC, dI) qCl [(x0, .inr (8, mO ax z1 z2 z3 fc z5 z6 z7 qs z9 z10 z11 z12 z13 hd lg fcn z17 z18 z19 md z21 z22 z23 z24 hc z26 z27 z28 z29 z30 z31 sm z33 z34)), (z21, .inl (cI, 4, .inl (nF pp))), (z22, .inl (cI, 4, .inl (nF pa))), (z23, .inl (cI, 4, .inl (nF pb))), (z26, .inl (cI, 18, .inl (nF nd))), (z28, .inl (cI, 4, .inl (nF g)))] H → va_D A [(x0, .inr (8, mO ax z1 z2 z3 fc z5 z6 z7 qs z9 z10 z11 z12 z13 hd lg fcn z17 z18 z19 md z21 z22 z23 z24 hc z26 z27 z28 z29 z30 z31 sm z33 z34)), (z21, .inl (cI, 4, .inl (nF pp))), (z22, .inl (cI, 4, .inl (nF pa))), (z23, .inl (cI, 4, .inl (nF pb))), (z26, .inl (cI, 18, .inl (nF nd))), (z28, .inl (cI, 4, .inl (nF g)))] → va_S A s.heap H locs → W p l e (headSpec wkX8_lay rm_c_Model_lay).room s m args below meth c H locs 0 0 Q (F0 m 62 ls [.int (nI (m_code pp pa pb nd i))]) := by
          intro  ls H locs  hl hP hD hS
          have hcq : m_code pp pa pb nd i < 8192 := m_code_lt (hpp i) hnd
          refine lv_istore_n (lv' := [(2, .int (nI (m_code pp pa pb nd i))), (1, .int (nI (i))), (0, .ref x0)]) hx hb dX8_lay_62 rfl hl (by decide) rfl (fun ls hl => ?_)
          refine lv_iload_n hx hb dX8_lay_63 rfl (lv_at hl 1 rfl) ?_
          refine lv_istore_n (lv' := [(3, .int (nI (i))), (2, .int (nI (m_code pp pa pb nd i))), (1, .int (nI (i))), (0, .ref x0)]) hx hb dX8_lay_64 rfl hl (by decide) rfl (fun ls hl => ?_)
          have L65 : ∀ (fu : Nat) (z : Nat → Nat) (k : Nat) (ls : Array Slot) (H : Heap) (locs : List Loc), k < fu → (∀ j, z j < 8192) → (f_shf g z i k (m_code pp pa pb nd i)) → lv_has ls 4 [(3, .int (nI (k))), (2, .int (nI (m_code pp pa pb nd i))), (1, .int (nI (i))), (0, .ref x0)] → va_P (dC, dI) qCl [(x0, .inr (8, mO ax z1 z2 z3 fc z5 z6 z7 qs z9 z10 z11 z12 z13 hd lg fcn z17 z18 z19 md z21 z22 z23 z24 hc z26 z27 z28 z29 z30 z31 sm z33 z34)), (z21, .inl (cI, 4, .inl (nF pp))), (z22, .inl (cI, 4, .inl (nF pa))), (z23, .inl (cI, 4, .inl (nF pb))), (z26, .inl (cI, 18, .inl (nF nd))), (z28, .inl (cI, 4, .inl (nF z)))] H → va_D A [(x0, .inr (8, mO ax z1 z2 z3 fc z5 z6 z7 qs z9 z10 z11 z12 z13 hd lg fcn z17 z18 z19 md z21 z22 z23 z24 hc z26 z27 z28 z29 z30 z31 sm z33 z34)), (z21, .inl (cI, 4, .inl (nF pp))), (z22, .inl (cI, 4, .inl (nF pa))), (z23, .inl (cI, 4, .inl (nF pb))), (z26, .inl (cI, 18, .inl (nF nd))), (z28, .inl (cI, 4, .inl (nF z)))] → va_S A s.heap H locs → W p l e (headSpec wkX8_lay rm_c_Model_lay).room s m args below meth c H locs 0 0 Q (F0 m 65 ls []) := by
            intro fu
            induction fu with
            | zero => intro z k ls H locs hmu; exact absurd hmu (Nat.not_lt_zero _)
            | succ fu ih65 =>
              intro z k ls H locs hmu hzb hz hl hP hD hS
              have hk9 := hz.1
              refine lv_iload_n hx hb dX8_lay_65 rfl (lv_at hl 0 rfl) ?_
              refine q_if_le (x := k) (tgt := 101) hx hb dX8_lay_66 (by decide) (by omega) (fun c66_2 => ?_) (fun c66_2 => ?_)
              · refine lv_aload_n hx hb dX8_lay_101 rfl (lv_at hl 3 rfl) ?_
                refine va_get (D := (dC, dI)) (ci := 8) (v := .ref z28) (C := RX8) (T := TX8) (N := 35) hx hb hts uX8 hown hK hP 0 rfl rfl 28 (by decide) (hts _ kfX8_74) (fun _ h9 => h9) rfl dX8_lay_102 ?_
                refine lv_iload_n hx hb dX8_lay_105 rfl (lv_at hl 0 rfl) ?_
                refine lv_iload_n hx hb dX8_lay_106 rfl (lv_at hl 1 rfl) ?_
                refine q_iastN hx hb hK hP hD hS 5 0 rfl rfl (j := k) (x := m_code pp pa pb nd i) (by omega) (by omega) dX8_lay_107 (fun H locs hP hD hS => ?_)
                have hP : va_P (dC, dI) qCl [(x0, .inr (8, mO ax z1 z2 z3 fc z5 z6 z7 qs z9 z10 z11 z12 z13 hd lg fcn z17 z18 z19 md z21 z22 z23 z24 hc z26 z27 z28 z29 z30 z31 sm z33 z34)), (z21, .inl (cI, 4, .inl (nF pp))), (z22, .inl (cI, 4, .inl (nF pa))), (z23, .inl (cI, 4, .inl (nF pb))), (z26, .inl (cI, 18, .inl (nF nd))), (z28, .inl (cI, 4, .inl (nF (va_up z k (m_code pp pa pb nd i)))))] H := hP
                have hD : va_D A [(x0, .inr (8, mO ax z1 z2 z3 fc z5 z6 z7 qs z9 z10 z11 z12 z13 hd lg fcn z17 z18 z19 md z21 z22 z23 z24 hc z26 z27 z28 z29 z30 z31 sm z33 z34)), (z21, .inl (cI, 4, .inl (nF pp))), (z22, .inl (cI, 4, .inl (nF pa))), (z23, .inl (cI, 4, .inl (nF pb))), (z26, .inl (cI, 18, .inl (nF nd))), (z28, .inl (cI, 4, .inl (nF (va_up z k (m_code pp pa pb nd i)))))] := hD
                refine lv_iinc (v := (nI (i + 1))) (lv' := [(1, .int (nI (i + 1))), (3, .int (nI (k))), (2, .int (nI (m_code pp pa pb nd i))), (0, .ref x0)]) hx hb dX8_lay_108 hl (k := 2) rfl (q_inc _) (by decide) rfl (fun ls hl => ?_)
                refine lv_goto (tgt := 2) hx hb dX8_lay_111 (by decide) ?_
                exact ih2 (va_up z k (m_code pp pa pb nd i)) (i + 1) ls _ _ (by omega) (show (i + 1) ≤ md from by omega) (show ∀ j, (va_up z k (m_code pp pa pb nd i)) j < 8192 from by (exact up_lt hzb (by omega))) (show f_srt (m_code pp pa pb nd) (va_up z k (m_code pp pa pb nd i)) (i + 1) from by (exact f_srt_s hg hz (by first | exact Or.inl (by omega) | exact Or.inr (by omega)))) (lv_sub hl [0, 3] rfl) (hP.sub [0, 1, 2, 3, 4, 5] rfl) (hD.sub [0, 1, 2, 3, 4, 5] (by decide) rfl) hS
              · refine lv_aload_n hx hb dX8_lay_69 rfl (lv_at hl 3 rfl) ?_
                refine va_get (D := (dC, dI)) (ci := 8) (v := .ref z28) (C := RX8) (T := TX8) (N := 35) hx hb hts uX8 hown hK hP 0 rfl rfl 28 (by decide) (hts _ kfX8_74) (fun _ h9 => h9) rfl dX8_lay_70 ?_
                refine lv_iload_n hx hb dX8_lay_73 rfl (lv_at hl 0 rfl) ?_
                refine lv_iconst (v := (nI (1))) hx hb dX8_lay_74 (by decide) ?_
                refine q_isub (x := k) (y := 1) hx hb (by omega) dX8_lay_75 ?_
                refine q_ialdN hx hb hK hP 5 0 rfl rfl (j := k - 1) (by omega) (by omega) dX8_lay_76 ?_
                have bd3 := hzb (k - 1)
                refine lv_iload_n hx hb dX8_lay_77 rfl (lv_at hl 1 rfl) ?_
                refine q_icmp_le (x := z (k - 1)) (y := m_code pp pa pb nd i) (tgt := 101) hx hb dX8_lay_78 (by decide) (by omega) (by omega) (fun c78_4 => ?_) (fun c78_4 => ?_)
                · refine lv_aload_n hx hb dX8_lay_101 rfl (lv_at hl 3 rfl) ?_
                  refine va_get (D := (dC, dI)) (ci := 8) (v := .ref z28) (C := RX8) (T := TX8) (N := 35) hx hb hts uX8 hown hK hP 0 rfl rfl 28 (by decide) (hts _ kfX8_74) (fun _ h9 => h9) rfl dX8_lay_102 ?_
                  refine lv_iload_n hx hb dX8_lay_105 rfl (lv_at hl 0 rfl) ?_
                  refine lv_iload_n hx hb dX8_lay_106 rfl (lv_at hl 1 rfl) ?_
                  refine q_iastN hx hb hK hP hD hS 5 0 rfl rfl (j := k) (x := m_code pp pa pb nd i) (by omega) (by omega) dX8_lay_107 (fun H locs hP hD hS => ?_)
                  have hP : va_P (dC, dI) qCl [(x0, .inr (8, mO ax z1 z2 z3 fc z5 z6 z7 qs z9 z10 z11 z12 z13 hd lg fcn z17 z18 z19 md z21 z22 z23 z24 hc z26 z27 z28 z29 z30 z31 sm z33 z34)), (z21, .inl (cI, 4, .inl (nF pp))), (z22, .inl (cI, 4, .inl (nF pa))), (z23, .inl (cI, 4, .inl (nF pb))), (z26, .inl (cI, 18, .inl (nF nd))), (z28, .inl (cI, 4, .inl (nF (va_up z k (m_code pp pa pb nd i)))))] H := hP
                  have hD : va_D A [(x0, .inr (8, mO ax z1 z2 z3 fc z5 z6 z7 qs z9 z10 z11 z12 z13 hd lg fcn z17 z18 z19 md z21 z22 z23 z24 hc z26 z27 z28 z29 z30 z31 sm z33 z34)), (z21, .inl (cI, 4, .inl (nF pp))), (z22, .inl (cI, 4, .inl (nF pa))), (z23, .inl (cI, 4, .inl (nF pb))), (z26, .inl (cI, 18, .inl (nF nd))), (z28, .inl (cI, 4, .inl (nF (va_up z k (m_code pp pa pb nd i)))))] := hD
                  refine lv_iinc (v := (nI (i + 1))) (lv' := [(1, .int (nI (i + 1))), (3, .int (nI (k))), (2, .int (nI (m_code pp pa pb nd i))), (0, .ref x0)]) hx hb dX8_lay_108 hl (k := 2) rfl (q_inc _) (by decide) rfl (fun ls hl => ?_)
                  refine lv_goto (tgt := 2) hx hb dX8_lay_111 (by decide) ?_
                  exact ih2 (va_up z k (m_code pp pa pb nd i)) (i + 1) ls _ _ (by omega) (show (i + 1) ≤ md from by omega) (show ∀ j, (va_up z k (m_code pp pa pb nd i)) j < 8192 from by (exact up_lt hzb (by omega))) (show f_srt (m_code pp pa pb nd) (va_up z k (m_code pp pa pb nd i)) (i + 1) from by (exact f_srt_s hg hz (by first | exact Or.inl (by omega) | exact Or.inr (by omega)))) (lv_sub hl [0, 3] rfl) (hP.sub [0, 1, 2, 3, 4, 5] rfl) (hD.sub [0, 1, 2, 3, 4, 5] (by decide) rfl) hS
                · refine lv_aload_n hx hb dX8_lay_81 rfl (lv_at hl 3 rfl) ?_
                  refine va_get (D := (dC, dI)) (ci := 8) (v := .ref z28) (C := RX8) (T := TX8) (N := 35) hx hb hts uX8 hown hK hP 0 rfl rfl 28 (by decide) (hts _ kfX8_74) (fun _ h9 => h9) rfl dX8_lay_82 ?_
                  refine lv_iload_n hx hb dX8_lay_85 rfl (lv_at hl 0 rfl) ?_
                  refine lv_aload_n hx hb dX8_lay_86 rfl (lv_at hl 3 rfl) ?_
                  refine va_get (D := (dC, dI)) (ci := 8) (v := .ref z28) (C := RX8) (T := TX8) (N := 35) hx hb hts uX8 hown hK hP 0 rfl rfl 28 (by decide) (hts _ kfX8_74) (fun _ h9 => h9) rfl dX8_lay_87 ?_
                  refine lv_iload_n hx hb dX8_lay_90 rfl (lv_at hl 0 rfl) ?_
                  refine lv_iconst (v := (nI (1))) hx hb dX8_lay_91 (by decide) ?_
                  refine q_isub (x := k) (y := 1) hx hb (by omega) dX8_lay_92 ?_
                  refine q_ialdN hx hb hK hP 5 0 rfl rfl (j := k - 1) (by omega) (by omega) dX8_lay_93 ?_
                  have bd5 := hzb (k - 1)
                  refine q_iastN hx hb hK hP hD hS 5 0 rfl rfl (j := k) (x := z (k - 1)) (by omega) (by omega) dX8_lay_94 (fun H locs hP hD hS => ?_)
                  have hP : va_P (dC, dI) qCl [(x0, .inr (8, mO ax z1 z2 z3 fc z5 z6 z7 qs z9 z10 z11 z12 z13 hd lg fcn z17 z18 z19 md z21 z22 z23 z24 hc z26 z27 z28 z29 z30 z31 sm z33 z34)), (z21, .inl (cI, 4, .inl (nF pp))), (z22, .inl (cI, 4, .inl (nF pa))), (z23, .inl (cI, 4, .inl (nF pb))), (z26, .inl (cI, 18, .inl (nF nd))), (z28, .inl (cI, 4, .inl (nF (va_up z k (z (k - 1))))))] H := hP
                  have hD : va_D A [(x0, .inr (8, mO ax z1 z2 z3 fc z5 z6 z7 qs z9 z10 z11 z12 z13 hd lg fcn z17 z18 z19 md z21 z22 z23 z24 hc z26 z27 z28 z29 z30 z31 sm z33 z34)), (z21, .inl (cI, 4, .inl (nF pp))), (z22, .inl (cI, 4, .inl (nF pa))), (z23, .inl (cI, 4, .inl (nF pb))), (z26, .inl (cI, 18, .inl (nF nd))), (z28, .inl (cI, 4, .inl (nF (va_up z k (z (k - 1))))))] := hD
                  refine lv_iinc (v := (nI (k - 1))) (lv' := [(3, .int (nI (k - 1))), (2, .int (nI (m_code pp pa pb nd i))), (1, .int (nI (i))), (0, .ref x0)]) hx hb dX8_lay_95 hl (k := 0) rfl (q_dec (by omega)) (by decide) rfl (fun ls hl => ?_)
                  refine lv_goto (tgt := 65) hx hb dX8_lay_98 (by decide) ?_
                  exact ih65 (va_up z k (z (k - 1))) (k - 1) ls _ _ (by omega) (show ∀ j, (va_up z k (z (k - 1))) j < 8192 from by (exact up_lt hzb (hzb _))) (show f_shf g (va_up z k (z (k - 1))) i (k - 1) (m_code pp pa pb nd i) from by (exact f_shf_s hz (by omega) (by omega))) (lv_sub hl [0, 1, 2, 3] rfl) (hP.sub [0, 1, 2, 3, 4, 5] rfl) (hD.sub [0, 1, 2, 3, 4, 5] (by decide) rfl) hS
          exact L65 _ g i ls _ _ (by exact Nat.lt_succ_self _) (show ∀ j, g j < 8192 from by (exact hgb)) (show f_shf g g i i (m_code pp pa pb nd i) from by (exact ⟨Nat.le_refl i, fun j _ => rfl, fun j h1 h2 => (by omega), fun j h1 h2 => (by omega)⟩)) (lv_sub hl [0, 1, 2, 3] rfl) (hP.sub [0, 1, 2, 3, 4, 5] rfl) (hD.sub [0, 1, 2, 3, 4, 5] (by decide) rfl) hS
        refine lv_bipush (v := (nI (64))) hx hb dX8_lay_10 (by decide) ?_
        refine lv_aload_n hx hb dX8_lay_12 rfl (lv_at hl 1 rfl) ?_
        refine va_get (D := (dC, dI)) (ci := 8) (v := .ref z21) (C := RX8) (T := TX8) (N := 35) hx hb hts uX8 hown hK hP 0 rfl rfl 21 (by decide) (hts _ kfX8_56) (fun _ h9 => h9) rfl dX8_lay_13 ?_
        refine lv_iload_n hx hb dX8_lay_16 rfl (lv_at hl 0 rfl) ?_
        refine q_ialdN hx hb hK hP 1 0 rfl rfl (j := i) (by omega) (by omega) dX8_lay_17 ?_
        have bd6 := hpp i
        refine q_imul (x := 64) (y := pp i) hx hb dX8_lay_18 ?_
        refine lv_bipush (v := (nI (8))) hx hb dX8_lay_19 (by decide) ?_
        refine lv_aload_n hx hb dX8_lay_21 rfl (lv_at hl 1 rfl) ?_
        refine va_get (D := (dC, dI)) (ci := 8) (v := .ref z26) (C := RX8) (T := TX8) (N := 35) hx hb hts uX8 hown hK hP 0 rfl rfl 26 (by decide) (hts _ kfX8_68) (fun _ h9 => h9) rfl dX8_lay_22 ?_
        refine lv_aload_n hx hb dX8_lay_25 rfl (lv_at hl 1 rfl) ?_
        refine va_get (D := (dC, dI)) (ci := 8) (v := .ref z22) (C := RX8) (T := TX8) (N := 35) hx hb hts uX8 hown hK hP 0 rfl rfl 22 (by decide) (hts _ kfX8_59) (fun _ h9 => h9) rfl dX8_lay_26 ?_
        refine lv_iload_n hx hb dX8_lay_29 rfl (lv_at hl 0 rfl) ?_
        refine q_ialdN hx hb hK hP 2 0 rfl rfl (j := i) (by omega) (by omega) dX8_lay_30 ?_
        have bd7 := hpa i
        refine q_ialdN hx hb hK hP 4 0 rfl rfl (j := pa i) (by omega) (by omega) dX8_lay_31 ?_
        have bd8 := hnd (pa i)
        refine q_imul (x := 8) (y := nd (pa i)) hx hb dX8_lay_32 ?_
        refine q_iadd (x := 64 * (pp i)) (y := 8 * (nd (pa i))) hx hb dX8_lay_33 ?_
        refine lv_aload_n hx hb dX8_lay_34 rfl (lv_at hl 1 rfl) ?_
        refine va_get (D := (dC, dI)) (ci := 8) (v := .ref z21) (C := RX8) (T := TX8) (N := 35) hx hb hts uX8 hown hK hP 0 rfl rfl 21 (by decide) (hts _ kfX8_56) (fun _ h9 => h9) rfl dX8_lay_35 ?_
        refine lv_iload_n hx hb dX8_lay_38 rfl (lv_at hl 0 rfl) ?_
        refine q_ialdN hx hb hK hP 1 0 rfl rfl (j := i) (by omega) (by omega) dX8_lay_39 ?_
        have bd9 := hpp i
        refine lv_bipush (v := (nI (32))) hx hb dX8_lay_40 (by decide) ?_
        refine q_icmp_lt (x := pp i) (y := 32) (tgt := 59) hx hb dX8_lay_42 (by decide) (by omega) (by omega) (fun c42_10 => ?_) (fun c42_10 => ?_)
        · refine lv_bipush (v := (nI (7))) hx hb dX8_lay_59 (by decide) ?_
          refine q_iadd (x := (64 * (pp i)) + (8 * (nd (pa i)))) (y := 7) hx hb dX8_lay_61 ?_
          refine q_top (show (nI (((64 * (pp i)) + (8 * (nd (pa i)))) + 7)) = (nI (m_code pp pa pb nd i)) from (congrArg nI (by first | (rw [m_code, if_pos (by omega)]) | (rw [m_code, if_neg (by omega)])))) ?_
          exact L62  ls _ _  (lv_sub hl [0, 1] rfl) (hP.sub [0, 1, 2, 3, 4, 5] rfl) (hD.sub [0, 1, 2, 3, 4, 5] (by decide) rfl) hS
        · refine lv_aload_n hx hb dX8_lay_45 rfl (lv_at hl 1 rfl) ?_
          refine va_get (D := (dC, dI)) (ci := 8) (v := .ref z26) (C := RX8) (T := TX8) (N := 35) hx hb hts uX8 hown hK hP 0 rfl rfl 26 (by decide) (hts _ kfX8_68) (fun _ h9 => h9) rfl dX8_lay_46 ?_
          refine lv_aload_n hx hb dX8_lay_49 rfl (lv_at hl 1 rfl) ?_
          refine va_get (D := (dC, dI)) (ci := 8) (v := .ref z23) (C := RX8) (T := TX8) (N := 35) hx hb hts uX8 hown hK hP 0 rfl rfl 23 (by decide) (hts _ kfX8_62) (fun _ h9 => h9) rfl dX8_lay_50 ?_
          refine lv_iload_n hx hb dX8_lay_53 rfl (lv_at hl 0 rfl) ?_
          refine q_ialdN hx hb hK hP 3 0 rfl rfl (j := i) (by omega) (by omega) dX8_lay_54 ?_
          have bd11 := hpb i
          refine q_ialdN hx hb hK hP 4 0 rfl rfl (j := pb i) (by omega) (by omega) dX8_lay_55 ?_
          have bd12 := hnd (pb i)
          refine lv_goto (tgt := 61) hx hb dX8_lay_56 (by decide) ?_
          refine q_iadd (x := (64 * (pp i)) + (8 * (nd (pa i)))) (y := nd (pb i)) hx hb dX8_lay_61 ?_
          refine q_top (show (nI (((64 * (pp i)) + (8 * (nd (pa i)))) + (nd (pb i)))) = (nI (m_code pp pa pb nd i)) from (congrArg nI (by first | (rw [m_code, if_pos (by omega)]) | (rw [m_code, if_neg (by omega)])))) ?_
          exact L62  ls _ _  (lv_sub hl [0, 1] rfl) (hP.sub [0, 1, 2, 3, 4, 5] rfl) (hD.sub [0, 1, 2, 3, 4, 5] (by decide) rfl) hS
  exact L2 _ rq 0 ls _ _ (by exact Nat.lt_succ_self _) (show 0 ≤ md from by omega) (show ∀ j, rq j < 8192 from by (exact hrq)) (show f_srt (m_code pp pa pb nd) rq 0 from by (exact ⟨fun a b _ h => (by omega), fun c => rfl⟩)) (lv_sub hl [0, 1] rfl) (hP.sub [0, 1, 2, 3, 4, 5] rfl) (hD.sub [0, 1, 2, 3, 4, 5] (by decide) rfl) hS
