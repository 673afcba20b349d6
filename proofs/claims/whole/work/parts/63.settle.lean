/-! The reference's settling -/
def m_ppk (md : Nat) (pp pa pb : Nat → Nat) : Prop := md ≤ 4 ∧ (∀ j, pp j < 64) ∧ (∀ j, pa j < 18) ∧ ∀ j, pb j < 18
def m_wkk (nd le rq fe pk : Nat → Nat) : Prop := (∀ j, nd j < 8) ∧ (∀ j, le j < 8192) ∧ (∀ j, rq j < 8192) ∧ (∀ j, fe j < 18) ∧ ∀ j, pk j < 4
theorem m_dl_b {g : Nat → Nat} {k i b : Nat} (h : ∀ j, g j < b) : ∀ j, m_dl g k i j < b := m_dl_lt h
theorem m_less_k {pp pa pb he pp1 pa1 pb1 : Nat → Nat} {md hc md1 : Nat} {b1 : Bool} (h : m_ppk md pp pa pb) (hl : m_less pp pa pb he md hc b1 md1 pp1 pa1 pb1) : m_ppk md1 pp1 pa1 pb1 := by
  obtain ⟨h1, h2, h3, h4⟩ := h
  rcases hl with ⟨_, hl⟩ | ⟨_, rfl, rfl, rfl, rfl, _⟩
  · rcases hl with ⟨i, k, _, _, _, rfl, rfl, rfl, rfl⟩ | ⟨_, k, _, _, rfl, rfl, rfl, rfl⟩ | ⟨_, k, _, _, _, rfl, rfl, rfl, rfl⟩
    · exact ⟨by omega, m_dl_b h2, m_dl_b h3, m_dl_b h4⟩
    · exact ⟨h1, h2, up_lt h3 (by decide), h4⟩
    · exact ⟨h1, h2, h3, up_lt h4 (by decide)⟩
  · exact ⟨h1, h2, h3, h4⟩
def m_mg (b : Bool) (ms : Nat) : Nat := if b = true then ms + 1 else 0
def m_lp (he : Nat → Nat) (hc : Nat) (nm0 pl0 : Nat → Nat) (n0 : Nat) (pp pa pb : Nat → Nat) (md ms : Nat) (b : Bool) : Prop := (b = true ∧ m_sin nm0 pl0 n0 pp pa pb md ms) ∨ (b = false ∧ c_rest (c_set nm0 pl0 n0) pp (m_pv pa pb) md ∧ ∀ j, j < md → m_wf he hc (pp j, pa j, pb j))
theorem m_lp_0 (he : Nat → Nat) (hc : Nat) (pp pa pb : Nat → Nat) (md : Nat) : m_lp he hc pp (m_pv pa pb) md pp pa pb md (3 * md) true := Or.inl ⟨rfl, m_sin_0 pp pa pb md⟩
theorem m_lp_s {he nm0 pl0 pp pa pb pp1 pa1 pb1 : Nat → Nat} {hc n0 md ms md1 : Nat} {b b1 : Bool} (h6 : m_hw he hc 6) (hwf : ∀ y, c_set nm0 pl0 n0 y → m_wf he hc y) (h : m_lp he hc nm0 pl0 n0 pp pa pb md ms b) (hb : b = true) (hl : m_less pp pa pb he md hc b1 md1 pp1 pa1 pb1) : ∃ ms1, m_mg b1 ms1 < m_mg b ms ∧ m_lp he hc nm0 pl0 n0 pp1 pa1 pb1 md1 ms1 b1 := by
  rcases h with ⟨_, h⟩ | ⟨h, _⟩
  · cases e : b1 with
    | true =>
      obtain ⟨ms1, g1, g2⟩ := m_sin_s h6 hwf h hl e
      exact ⟨ms1, by unfold m_mg; rw [if_pos rfl, if_pos hb]; omega, Or.inl ⟨rfl, g2⟩⟩
    | false =>
      refine ⟨0, by unfold m_mg; rw [if_neg (by decide), if_pos hb]; omega, Or.inr ⟨rfl, m_sin_e h6 hwf h hl e⟩⟩
  · rw [hb] at h; cases h
theorem m_lp_e {he nm0 pl0 pp pa pb : Nat → Nat} {hc n0 md ms : Nat} {b : Bool} (h : m_lp he hc nm0 pl0 n0 pp pa pb md ms b) (hb : b = false) : c_rest (c_set nm0 pl0 n0) pp (m_pv pa pb) md ∧ ∀ j, j < md → m_wf he hc (pp j, pa j, pb j) := by
  rcases h with ⟨h, _⟩ | ⟨_, h⟩
  · rw [hb] at h; cases h
  · exact h
theorem m_wf_fok {he : Nat → Option Nat} {hc n : Nat} {jn : Bool} {nm pl : Nat → Nat} (hh : m_hj he hc jn) (hf : c_fok hc jn nm pl n) : ∀ y, c_set nm pl n y → m_wf (m_h he) hc y := by
  rintro y ⟨j, hj, e⟩
  rw [← e]; exact m_wf_aok hh (hf.2.2.2 j hj)
/-- the reference's least codes by now -/
def m_lsw (R : Nat × Nat × Nat → Prop) (jn : Bool) (fe : Nat → Nat) (k md : Nat) (le : Nat → Nat) (o : Nat) : Prop := o = 0 ∨ (0 < o ∧ (∀ j, j < md → le j < 4096) ∧ c_lst R jn fe k (m_prm k) o (f_row jn md le))
def m_by (z : Int32) (rq le : Nat → Nat) (k : Nat) : Prop := (z = 0 ∧ ∀ j, j < k → rq j = le j) ∨ ∃ q, q < k ∧ (∀ j, j < q → rq j = le j) ∧ rq q ≠ le q ∧ z = nI (rq q) - nI (le q)
theorem sub_toInt {a b : Nat} (ha : a < 8192) (hb : b < 8192) : (nI a - nI b).toInt = (a : Int) - b := by
  rw [Int32.toInt_sub, nI_toInt (by omega), nI_toInt (by omega)]
  rw [Int.bmod_eq_of_le] <;> omega
theorem sub_lt0 {a b : Nat} (ha : a < 8192) (hb : b < 8192) : nI a - nI b < 0 ↔ a < b := by
  rw [Int32.lt_iff_toInt_lt, sub_toInt ha hb]
  have : (0 : Int32).toInt = 0 := by decide
  omega
theorem sub_eq0 {a b : Nat} (ha : a < 8192) (hb : b < 8192) : nI a - nI b = 0 ↔ a = b := by
  rw [← Int32.toInt_inj, sub_toInt ha hb]
  have : (0 : Int32).toInt = 0 := by decide
  omega
theorem m_by_0 (rq le : Nat → Nat) : m_by 0 rq le 0 := Or.inl ⟨rfl, fun j h => absurd h (Nat.not_lt_zero j)⟩
theorem m_by_s {z : Int32} {rq le : Nat → Nat} {k : Nat} (hr : ∀ j, rq j < 8192) (hl : ∀ j, le j < 8192) (h : m_by z rq le k) (hz : z = 0) : m_by (nI (rq k) - nI (le k)) rq le (k + 1) := by
  have he : ∀ j, j < k → rq j = le j := by
    rcases h with h | ⟨q, h1, h2, h3, h4⟩
    · exact h.2
    · rw [h4, sub_eq0 (hr q) (hl q)] at hz; exact absurd hz h3
  by_cases e : rq k = le k
  · refine Or.inl ⟨(sub_eq0 (hr k) (hl k)).mpr e, fun j hj => ?_⟩
    by_cases hjk : j = k
    · rw [hjk]; exact e
    · exact he j (by omega)
  · exact Or.inr ⟨k, by omega, he, e, rfl⟩
theorem m_by_x {z : Int32} {rq le : Nat → Nat} {k m : Nat} (h : m_by z rq le k) (hk : k ≤ m) (hx : m ≤ k ∨ z ≠ 0) : m_by z rq le m := by
  rcases h with h | ⟨q, h1, h2⟩
  · rcases hx with hx | hx
    · exact Or.inl ⟨h.1, fun j hj => h.2 j (by omega)⟩
    · exact absurd h.1 hx
  · exact Or.inr ⟨q, by omega, h2⟩
def m_cpl (le rq : Nat → Nat) (k : Nat) : Nat → Nat := fun j => if j < k then rq j else le j
theorem m_cpl_0 (le rq : Nat → Nat) : m_cpl le rq 0 = le := by funext j; unfold m_cpl; rw [if_neg (by omega)]
theorem m_cpl_s (le rq : Nat → Nat) (k : Nat) : va_up (m_cpl le rq k) k (rq k) = m_cpl le rq (k + 1) := by
  funext j
  by_cases hj : j = k
  · rw [hj, up_s]; unfold m_cpl; rw [if_pos (by omega)]
  · rw [up_n _ _ hj]; unfold m_cpl
    by_cases h : j < k
    · rw [if_pos h, if_pos (by omega)]
    · rw [if_neg h, if_neg (by omega)]
theorem m_cpl_lt {le rq : Nat → Nat} {k b : Nat} (h1 : ∀ j, le j < b) (h2 : ∀ j, rq j < b) : ∀ j, m_cpl le rq k j < b := by
  intro j; unfold m_cpl; split
  · exact h2 j
  · exact h1 j
theorem f_row_cg {jn : Bool} {n : Nat} {g g' : Nat → Nat} (h : ∀ j, j < n → g j = g' j) : f_row jn n g = f_row jn n g' := by
  unfold f_row; rw [f_rowb_cg h]
theorem m_lsw_s {R : Nat × Nat × Nat → Prop} {jn : Bool} {fe nd le rq : Nat → Nat} {k md o q : Nat} {z : Int32} (hr : ∀ j, rq j < 8192) (hl : ∀ j, le j < 8192) (hr4 : ∀ j, j < md → rq j < 4096) (ho : c_oth R fe k) (h : m_lsw R jn fe k md le o) (hn : c_ndt nd fe k (m_prm k o)) (hw : c_rowof R jn nd (f_row jn md rq)) (hb : m_by z rq le md) (hq : q ≤ md) (hc : 0 < q → o = 0 ∨ z < 0) (hx : md ≤ q ∨ ¬ (o = 0 ∨ z < 0)) : m_lsw R jn fe k md (m_cpl le rq q) (o + 1) := by
  refine Or.inr ⟨by omega, ?_⟩
  by_cases hcd : o = 0 ∨ z < 0
  · have hqm : q = md := by
      rcases hx with hx | hx
      · omega
      · exact absurd hcd hx
    subst hqm
    have e : ∀ j, j < q → m_cpl le rq q j = rq j := fun j hj => by unfold m_cpl; rw [if_pos hj]
    refine ⟨fun j hj => by rw [e j hj]; exact hr4 j hj, ?_⟩
    rw [f_row_cg e]
    by_cases h0 : o = 0
    · subst h0; exact c_lst_1 ho hn hw
    · rcases h with h | ⟨_, h4, h⟩
      · exact absurd h h0
      · have hz : z < 0 := by
          rcases hcd with hcd | hcd
          · exact absurd hcd h0
          · exact hcd
        refine c_lst_lt ho h hn hw ?_
        rcases hb with ⟨hb, _⟩ | ⟨p, p1, p2, p3, p4⟩
        · rw [hb] at hz; exact absurd hz (by decide)
        · rw [p4, sub_lt0 (hr p) (hl p)] at hz
          exact f_row_lt p1 hr4 p2 hz
  · have hq0 : q = 0 := by
      rcases Nat.eq_zero_or_pos q with h1 | h1
      · exact h1
      · exact absurd (hc h1) hcd
    subst hq0
    rw [m_cpl_0]
    rcases h with h | ⟨_, h4, h⟩
    · exact absurd (Or.inl h) hcd
    · refine ⟨h4, c_lst_ge ho h hn hw ?_⟩
      have hz : ¬ z < 0 := fun h => hcd (Or.inr h)
      rcases hb with ⟨_, hb⟩ | ⟨p, p1, p2, p3, p4⟩
      · rw [f_row_cg hb]; exact Nat.lt_irrefl _
      · rw [p4, sub_lt0 (hr p) (hl p)] at hz
        have := f_row_lt (jn := jn) p1 h4 (fun j hj => (p2 j hj).symm) (show le p < rq p by omega)
        omega
theorem m_lsw_end {S : Nat × Nat × Nat → Prop} {jn : Bool} {fe pp pa pb le : Nat → Nat} {k md o : Nat} (hk : k ≤ 4) (hR : c_rest S pp (m_pv pa pb) md) (ho : c_oth (c_set pp (m_pv pa pb) md) fe k) (h : m_lsw (c_set pp (m_pv pa pb) md) jn fe k md le o) (he : o = c_ways k) : (∀ j, j < md → le j < 4096) ∧ c_can S jn (f_row jn md le) := by
  rcases h with h | ⟨_, h4, h⟩
  · have := (c_ways_le k).1; omega
  · rw [he] at h
    exact ⟨h4, c_can_of hR (c_lst_end hk ho (c_fullM hk) h)⟩
theorem m_code_lt4 {pp pa pb nd rq : Nat → Nat} {md : Nat} (hpp : ∀ j, pp j < 64) (hnd : ∀ j, nd j < 8) (hs : f_srt (m_code pp pa pb nd) rq md) : ∀ j, j < md → rq j < 4096 := by
  refine f_srt_lt hs (fun j => ?_)
  unfold m_code
  have h1 := hpp j
  have h2 := hnd (pa j)
  have h3 := hnd (pb j)
  split <;> omega
theorem m_rest_nd {S : Nat × Nat × Nat → Prop} {nm pl : Nat → Nat} {n : Nat} (h : c_rest S nm pl n) : f_ndi nm pl n n := by
  obtain ⟨_, _, _, h, _⟩ := h; exact h
/-! Coming, making -/
def m_arr (zs cs : Nat → Nat) (hs : Nat → Option Nat) : Prop := (∀ j, zs j ≤ 4) ∧ (∀ j, cs j < 4096) ∧ ∀ j k, hs j = some k → k < 2
theorem m_arr_new {zs cs le : Nat → Nat} {hs : Nat → Option Nat} {he : Nat → Nat} {n md hc : Nat} (h : m_arr zs cs hs) (hmd : md ≤ 4) (hle : ∀ j, j < md → le j < 4096) : m_arr (va_up zs n md) (m_cps cs le n md) (va_up (va_up hs (2 * n) (m_hn he hc 0)) (2 * n + 1) (m_hn he hc 1)) := by
  obtain ⟨h1, h2, h3⟩ := h
  have hh : ∀ {i k}, m_hn he hc i = some k → k < 2 := fun {i k} e => by
    unfold m_hn at e
    split at e
    · cases e
    · split at e <;> (cases e; decide)
  refine ⟨fun j => ?_, m_cps_lt h2 hle, fun j k e => ?_⟩
  · by_cases e : j = n
    · rw [e, up_s]; exact hmd
    · rw [up_n _ _ e]; exact h1 j
  · by_cases e1 : j = 2 * n + 1
    · rw [e1, up_s] at e; exact hh e
    · rw [up_n _ _ e1] at e
      by_cases e2 : j = 2 * n
      · rw [e2, up_s] at e; exact hh e
      · rw [up_n _ _ e2] at e; exact h3 j k e
theorem m_frms_0 (hc : Nat) (zs cs : Nat → Nat) (hs : Nat → Option Nat) : m_frms hc zs cs hs 0 := ⟨by omega, fun f hf => absurd hf (Nat.not_lt_zero f)⟩
abbrev cX8_settle : ByteArray := prog_10_method_21_code
def yX8_settle : MethodName := ⟨RX8, "settle", "()V"⟩
def wkX8_settle : List Cond := .code yX8_settle cX8_settle 6 none :: qW
set_option maxRecDepth 40000 in
theorem gkX8_settle : GoodIn qW wkX8_settle := q_good (qw 729 rfl rfl)
set_option maxRecDepth 40000 in
theorem knX8_settle : Cond.instanceMethod yX8_settle ∈ qW := qw 728 rfl rfl
set_option maxRecDepth 40000 in
theorem klX8_settle : Cond.selects RX8 yX8_settle yX8_settle ∈ qW := qw 20 rfl rfl
theorem dX8_settle_0 : decode cX8_settle 0 = .ok (.iconst 1, 1) := by decide +kernel
theorem dX8_settle_1 : decode cX8_settle 1 = .ok (.istore_n 1, 1) := by decide +kernel
theorem dX8_settle_2 : decode cX8_settle 2 = .ok (.iload_n 1, 1) := by decide +kernel
theorem dX8_settle_3 : decode cX8_settle 3 = .ok (.ifCond .eq 11, 3) := by decide +kernel
theorem dX8_settle_6 : decode cX8_settle 6 = .ok (.aload_n 0, 1) := by decide +kernel
theorem dX8_settle_7 : decode cX8_settle 7 = .ok (.invokevirtual 138, 3) := by decide +kernel
theorem dX8_settle_10 : decode cX8_settle 10 = .ok (.istore_n 1, 1) := by decide +kernel
theorem dX8_settle_11 : decode cX8_settle 11 = .ok (.goto (-9), 3) := by decide +kernel
theorem dX8_settle_14 : decode cX8_settle 14 = .ok (.aload_n 0, 1) := by decide +kernel
theorem dX8_settle_15 : decode cX8_settle 15 = .ok (.invokevirtual 142, 3) := by decide +kernel
theorem dX8_settle_18 : decode cX8_settle 18 = .ok (.istore_n 2, 1) := by decide +kernel
theorem dX8_settle_19 : decode cX8_settle 19 = .ok (.iconst 0, 1) := by decide +kernel
theorem dX8_settle_20 : decode cX8_settle 20 = .ok (.istore_n 3, 1) := by decide +kernel
theorem dX8_settle_21 : decode cX8_settle 21 = .ok (.iload_n 3, 1) := by decide +kernel
theorem dX8_settle_22 : decode cX8_settle 22 = .ok (.aload_n 0, 1) := by decide +kernel
theorem dX8_settle_23 : decode cX8_settle 23 = .ok (.iload_n 2, 1) := by decide +kernel
theorem dX8_settle_24 : decode cX8_settle 24 = .ok (.invokevirtual 146, 3) := by decide +kernel
theorem dX8_settle_27 : decode cX8_settle 27 = .ok (.if_icmp .ge 103, 3) := by decide +kernel
theorem dX8_settle_30 : decode cX8_settle 30 = .ok (.aload_n 0, 1) := by decide +kernel
theorem dX8_settle_31 : decode cX8_settle 31 = .ok (.iload_n 2, 1) := by decide +kernel
theorem dX8_settle_32 : decode cX8_settle 32 = .ok (.iload_n 3, 1) := by decide +kernel
theorem dX8_settle_33 : decode cX8_settle 33 = .ok (.invokevirtual 149, 3) := by decide +kernel
theorem dX8_settle_36 : decode cX8_settle 36 = .ok (.aload_n 0, 1) := by decide +kernel
theorem dX8_settle_37 : decode cX8_settle 37 = .ok (.invokevirtual 153, 3) := by decide +kernel
theorem dX8_settle_40 : decode cX8_settle 40 = .ok (.iconst 0, 1) := by decide +kernel
theorem dX8_settle_41 : decode cX8_settle 41 = .ok (.istore 4, 2) := by decide +kernel
theorem dX8_settle_43 : decode cX8_settle 43 = .ok (.iconst 0, 1) := by decide +kernel
theorem dX8_settle_44 : decode cX8_settle 44 = .ok (.istore 5, 2) := by decide +kernel
theorem dX8_settle_46 : decode cX8_settle 46 = .ok (.iload 5, 2) := by decide +kernel
theorem dX8_settle_48 : decode cX8_settle 48 = .ok (.aload_n 0, 1) := by decide +kernel
theorem dX8_settle_49 : decode cX8_settle 49 = .ok (.getfield 121, 3) := by decide +kernel
theorem dX8_settle_52 : decode cX8_settle 52 = .ok (.if_icmp .ge 31, 3) := by decide +kernel
theorem dX8_settle_55 : decode cX8_settle 55 = .ok (.iload 4, 2) := by decide +kernel
theorem dX8_settle_57 : decode cX8_settle 57 = .ok (.ifCond .ne 26, 3) := by decide +kernel
theorem dX8_settle_60 : decode cX8_settle 60 = .ok (.aload_n 0, 1) := by decide +kernel
theorem dX8_settle_61 : decode cX8_settle 61 = .ok (.getfield 74, 3) := by decide +kernel
theorem dX8_settle_64 : decode cX8_settle 64 = .ok (.iload 5, 2) := by decide +kernel
theorem dX8_settle_66 : decode cX8_settle 66 = .ok (.iaload, 1) := by decide +kernel
theorem dX8_settle_67 : decode cX8_settle 67 = .ok (.aload_n 0, 1) := by decide +kernel
theorem dX8_settle_68 : decode cX8_settle 68 = .ok (.getfield 71, 3) := by decide +kernel
theorem dX8_settle_71 : decode cX8_settle 71 = .ok (.iload 5, 2) := by decide +kernel
theorem dX8_settle_73 : decode cX8_settle 73 = .ok (.iaload, 1) := by decide +kernel
theorem dX8_settle_74 : decode cX8_settle 74 = .ok (.isub, 1) := by decide +kernel
theorem dX8_settle_75 : decode cX8_settle 75 = .ok (.istore 4, 2) := by decide +kernel
theorem dX8_settle_77 : decode cX8_settle 77 = .ok (.iinc 5 1, 3) := by decide +kernel
theorem dX8_settle_80 : decode cX8_settle 80 = .ok (.goto (-34), 3) := by decide +kernel
theorem dX8_settle_83 : decode cX8_settle 83 = .ok (.iconst 0, 1) := by decide +kernel
theorem dX8_settle_84 : decode cX8_settle 84 = .ok (.istore 5, 2) := by decide +kernel
theorem dX8_settle_86 : decode cX8_settle 86 = .ok (.iload 5, 2) := by decide +kernel
theorem dX8_settle_88 : decode cX8_settle 88 = .ok (.aload_n 0, 1) := by decide +kernel
theorem dX8_settle_89 : decode cX8_settle 89 = .ok (.getfield 121, 3) := by decide +kernel
theorem dX8_settle_92 : decode cX8_settle 92 = .ok (.if_icmp .ge 32, 3) := by decide +kernel
theorem dX8_settle_95 : decode cX8_settle 95 = .ok (.iload_n 3, 1) := by decide +kernel
theorem dX8_settle_96 : decode cX8_settle 96 = .ok (.ifCond .eq 8, 3) := by decide +kernel
theorem dX8_settle_99 : decode cX8_settle 99 = .ok (.iload 4, 2) := by decide +kernel
theorem dX8_settle_101 : decode cX8_settle 101 = .ok (.ifCond .ge 23, 3) := by decide +kernel
theorem dX8_settle_104 : decode cX8_settle 104 = .ok (.aload_n 0, 1) := by decide +kernel
theorem dX8_settle_105 : decode cX8_settle 105 = .ok (.getfield 71, 3) := by decide +kernel
theorem dX8_settle_108 : decode cX8_settle 108 = .ok (.iload 5, 2) := by decide +kernel
theorem dX8_settle_110 : decode cX8_settle 110 = .ok (.aload_n 0, 1) := by decide +kernel
theorem dX8_settle_111 : decode cX8_settle 111 = .ok (.getfield 74, 3) := by decide +kernel
theorem dX8_settle_114 : decode cX8_settle 114 = .ok (.iload 5, 2) := by decide +kernel
theorem dX8_settle_116 : decode cX8_settle 116 = .ok (.iaload, 1) := by decide +kernel
theorem dX8_settle_117 : decode cX8_settle 117 = .ok (.iastore, 1) := by decide +kernel
theorem dX8_settle_118 : decode cX8_settle 118 = .ok (.iinc 5 1, 3) := by decide +kernel
theorem dX8_settle_121 : decode cX8_settle 121 = .ok (.goto (-35), 3) := by decide +kernel
theorem dX8_settle_124 : decode cX8_settle 124 = .ok (.iinc 3 1, 3) := by decide +kernel
theorem dX8_settle_127 : decode cX8_settle 127 = .ok (.goto (-106), 3) := by decide +kernel
theorem dX8_settle_130 : decode cX8_settle 130 = .ok (.return_, 1) := by decide +kernel
set_option maxRecDepth 40000 in
theorem kmX8_142 : Cond.methodLink RX8 142 yX8_collect ∈ qW := qw 750 rfl rfl
set_option maxRecDepth 40000 in
theorem kmX8_146 : Cond.methodLink RX8 146 yX8_ways ∈ qW := qw 754 rfl rfl
set_option maxRecDepth 40000 in
theorem kmX8_149 : Cond.methodLink RX8 149 yX8_name ∈ qW := qw 758 rfl rfl
set_option maxRecDepth 40000 in
theorem kmX8_153 : Cond.methodLink RX8 153 yX8_lay ∈ qW := qw 762 rfl rfl
set_option maxRecDepth 40000 in
theorem kmX8_138 : Cond.methodLink RX8 138 yX8_lessen ∈ qW := qw 730 rfl rfl
abbrev rm_c_Model_settle : Room := { frames := 3, cells := 0, slots := 0, locals := 66 }
set_option maxHeartbeats 4000000 in
set_option maxRecDepth 100000 in
theorem c_Model_settle (l : Launch) (dC : Nat → ClassId) (dI : Nat → Nat → Nat) (cI cL cQ cZ : ClassId) (x0 : Nat) (ax : Nat) (z1 : Nat) (z2 : Nat) (z3 : Nat) (fc : Nat) (z5 : Nat) (z6 : Nat) (z7 : Nat) (qs : Nat) (z9 : Nat) (z10 : Nat) (z11 : Nat) (z12 : Nat) (z13 : Nat) (hd : Option Nat) (lg : Bool) (fcn : Nat) (z17 : Nat) (z18 : Nat) (z19 : Nat) (md : Nat) (z21 : Nat) (z22 : Nat) (z23 : Nat) (z24 : Nat) (hc : Nat) (z26 : Nat) (z27 : Nat) (z28 : Nat) (z29 : Nat) (z30 : Nat) (z31 : Nat) (sm : Bool) (z33 : Nat) (z34 : Nat) (pp : Nat → Nat) (pa : Nat → Nat) (pb : Nat → Nat) (he : Nat → Option Nat) (nd : Nat → Nat) (le : Nat → Nat) (rq : Nat → Nat) (fe : Nat → Nat) (pk : Nat → Nat) (jn : Bool) (hpk : m_ppk md pp pa pb) (hwk : m_wkk nd le rq fe pk) (hhj : m_hj he hc jn) (hfo9 : c_fok hc jn pp (m_pv pa pb) md) : Met l yX8_settle wkX8_settle rm_c_Model_settle (q_W (dC, dI) qCl (qT cI cL cQ cZ) [(x0, .inr (8, mO ax z1 z2 z3 fc z5 z6 z7 qs z9 z10 z11 z12 z13 hd lg fcn z17 z18 z19 md z21 z22 z23 z24 hc z26 z27 z28 z29 z30 z31 sm z33 z34)), (z21, .inl (cI, 4, .inl (nF pp))), (z22, .inl (cI, 4, .inl (nF pa))), (z23, .inl (cI, 4, .inl (nF pb))), (z24, .inl (cI, 2, .inl (oF he))), (z26, .inl (cI, 18, .inl (nF nd))), (z27, .inl (cI, 4, .inl (nF le))), (z28, .inl (cI, 4, .inl (nF rq))), (z29, .inl (cI, 4, .inl (nF fe))), (z30, .inl (cI, 4, .inl (nF pk)))] [.ref x0]) (va_Qv (fun (u : Nat × (Nat → Nat) × (Nat → Nat) × (Nat → Nat) × (Nat → Nat) × (Nat → Nat) × (Nat → Nat) × (Nat → Nat) × (Nat → Nat)) => (m_ppk u.1 u.2.1 u.2.2.1 u.2.2.2.1) ∧ (m_wkk u.2.2.2.2.1 u.2.2.2.2.2.1 u.2.2.2.2.2.2.1 u.2.2.2.2.2.2.2.1 u.2.2.2.2.2.2.2.2) ∧ (∀ j7, j7 < u.1 → u.2.2.2.2.2.1 j7 < 4096) ∧ (c_can (c_set pp (m_pv pa pb) md) jn (f_row jn u.1 u.2.2.2.2.2.1))) (fun (u : Nat × (Nat → Nat) × (Nat → Nat) × (Nat → Nat) × (Nat → Nat) × (Nat → Nat) × (Nat → Nat) × (Nat → Nat) × (Nat → Nat)) t => va_P (dC, dI) qCl [(x0, .inr (8, mO ax z1 z2 z3 fc z5 z6 z7 qs z9 z10 z11 z12 z13 hd lg fcn z17 z18 z19 u.1 z21 z22 z23 z24 hc z26 z27 z28 z29 z30 z31 sm z33 z34)), (z21, .inl (cI, 4, .inl (nF u.2.1))), (z22, .inl (cI, 4, .inl (nF u.2.2.1))), (z23, .inl (cI, 4, .inl (nF u.2.2.2.1))), (z24, .inl (cI, 2, .inl (oF he))), (z26, .inl (cI, 18, .inl (nF u.2.2.2.2.1))), (z27, .inl (cI, 4, .inl (nF u.2.2.2.2.2.1))), (z28, .inl (cI, 4, .inl (nF u.2.2.2.2.2.2.1))), (z29, .inl (cI, 4, .inl (nF u.2.2.2.2.2.2.2.1))), (z30, .inl (cI, 4, .inl (nF u.2.2.2.2.2.2.2.2)))] t.heap) (q_A [(x0, .inr (8, mO ax z1 z2 z3 fc z5 z6 z7 qs z9 z10 z11 z12 z13 hd lg fcn z17 z18 z19 md z21 z22 z23 z24 hc z26 z27 z28 z29 z30 z31 sm z33 z34)), (z21, .inl (cI, 4, .inl (nF pp))), (z22, .inl (cI, 4, .inl (nF pa))), (z23, .inl (cI, 4, .inl (nF pb))), (z24, .inl (cI, 2, .inl (oF he))), (z26, .inl (cI, 18, .inl (nF nd))), (z27, .inl (cI, 4, .inl (nF le))), (z28, .inl (cI, 4, .inl (nF rq))), (z29, .inl (cI, 4, .inl (nF fe))), (z30, .inl (cI, 4, .inl (nF pk)))])) 0 0 (q_A [(x0, .inr (8, mO ax z1 z2 z3 fc z5 z6 z7 qs z9 z10 z11 z12 z13 hd lg fcn z17 z18 z19 md z21 z22 z23 z24 hc z26 z27 z28 z29 z30 z31 sm z33 z34)), (z21, .inl (cI, 4, .inl (nF pp))), (z22, .inl (cI, 4, .inl (nF pa))), (z23, .inl (cI, 4, .inl (nF pb))), (z24, .inl (cI, 2, .inl (oF he))), (z26, .inl (cI, 18, .inl (nF nd))), (z27, .inl (cI, 4, .inl (nF le))), (z28, .inl (cI, 4, .inl (nF rq))), (z29, .inl (cI, 4, .inl (nF fe))), (z30, .inl (cI, 4, .inl (nF pk)))]) := by
  refine Met.ofW (cc := cX8_settle) (maxL := 6) (ret := none) (by decide) rfl ?_
  intro p e s m args below meth c s₁ B hml hv
  obtain ⟨hargs, hP, hK, hD0⟩ := hv
  have hx := B.exec
  have hb := B.bytes
  have hr := B.returns
  have hts : ∀ w ∈ qW, w.before args s = true := fun w h => atoms_spec (ws := wkX8_settle) B.pre w (List.mem_cons_of_mem _ h)
  have hown : s.vm.findClass RX8 = some m.cls := findClass_of_methodNamed B.named
  have hlocks := B.notSynchronized
  refine q_named (fun Q hQ => ?_)
  have hD : va_D (q_A [(x0, .inr (8, mO ax z1 z2 z3 fc z5 z6 z7 qs z9 z10 z11 z12 z13 hd lg fcn z17 z18 z19 md z21 z22 z23 z24 hc z26 z27 z28 z29 z30 z31 sm z33 z34)), (z21, .inl (cI, 4, .inl (nF pp))), (z22, .inl (cI, 4, .inl (nF pa))), (z23, .inl (cI, 4, .inl (nF pb))), (z24, .inl (cI, 2, .inl (oF he))), (z26, .inl (cI, 18, .inl (nF nd))), (z27, .inl (cI, 4, .inl (nF le))), (z28, .inl (cI, 4, .inl (nF rq))), (z29, .inl (cI, 4, .inl (nF fe))), (z30, .inl (cI, 4, .inl (nF pk)))]) [(x0, .inr (8, mO ax z1 z2 z3 fc z5 z6 z7 qs z9 z10 z11 z12 z13 hd lg fcn z17 z18 z19 md z21 z22 z23 z24 hc z26 z27 z28 z29 z30 z31 sm z33 z34)), (z21, .inl (cI, 4, .inl (nF pp))), (z22, .inl (cI, 4, .inl (nF pa))), (z23, .inl (cI, 4, .inl (nF pb))), (z24, .inl (cI, 2, .inl (oF he))), (z26, .inl (cI, 18, .inl (nF nd))), (z27, .inl (cI, 4, .inl (nF le))), (z28, .inl (cI, 4, .inl (nF rq))), (z29, .inl (cI, 4, .inl (nF fe))), (z30, .inl (cI, 4, .inl (nF pk)))] := ⟨hD0.1, fun k q h => ⟨k, q.2, h⟩⟩
  generalize hAe : q_A [(x0, .inr (8, mO ax z1 z2 z3 fc z5 z6 z7 qs z9 z10 z11 z12 z13 hd lg fcn z17 z18 z19 md z21 z22 z23 z24 hc z26 z27 z28 z29 z30 z31 sm z33 z34)), (z21, .inl (cI, 4, .inl (nF pp))), (z22, .inl (cI, 4, .inl (nF pa))), (z23, .inl (cI, 4, .inl (nF pb))), (z24, .inl (cI, 2, .inl (oF he))), (z26, .inl (cI, 18, .inl (nF nd))), (z27, .inl (cI, 4, .inl (nF le))), (z28, .inl (cI, 4, .inl (nF rq))), (z29, .inl (cI, 4, .inl (nF fe))), (z30, .inl (cI, 4, .inl (nF pk)))] = A at hD
  have hS : va_S A s.heap s.heap [] := va_S.rf
  refine q_entry hargs (Nat.le_of_ble_eq_true rfl) (fun ls hl => ?_)
  have hl : lv_has ls 6 [(0, .ref x0)] := hl
  obtain ⟨H, locs, eH, eL⟩ : ∃ (H : Heap) (locs : List Loc), s.heap = H ∧ ([] : List Loc) = locs := ⟨_, _, rfl, rfl⟩
  have hS : va_S A s.heap H locs := by rw [← eH, ← eL]; exact hS
  have hP : va_P (dC, dI) qCl [(x0, .inr (8, mO ax z1 z2 z3 fc z5 z6 z7 qs z9 z10 z11 z12 z13 hd lg fcn z17 z18 z19 md z21 z22 z23 z24 hc z26 z27 z28 z29 z30 z31 sm z33 z34)), (z21, .inl (cI, 4, .inl (nF pp))), (z22, .inl (cI, 4, .inl (nF pa))), (z23, .inl (cI, 4, .inl (nF pb))), (z24, .inl (cI, 2, .inl (oF he))), (z26, .inl (cI, 18, .inl (nF nd))), (z27, .inl (cI, 4, .inl (nF le))), (z28, .inl (cI, 4, .inl (nF rq))), (z29, .inl (cI, 4, .inl (nF fe))), (z30, .inl (cI, 4, .inl (nF pk)))] H := by rw [← eH]; exact hP
  refine W_at eH eL ?_
  obtain ⟨hhe, hh2, hh3, hh4⟩ := m_hj_h hhj hfo9.2.1
  have hhc := hfo9.2.1
  refine lv_iconst (v := (nI (1))) hx hb dX8_settle_0 (by decide) ?_
  refine lv_istore_n (lv' := [(1, .int (nI (1))), (0, .ref x0)]) hx hb dX8_settle_1 rfl hl (by decide) rfl (fun ls hl => ?_)
  have L2 : ∀ (fu : Nat) (go : Bool) (md5 : Nat) (pp5 : Nat → Nat) (pa5 : Nat → Nat) (pb5 : Nat → Nat) (ms : Nat) (ls : Array Slot) (H : Heap) (locs : List Loc), m_mg go ms < fu → (m_ppk md5 pp5 pa5 pb5) → (m_lp (m_h he) hc pp (m_pv pa pb) md pp5 pa5 pb5 md5 ms go) → lv_has ls 6 [(1, .int (bI (go))), (0, .ref x0)] → va_P (dC, dI) qCl [(x0, .inr (8, mO ax z1 z2 z3 fc z5 z6 z7 qs z9 z10 z11 z12 z13 hd lg fcn z17 z18 z19 md5 z21 z22 z23 z24 hc z26 z27 z28 z29 z30 z31 sm z33 z34)), (z21, .inl (cI, 4, .inl (nF pp5))), (z22, .inl (cI, 4, .inl (nF pa5))), (z23, .inl (cI, 4, .inl (nF pb5))), (z24, .inl (cI, 2, .inl (oF he))), (z26, .inl (cI, 18, .inl (nF nd))), (z27, .inl (cI, 4, .inl (nF le))), (z28, .inl (cI, 4, .inl (nF rq))), (z29, .inl (cI, 4, .inl (nF fe))), (z30, .inl (cI, 4, .inl (nF pk)))] H → va_D A [(x0, .inr (8, mO ax z1 z2 z3 fc z5 z6 z7 qs z9 z10 z11 z12 z13 hd lg fcn z17 z18 z19 md5 z21 z22 z23 z24 hc z26 z27 z28 z29 z30 z31 sm z33 z34)), (z21, .inl (cI, 4, .inl (nF pp5))), (z22, .inl (cI, 4, .inl (nF pa5))), (z23, .inl (cI, 4, .inl (nF pb5))), (z24, .inl (cI, 2, .inl (oF he))), (z26, .inl (cI, 18, .inl (nF nd))), (z27, .inl (cI, 4, .inl (nF le))), (z28, .inl (cI, 4, .inl (nF rq))), (z29, .inl (cI, 4, .inl (nF fe))), (z30, .inl (cI, 4, .inl (nF pk)))] → va_S A s.heap H locs → W p l e (headSpec wkX8_settle rm_c_Model_settle).room s m args below meth c H locs 0 0 Q (F0 m 2 ls []) := by
    intro fu
    induction fu with
    | zero => intro go md5 pp5 pa5 pb5 ms ls H locs hmu; exact absurd hmu (Nat.not_lt_zero _)
    | succ fu ih2 =>
      intro go md5 pp5 pa5 pb5 ms ls H locs hmu hpk5 hlp hl hP hD hS
      have hp1 := hpk5.1
      refine lv_iload_n hx hb dX8_settle_2 rfl (lv_at hl 0 rfl) ?_
      refine q_ifb_eq (b := go) (tgt := 14) hx hb dX8_settle_3 (by decide) (fun c3_1 => ?_) (fun c3_1 => ?_)
      · obtain ⟨hre, hw5⟩ := m_lp_e hlp (by assumption)
        refine lv_aload_n hx hb dX8_settle_14 rfl (lv_at hl 1 rfl) ?_
        refine q_joini (wr := [(z26, .inl (cI, 18, .inl (nF nd))), (z27, .inl (cI, 4, .inl (nF le))), (z28, .inl (cI, 4, .inl (nF rq))), (z30, .inl (cI, 4, .inl (nF pk)))]) (va_runV (As := []) (rest := []) ⟨hx, hb, hml, hown, hts⟩ (c_Model_collect l dC dI cI cL cQ cZ x0 ax z1 z2 z3 fc z5 z6 z7 qs z9 z10 z11 z12 z13 hd lg fcn z17 z18 z19 md5 z21 z22 z23 z24 hc z26 z27 z28 z29 z30 z31 sm z33 z34 pp5 pa5 pb5 he fe (show md5 ≤ 4 from by (exact hpk5.1)) (show ∀ j, pp5 j < 64 from by (exact hpk5.2.1)) (show ∀ j, pa5 j < 18 from by (exact hpk5.2.2.1)) (show ∀ j, pb5 j < 18 from by (exact hpk5.2.2.2)) (show hc ≤ 2 from by (exact hhc)) (show m_hok he hc from by (exact hhe)) (show ∀ j, fe j < 18 from by (exact hwk.2.2.2.1)) (show m_few pp5 pa5 pb5 (m_h he) md5 hc from by (exact m_few_of hpk5.1 hre hw5))) (q_cwV 0 hts gkX8_collect kmX8_142 knX8_collect klX8_collect kiX8 rfl rfl rfl (by decide +kernel) ⟨Nat.le_of_ble_eq_true rfl, Nat.le_of_ble_eq_true rfl⟩) (q_preVW hK hP hD [0, 1, 2, 3, 4, 8] rfl (by decide) 0 (ci := 8) (r := (RX8, TX8, 35)) rfl rfl) rfl rfl hl.1 rfl (lv_room (Nat.le_of_ble_eq_true rfl)) dX8_settle_15 ⟨Nat.zero_le _, Nat.zero_le _⟩) hP hD hS [0, 1, 2, 3, 4, 8] [5, 6, 7, 9] rfl rfl (by decide) (fun _ => rfl) (fun r2 u9 H locs hq3 hP hD hS => ?_)
        obtain ⟨k6, fe6⟩ := u9
        have hq3 : (r2 = (nI (k6))) ∧ (∀ j, fe6 j < 18) ∧ (m_gt pp5 pa5 pb5 (m_h he) hc fe6 (2 * md5) k6) ∧ (k6 ≤ 4) := hq3
        obtain ⟨er2, hfe6, hgt, hk6⟩ := hq3
        have hlast := hk6
        subst er2
        have hP : va_P (dC, dI) qCl [(z26, .inl (cI, 18, .inl (nF nd))), (z27, .inl (cI, 4, .inl (nF le))), (z28, .inl (cI, 4, .inl (nF rq))), (z30, .inl (cI, 4, .inl (nF pk))), (x0, .inr (8, mO ax z1 z2 z3 fc z5 z6 z7 qs z9 z10 z11 z12 z13 hd lg fcn z17 z18 z19 md5 z21 z22 z23 z24 hc z26 z27 z28 z29 z30 z31 sm z33 z34)), (z21, .inl (cI, 4, .inl (nF pp5))), (z22, .inl (cI, 4, .inl (nF pa5))), (z23, .inl (cI, 4, .inl (nF pb5))), (z24, .inl (cI, 2, .inl (oF he))), (z29, .inl (cI, 4, .inl (nF fe6)))] H := hP
        have hD : va_D A [(z26, .inl (cI, 18, .inl (nF nd))), (z27, .inl (cI, 4, .inl (nF le))), (z28, .inl (cI, 4, .inl (nF rq))), (z30, .inl (cI, 4, .inl (nF pk))), (x0, .inr (8, mO ax z1 z2 z3 fc z5 z6 z7 qs z9 z10 z11 z12 z13 hd lg fcn z17 z18 z19 md5 z21 z22 z23 z24 hc z26 z27 z28 z29 z30 z31 sm z33 z34)), (z21, .inl (cI, 4, .inl (nF pp5))), (z22, .inl (cI, 4, .inl (nF pa5))), (z23, .inl (cI, 4, .inl (nF pb5))), (z24, .inl (cI, 2, .inl (oF he))), (z29, .inl (cI, 4, .inl (nF fe6)))] := hD
        have ko := m_gt_oth hw5 hgt
        have hwl := c_ways_le k6
        refine lv_istore_n (lv' := [(2, .int (nI (k6))), (1, .int (bI (go))), (0, .ref x0)]) hx hb dX8_settle_18 rfl hl (by decide) rfl (fun ls hl => ?_)
        refine lv_iconst (v := (nI (0))) hx hb dX8_settle_19 (by decide) ?_
        refine lv_istore_n (lv' := [(3, .int (nI (0))), (2, .int (nI (k6))), (1, .int (bI (go))), (0, .ref x0)]) hx hb dX8_settle_20 rfl hl (by decide) rfl (fun ls hl => ?_)
        have L21 : ∀ (fu : Nat) (wy : Nat) (nd6 : Nat → Nat) (le6 : Nat → Nat) (rq6 : Nat → Nat) (pk6 : Nat → Nat) (ls : Array Slot) (H : Heap) (locs : List Loc), c_ways k6 - wy < fu → (wy ≤ c_ways k6) → (m_wkk nd6 le6 rq6 fe6 pk6) → (m_lsw (c_set pp5 (m_pv pa5 pb5) md5) jn fe6 k6 md5 le6 wy) → lv_has ls 6 [(3, .int (nI (wy))), (2, .int (nI (k6))), (1, .int (bI (go))), (0, .ref x0)] → va_P (dC, dI) qCl [(x0, .inr (8, mO ax z1 z2 z3 fc z5 z6 z7 qs z9 z10 z11 z12 z13 hd lg fcn z17 z18 z19 md5 z21 z22 z23 z24 hc z26 z27 z28 z29 z30 z31 sm z33 z34)), (z21, .inl (cI, 4, .inl (nF pp5))), (z22, .inl (cI, 4, .inl (nF pa5))), (z23, .inl (cI, 4, .inl (nF pb5))), (z24, .inl (cI, 2, .inl (oF he))), (z26, .inl (cI, 18, .inl (nF nd6))), (z27, .inl (cI, 4, .inl (nF le6))), (z28, .inl (cI, 4, .inl (nF rq6))), (z29, .inl (cI, 4, .inl (nF fe6))), (z30, .inl (cI, 4, .inl (nF pk6)))] H → va_D A [(x0, .inr (8, mO ax z1 z2 z3 fc z5 z6 z7 qs z9 z10 z11 z12 z13 hd lg fcn z17 z18 z19 md5 z21 z22 z23 z24 hc z26 z27 z28 z29 z30 z31 sm z33 z34)), (z21, .inl (cI, 4, .inl (nF pp5))), (z22, .inl (cI, 4, .inl (nF pa5))), (z23, .inl (cI, 4, .inl (nF pb5))), (z24, .inl (cI, 2, .inl (oF he))), (z26, .inl (cI, 18, .inl (nF nd6))), (z27, .inl (cI, 4, .inl (nF le6))), (z28, .inl (cI, 4, .inl (nF rq6))), (z29, .inl (cI, 4, .inl (nF fe6))), (z30, .inl (cI, 4, .inl (nF pk6)))] → va_S A s.heap H locs → W p l e (headSpec wkX8_settle rm_c_Model_settle).room s m args below meth c H locs 0 0 Q (F0 m 21 ls []) := by
          intro fu
          induction fu with
          | zero => intro wy nd6 le6 rq6 pk6 ls H locs hmu; exact absurd hmu (Nat.not_lt_zero _)
          | succ fu ih21 =>
            intro wy nd6 le6 rq6 pk6 ls H locs hmu hwy hwk6 hls hl hP hD hS
            refine lv_iload_n hx hb dX8_settle_21 rfl (lv_at hl 0 rfl) ?_
            refine lv_aload_n hx hb dX8_settle_22 rfl (lv_at hl 3 rfl) ?_
            refine lv_iload_n hx hb dX8_settle_23 rfl (lv_at hl 1 rfl) ?_
            refine vp_callSi (va_Run.run (va_runV (As := [.int (nI (k6))]) (rest := [.int (nI (wy))]) ⟨hx, hb, hml, hown, hts⟩ (c_Model_ways l dC dI cI cL cQ cZ x0 ax z1 z2 z3 fc z5 z6 z7 qs z9 z10 z11 z12 z13 hd lg fcn z17 z18 z19 md5 z21 z22 z23 z24 hc z26 z27 z28 z29 z30 z31 sm z33 z34 k6 (show k6 ≤ 4 from by (exact hk6))) (q_cwV 1 hts gkX8_ways kmX8_146 knX8_ways klX8_ways kiX8 rfl rfl rfl (by decide +kernel) ⟨Nat.le_of_ble_eq_true rfl, Nat.le_of_ble_eq_true rfl⟩) (q_preV hK hP [0] rfl 0 (ci := 8) (r := (RX8, TX8, 35)) rfl rfl) rfl rfl hl.1 rfl (lv_room (Nat.le_of_ble_eq_true rfl)) dX8_settle_24 ⟨Nat.zero_le _, Nat.zero_le _⟩)) (fun r4 hr4 => ?_)
            subst hr4
            refine q_top (show (nI (if k6 < 2 then 1 else if k6 = 2 then 2 else if k6 = 3 then 6 else 24)) = (nI (c_ways k6)) from rfl) ?_
            refine q_icmp_ge (x := wy) (y := c_ways k6) (tgt := 130) hx hb dX8_settle_27 (by decide) (by omega) (by omega) (fun c27_5 => ?_) (fun c27_5 => ?_)
            · subst hQ
              subst hAe
              have hP9 := hP.sub (ws' := [(x0, .inr (8, mO ax z1 z2 z3 fc z5 z6 z7 qs z9 z10 z11 z12 z13 hd lg fcn z17 z18 z19 md5 z21 z22 z23 z24 hc z26 z27 z28 z29 z30 z31 sm z33 z34)), (z21, .inl (cI, 4, .inl (nF pp5))), (z22, .inl (cI, 4, .inl (nF pa5))), (z23, .inl (cI, 4, .inl (nF pb5))), (z24, .inl (cI, 2, .inl (oF he))), (z26, .inl (cI, 18, .inl (nF nd6))), (z27, .inl (cI, 4, .inl (nF le6))), (z28, .inl (cI, 4, .inl (nF rq6))), (z29, .inl (cI, 4, .inl (nF fe6))), (z30, .inl (cI, 4, .inl (nF pk6)))]) [0, 1, 2, 3, 4, 5, 6, 7, 8, 9] rfl
              exact W.vret hx hb hr (fun t9 h9 _ => ⟨⟨(md5, pp5, pa5, pb5, nd6, le6, rq6, fe6, pk6), rfl, ⟨(show m_ppk md5 pp5 pa5 pb5 from by (exact hpk5)), (show m_wkk nd6 le6 rq6 fe6 pk6 from by (exact hwk6)), (show ∀ j7, j7 < md5 → le6 j7 < 4096 from by (exact (m_lsw_end (S := c_set pp (m_pv pa pb) md) hk6 hre ko hls (by omega)).1)), (show c_can (c_set pp (m_pv pa pb) md) jn (f_row jn md5 le6) from by (exact (m_lsw_end hk6 hre ko hls (by omega)).2))⟩, by show va_P _ _ _ t9.heap; rw [h9]; exact hP9⟩, hS.F h9⟩) hS.2.2 dX8_settle_130
            · refine lv_aload_n hx hb dX8_settle_30 rfl (lv_at hl 3 rfl) ?_
              refine lv_iload_n hx hb dX8_settle_31 rfl (lv_at hl 1 rfl) ?_
              refine lv_iload_n hx hb dX8_settle_32 rfl (lv_at hl 0 rfl) ?_
              refine q_joinv (wr := [(z21, .inl (cI, 4, .inl (nF pp5))), (z22, .inl (cI, 4, .inl (nF pa5))), (z23, .inl (cI, 4, .inl (nF pb5))), (z27, .inl (cI, 4, .inl (nF le6))), (z28, .inl (cI, 4, .inl (nF rq6)))]) (va_runV (As := [.int (nI (k6)), .int (nI (wy))]) (rest := []) ⟨hx, hb, hml, hown, hts⟩ (c_Model_name l dC dI cI cL cQ cZ x0 ax z1 z2 z3 fc z5 z6 z7 qs z9 z10 z11 z12 z13 hd lg fcn z17 z18 z19 md5 z21 z22 z23 z24 hc z26 z27 z28 z29 z30 z31 sm z33 z34 nd6 he fe6 pk6 k6 wy (show k6 ≤ 4 from by (exact hk6)) (show wy < 24 from by (omega)) (show hc ≤ 2 from by (exact hhc)) (show m_hok he hc from by (exact hhe)) (show ∀ j7, fe6 j7 < 18 from by (exact hfe6)) (show ∀ j7, pk6 j7 < 4 from by (exact hwk6.2.2.2.2)) (show ∀ j7, nd6 j7 < 8 from by (exact hwk6.1))) (q_cwV 2 hts gkX8_name kmX8_149 knX8_name klX8_name kiX8 rfl rfl rfl (by decide +kernel) ⟨Nat.le_of_ble_eq_true rfl, Nat.le_of_ble_eq_true rfl⟩) (q_preVW hK hP hD [0, 5, 4, 8, 9] rfl (by decide) 0 (ci := 8) (r := (RX8, TX8, 35)) rfl rfl) rfl rfl hl.1 rfl (lv_room (Nat.le_of_ble_eq_true rfl)) dX8_settle_33 ⟨Nat.zero_le _, Nat.zero_le _⟩) hP hD hS [0, 5, 4, 8, 9] [1, 2, 3, 6, 7] rfl rfl (by decide) (fun _ => rfl) (fun u9 H locs hq7 hP hD hS => ?_)
              obtain ⟨nd8, pk8⟩ := u9
              have hq7 : (∀ j7, nd8 j7 < 8) ∧ (∀ j7, pk8 j7 < 4) ∧ (nd8 = m_nds (m_nda nd6 (m_h he) hc) fe6 k6 wy k6) := hq7
              obtain ⟨hnd8, hpk8, hnm8⟩ := hq7
              have hlast := hnm8
              have hP : va_P (dC, dI) qCl [(z21, .inl (cI, 4, .inl (nF pp5))), (z22, .inl (cI, 4, .inl (nF pa5))), (z23, .inl (cI, 4, .inl (nF pb5))), (z27, .inl (cI, 4, .inl (nF le6))), (z28, .inl (cI, 4, .inl (nF rq6))), (x0, .inr (8, mO ax z1 z2 z3 fc z5 z6 z7 qs z9 z10 z11 z12 z13 hd lg fcn z17 z18 z19 md5 z21 z22 z23 z24 hc z26 z27 z28 z29 z30 z31 sm z33 z34)), (z26, .inl (cI, 18, .inl (nF nd8))), (z24, .inl (cI, 2, .inl (oF he))), (z29, .inl (cI, 4, .inl (nF fe6))), (z30, .inl (cI, 4, .inl (nF pk8)))] H := hP
              have hD : va_D A [(z21, .inl (cI, 4, .inl (nF pp5))), (z22, .inl (cI, 4, .inl (nF pa5))), (z23, .inl (cI, 4, .inl (nF pb5))), (z27, .inl (cI, 4, .inl (nF le6))), (z28, .inl (cI, 4, .inl (nF rq6))), (x0, .inr (8, mO ax z1 z2 z3 fc z5 z6 z7 qs z9 z10 z11 z12 z13 hd lg fcn z17 z18 z19 md5 z21 z22 z23 z24 hc z26 z27 z28 z29 z30 z31 sm z33 z34)), (z26, .inl (cI, 18, .inl (nF nd8))), (z24, .inl (cI, 2, .inl (oF he))), (z29, .inl (cI, 4, .inl (nF fe6))), (z30, .inl (cI, 4, .inl (nF pk8)))] := hD
              refine lv_aload_n hx hb dX8_settle_36 rfl (lv_at hl 3 rfl) ?_
              refine q_joinv (wr := [(z27, .inl (cI, 4, .inl (nF le6))), (z24, .inl (cI, 2, .inl (oF he))), (z29, .inl (cI, 4, .inl (nF fe6))), (z30, .inl (cI, 4, .inl (nF pk8)))]) (va_runV (As := []) (rest := []) ⟨hx, hb, hml, hown, hts⟩ (c_Model_lay l dC dI cI cL cQ cZ x0 ax z1 z2 z3 fc z5 z6 z7 qs z9 z10 z11 z12 z13 hd lg fcn z17 z18 z19 md5 z21 z22 z23 z24 hc z26 z27 z28 z29 z30 z31 sm z33 z34 pp5 pa5 pb5 nd8 rq6 (show md5 ≤ 4 from by (exact hpk5.1)) (show ∀ j, pp5 j < 64 from by (exact hpk5.2.1)) (show ∀ j, pa5 j < 18 from by (exact hpk5.2.2.1)) (show ∀ j, pb5 j < 18 from by (exact hpk5.2.2.2)) (show ∀ j, nd8 j < 8 from by (exact hnd8)) (show ∀ j, rq6 j < 8192 from by (exact hwk6.2.2.1))) (q_cwV 0 hts gkX8_lay kmX8_153 knX8_lay klX8_lay kiX8 rfl rfl rfl (by decide +kernel) ⟨Nat.le_of_ble_eq_true rfl, Nat.le_of_ble_eq_true rfl⟩) (q_preVW hK hP hD [5, 0, 1, 2, 6, 4] rfl (by decide) 5 (ci := 8) (r := (RX8, TX8, 35)) rfl rfl) rfl rfl hl.1 rfl (lv_room (Nat.le_of_ble_eq_true rfl)) dX8_settle_37 ⟨Nat.zero_le _, Nat.zero_le _⟩) hP hD hS [5, 0, 1, 2, 6, 4] [3, 7, 8, 9] rfl rfl (by decide) (fun _ => rfl) (fun u9 H locs hq9 hP hD hS => ?_)
              obtain ⟨rq8, rfl⟩ : ∃ z, z = u9 := ⟨_, rfl⟩
              have hq9 : (∀ j, rq8 j < 8192) ∧ (f_srt (m_code pp5 pa5 pb5 nd8) rq8 md5) := hq9
              obtain ⟨hrq8, hsr8⟩ := hq9
              have hlast := hsr8
              have hP : va_P (dC, dI) qCl [(z27, .inl (cI, 4, .inl (nF le6))), (z24, .inl (cI, 2, .inl (oF he))), (z29, .inl (cI, 4, .inl (nF fe6))), (z30, .inl (cI, 4, .inl (nF pk8))), (x0, .inr (8, mO ax z1 z2 z3 fc z5 z6 z7 qs z9 z10 z11 z12 z13 hd lg fcn z17 z18 z19 md5 z21 z22 z23 z24 hc z26 z27 z28 z29 z30 z31 sm z33 z34)), (z21, .inl (cI, 4, .inl (nF pp5))), (z22, .inl (cI, 4, .inl (nF pa5))), (z23, .inl (cI, 4, .inl (nF pb5))), (z26, .inl (cI, 18, .inl (nF nd8))), (z28, .inl (cI, 4, .inl (nF rq8)))] H := hP
              have hD : va_D A [(z27, .inl (cI, 4, .inl (nF le6))), (z24, .inl (cI, 2, .inl (oF he))), (z29, .inl (cI, 4, .inl (nF fe6))), (z30, .inl (cI, 4, .inl (nF pk8))), (x0, .inr (8, mO ax z1 z2 z3 fc z5 z6 z7 qs z9 z10 z11 z12 z13 hd lg fcn z17 z18 z19 md5 z21 z22 z23 z24 hc z26 z27 z28 z29 z30 z31 sm z33 z34)), (z21, .inl (cI, 4, .inl (nF pp5))), (z22, .inl (cI, 4, .inl (nF pa5))), (z23, .inl (cI, 4, .inl (nF pb5))), (z26, .inl (cI, 18, .inl (nF nd8))), (z28, .inl (cI, 4, .inl (nF rq8)))] := hD
              have hro := m_rowof (jn := jn) hpk5.1 hh2 hw5 ko hnm8 (m_rest_nd hre) hsr8
              have hr48 := m_code_lt4 hpk5.2.1 hnd8 hsr8
              refine lv_iconst (v := (nI (0))) hx hb dX8_settle_40 (by decide) ?_
              have L83 : ∀ (zb : Int32) (ls : Array Slot) (H : Heap) (locs : List Loc), (m_by zb rq8 le6 md5) → lv_has ls 6 [(3, .int (nI (wy))), (2, .int (nI (k6))), (1, .int (bI (go))), (0, .ref x0), (4, .int (zb))] → va_P (dC, dI) qCl [(z27, .inl (cI, 4, .inl (nF le6))), (z24, .inl (cI, 2, .inl (oF he))), (z29, .inl (cI, 4, .inl (nF fe6))), (z30, .inl (cI, 4, .inl (nF pk8))), (x0, .inr (8, mO ax z1 z2 z3 fc z5 z6 z7 qs z9 z10 z11 z12 z13 hd lg fcn z17 z18 z19 md5 z21 z22 z23 z24 hc z26 z27 z28 z29 z30 z31 sm z33 z34)), (z21, .inl (cI, 4, .inl (nF pp5))), (z22, .inl (cI, 4, .inl (nF pa5))), (z23, .inl (cI, 4, .inl (nF pb5))), (z26, .inl (cI, 18, .inl (nF nd8))), (z28, .inl (cI, 4, .inl (nF rq8)))] H → va_D A [(z27, .inl (cI, 4, .inl (nF le6))), (z24, .inl (cI, 2, .inl (oF he))), (z29, .inl (cI, 4, .inl (nF fe6))), (z30, .inl (cI, 4, .inl (nF pk8))), (x0, .inr (8, mO ax z1 z2 z3 fc z5 z6 z7 qs z9 z10 z11 z12 z13 hd lg fcn z17 z18 z19 md5 z21 z22 z23 z24 hc z26 z27 z28 z29 z30 z31 sm z33 z34)), (z21, .inl (cI, 4, .inl (nF pp5))), (z22, .inl (cI, 4, .inl (nF pa5))), (z23, .inl (cI, 4, .inl (nF pb5))), (z26, .inl (cI, 18, .inl (nF nd8))), (z28, .inl (cI, 4, .inl (nF rq8)))] → va_S A s.heap H locs → W p l e (headSpec wkX8_settle rm_c_Model_settle).room s m args below meth c H locs 0 0 Q (F0 m 83 ls []) := by
                intro zb ls H locs hbf hl hP hD hS
                refine lv_iconst (v := (nI (0))) hx hb dX8_settle_83 (by decide) ?_
                refine lv_istore (lv' := [(5, .int (nI (0))), (3, .int (nI (wy))), (2, .int (nI (k6))), (1, .int (bI (go))), (0, .ref x0), (4, .int (zb))]) hx hb dX8_settle_84 hl (by decide) rfl (fun ls hl => ?_)
                have L86 : ∀ (fu : Nat) (q9 : Nat) (lx : Nat → Nat) (ls : Array Slot) (H : Heap) (locs : List Loc), md5 - q9 < fu → (q9 ≤ md5) → (lx = m_cpl le6 rq8 q9) → (0 < q9 → wy = 0 ∨ zb < 0) → lv_has ls 6 [(5, .int (nI (q9))), (3, .int (nI (wy))), (2, .int (nI (k6))), (1, .int (bI (go))), (0, .ref x0), (4, .int (zb))] → va_P (dC, dI) qCl [(x0, .inr (8, mO ax z1 z2 z3 fc z5 z6 z7 qs z9 z10 z11 z12 z13 hd lg fcn z17 z18 z19 md5 z21 z22 z23 z24 hc z26 z27 z28 z29 z30 z31 sm z33 z34)), (z21, .inl (cI, 4, .inl (nF pp5))), (z22, .inl (cI, 4, .inl (nF pa5))), (z23, .inl (cI, 4, .inl (nF pb5))), (z24, .inl (cI, 2, .inl (oF he))), (z26, .inl (cI, 18, .inl (nF nd8))), (z27, .inl (cI, 4, .inl (nF lx))), (z28, .inl (cI, 4, .inl (nF rq8))), (z29, .inl (cI, 4, .inl (nF fe6))), (z30, .inl (cI, 4, .inl (nF pk8)))] H → va_D A [(x0, .inr (8, mO ax z1 z2 z3 fc z5 z6 z7 qs z9 z10 z11 z12 z13 hd lg fcn z17 z18 z19 md5 z21 z22 z23 z24 hc z26 z27 z28 z29 z30 z31 sm z33 z34)), (z21, .inl (cI, 4, .inl (nF pp5))), (z22, .inl (cI, 4, .inl (nF pa5))), (z23, .inl (cI, 4, .inl (nF pb5))), (z24, .inl (cI, 2, .inl (oF he))), (z26, .inl (cI, 18, .inl (nF nd8))), (z27, .inl (cI, 4, .inl (nF lx))), (z28, .inl (cI, 4, .inl (nF rq8))), (z29, .inl (cI, 4, .inl (nF fe6))), (z30, .inl (cI, 4, .inl (nF pk8)))] → va_S A s.heap H locs → W p l e (headSpec wkX8_settle rm_c_Model_settle).room s m args below meth c H locs 0 0 Q (F0 m 86 ls []) := by
                  intro fu
                  induction fu with
                  | zero => intro q9 lx ls H locs hmu; exact absurd hmu (Nat.not_lt_zero _)
                  | succ fu ih86 =>
                    intro q9 lx ls H locs hmu hq9 hlx hq0 hl hP hD hS
                    refine lv_iload hx hb dX8_settle_86 (lv_at hl 0 rfl) ?_
                    refine lv_aload_n hx hb dX8_settle_88 rfl (lv_at hl 4 rfl) ?_
                    refine va_get (D := (dC, dI)) (ci := 8) (v := .int (nI (md5))) (C := RX8) (T := TX8) (N := 35) hx hb hts uX8 hown hK hP 0 rfl rfl 20 (by decide) (hts _ kfX8_121) (fun _ h9 => h9) rfl dX8_settle_89 ?_
                    refine q_icmp_ge (x := q9) (y := md5) (tgt := 124) hx hb dX8_settle_92 (by decide) (by omega) (by omega) (fun c92_10 => ?_) (fun c92_10 => ?_)
                    · have ea11 : (lx) = m_cpl le6 rq8 q9 := by (exact hlx)
                      rw [ea11] at hP hD
                      have hP : va_P (dC, dI) qCl [(x0, .inr (8, mO ax z1 z2 z3 fc z5 z6 z7 qs z9 z10 z11 z12 z13 hd lg fcn z17 z18 z19 md5 z21 z22 z23 z24 hc z26 z27 z28 z29 z30 z31 sm z33 z34)), (z21, .inl (cI, 4, .inl (nF pp5))), (z22, .inl (cI, 4, .inl (nF pa5))), (z23, .inl (cI, 4, .inl (nF pb5))), (z24, .inl (cI, 2, .inl (oF he))), (z26, .inl (cI, 18, .inl (nF nd8))), (z27, .inl (cI, 4, .inl (nF (m_cpl le6 rq8 q9)))), (z28, .inl (cI, 4, .inl (nF rq8))), (z29, .inl (cI, 4, .inl (nF fe6))), (z30, .inl (cI, 4, .inl (nF pk8)))] H := hP
                      have hD : va_D A [(x0, .inr (8, mO ax z1 z2 z3 fc z5 z6 z7 qs z9 z10 z11 z12 z13 hd lg fcn z17 z18 z19 md5 z21 z22 z23 z24 hc z26 z27 z28 z29 z30 z31 sm z33 z34)), (z21, .inl (cI, 4, .inl (nF pp5))), (z22, .inl (cI, 4, .inl (nF pa5))), (z23, .inl (cI, 4, .inl (nF pb5))), (z24, .inl (cI, 2, .inl (oF he))), (z26, .inl (cI, 18, .inl (nF nd8))), (z27, .inl (cI, 4, .inl (nF (m_cpl le6 rq8 q9)))), (z28, .inl (cI, 4, .inl (nF rq8))), (z29, .inl (cI, 4, .inl (nF fe6))), (z30, .inl (cI, 4, .inl (nF pk8)))] := hD
                      refine lv_iinc (v := (nI (wy + 1))) (lv' := [(3, .int (nI (wy + 1))), (5, .int (nI (q9))), (2, .int (nI (k6))), (1, .int (bI (go))), (0, .ref x0), (4, .int (zb))]) hx hb dX8_settle_124 hl (k := 1) rfl (q_inc _) (by decide) rfl (fun ls hl => ?_)
                      refine lv_goto (tgt := 21) hx hb dX8_settle_127 (by decide) ?_
                      exact ih21 (wy + 1) nd8 (m_cpl le6 rq8 q9) rq8 pk8 ls _ _ (by omega) (show (wy + 1) ≤ c_ways k6 from by omega) (show m_wkk nd8 (m_cpl le6 rq8 q9) rq8 fe6 pk8 from by (exact ⟨hnd8, m_cpl_lt hwk6.2.1 hrq8, hrq8, hfe6, hpk8⟩)) (show m_lsw (c_set pp5 (m_pv pa5 pb5) md5) jn fe6 k6 md5 (m_cpl le6 rq8 q9) (wy + 1) from by (exact m_lsw_s hrq8 hwk6.2.1 hr48 ko hls hro.1 hro.2 hbf (show q9 ≤ md5 by omega) hq0 (by first | exact Or.inl (by omega) | (exact Or.inr (fun h9 => by rcases h9 with h9 | h9; omega; exact absurd h9 (Int32.not_lt.mpr (by assumption))))))) (lv_sub hl [0, 2, 3, 4] rfl) (hP.sub [0, 1, 2, 3, 4, 5, 6, 7, 8, 9] rfl) (hD.sub [0, 1, 2, 3, 4, 5, 6, 7, 8, 9] (by decide) rfl) hS
                    · refine lv_iload_n hx hb dX8_settle_95 rfl (lv_at hl 1 rfl) ?_
                      refine q_if_eq (x := wy) (tgt := 104) hx hb dX8_settle_96 (by decide) (by omega) (fun c96_12 => ?_) (fun c96_12 => ?_)
                      · refine lv_aload_n hx hb dX8_settle_104 rfl (lv_at hl 4 rfl) ?_
                        refine va_get (D := (dC, dI)) (ci := 8) (v := .ref z27) (C := RX8) (T := TX8) (N := 35) hx hb hts uX8 hown hK hP 0 rfl rfl 27 (by decide) (hts _ kfX8_71) (fun _ h9 => h9) rfl dX8_settle_105 ?_
                        refine lv_iload hx hb dX8_settle_108 (lv_at hl 0 rfl) ?_
                        refine lv_aload_n hx hb dX8_settle_110 rfl (lv_at hl 4 rfl) ?_
                        refine va_get (D := (dC, dI)) (ci := 8) (v := .ref z28) (C := RX8) (T := TX8) (N := 35) hx hb hts uX8 hown hK hP 0 rfl rfl 28 (by decide) (hts _ kfX8_74) (fun _ h9 => h9) rfl dX8_settle_111 ?_
                        refine lv_iload hx hb dX8_settle_114 (lv_at hl 0 rfl) ?_
                        refine q_ialdN hx hb hK hP 7 0 rfl rfl (j := q9) (by omega) (by omega) dX8_settle_116 ?_
                        have bd13 := hrq8 q9
                        refine q_iastN hx hb hK hP hD hS 6 0 rfl rfl (j := q9) (x := rq8 q9) (by omega) (by omega) dX8_settle_117 (fun H locs hP hD hS => ?_)
                        have hP : va_P (dC, dI) qCl [(x0, .inr (8, mO ax z1 z2 z3 fc z5 z6 z7 qs z9 z10 z11 z12 z13 hd lg fcn z17 z18 z19 md5 z21 z22 z23 z24 hc z26 z27 z28 z29 z30 z31 sm z33 z34)), (z21, .inl (cI, 4, .inl (nF pp5))), (z22, .inl (cI, 4, .inl (nF pa5))), (z23, .inl (cI, 4, .inl (nF pb5))), (z24, .inl (cI, 2, .inl (oF he))), (z26, .inl (cI, 18, .inl (nF nd8))), (z27, .inl (cI, 4, .inl (nF (va_up lx q9 (rq8 q9))))), (z28, .inl (cI, 4, .inl (nF rq8))), (z29, .inl (cI, 4, .inl (nF fe6))), (z30, .inl (cI, 4, .inl (nF pk8)))] H := hP
                        have hD : va_D A [(x0, .inr (8, mO ax z1 z2 z3 fc z5 z6 z7 qs z9 z10 z11 z12 z13 hd lg fcn z17 z18 z19 md5 z21 z22 z23 z24 hc z26 z27 z28 z29 z30 z31 sm z33 z34)), (z21, .inl (cI, 4, .inl (nF pp5))), (z22, .inl (cI, 4, .inl (nF pa5))), (z23, .inl (cI, 4, .inl (nF pb5))), (z24, .inl (cI, 2, .inl (oF he))), (z26, .inl (cI, 18, .inl (nF nd8))), (z27, .inl (cI, 4, .inl (nF (va_up lx q9 (rq8 q9))))), (z28, .inl (cI, 4, .inl (nF rq8))), (z29, .inl (cI, 4, .inl (nF fe6))), (z30, .inl (cI, 4, .inl (nF pk8)))] := hD
                        refine lv_iinc (v := (nI (q9 + 1))) (lv' := [(5, .int (nI (q9 + 1))), (3, .int (nI (wy))), (2, .int (nI (k6))), (1, .int (bI (go))), (0, .ref x0), (4, .int (zb))]) hx hb dX8_settle_118 hl (k := 0) rfl (q_inc _) (by decide) rfl (fun ls hl => ?_)
                        refine lv_goto (tgt := 86) hx hb dX8_settle_121 (by decide) ?_
                        exact ih86 (q9 + 1) (va_up lx q9 (rq8 q9)) ls _ _ (by omega) (show (q9 + 1) ≤ md5 from by omega) (show (va_up lx q9 (rq8 q9)) = m_cpl le6 rq8 (q9 + 1) from by (rw [hlx]; exact m_cpl_s _ _ _)) (show 0 < (q9 + 1) → wy = 0 ∨ zb < 0 from by (intro _; first | exact Or.inl (by omega) | exact Or.inr (Int32.not_le.mp (by assumption)))) (lv_sub hl [0, 1, 2, 3, 4, 5] rfl) (hP.sub [0, 1, 2, 3, 4, 5, 6, 7, 8, 9] rfl) (hD.sub [0, 1, 2, 3, 4, 5, 6, 7, 8, 9] (by decide) rfl) hS
                      · refine lv_iload hx hb dX8_settle_99 (lv_at hl 5 rfl) ?_
                        refine lv_if_ge (tgt := 124) hx hb dX8_settle_101 (by decide) (fun c101_14 => ?_) (fun c101_14 => ?_)
                        · have ea15 : (lx) = m_cpl le6 rq8 q9 := by (exact hlx)
                          rw [ea15] at hP hD
                          have hP : va_P (dC, dI) qCl [(x0, .inr (8, mO ax z1 z2 z3 fc z5 z6 z7 qs z9 z10 z11 z12 z13 hd lg fcn z17 z18 z19 md5 z21 z22 z23 z24 hc z26 z27 z28 z29 z30 z31 sm z33 z34)), (z21, .inl (cI, 4, .inl (nF pp5))), (z22, .inl (cI, 4, .inl (nF pa5))), (z23, .inl (cI, 4, .inl (nF pb5))), (z24, .inl (cI, 2, .inl (oF he))), (z26, .inl (cI, 18, .inl (nF nd8))), (z27, .inl (cI, 4, .inl (nF (m_cpl le6 rq8 q9)))), (z28, .inl (cI, 4, .inl (nF rq8))), (z29, .inl (cI, 4, .inl (nF fe6))), (z30, .inl (cI, 4, .inl (nF pk8)))] H := hP
                          have hD : va_D A [(x0, .inr (8, mO ax z1 z2 z3 fc z5 z6 z7 qs z9 z10 z11 z12 z13 hd lg fcn z17 z18 z19 md5 z21 z22 z23 z24 hc z26 z27 z28 z29 z30 z31 sm z33 z34)), (z21, .inl (cI, 4, .inl (nF pp5))), (z22, .inl (cI, 4, .inl (nF pa5))), (z23, .inl (cI, 4, .inl (nF pb5))), (z24, .inl (cI, 2, .inl (oF he))), (z26, .inl (cI, 18, .inl (nF nd8))), (z27, .inl (cI, 4, .inl (nF (m_cpl le6 rq8 q9)))), (z28, .inl (cI, 4, .inl (nF rq8))), (z29, .inl (cI, 4, .inl (nF fe6))), (z30, .inl (cI, 4, .inl (nF pk8)))] := hD
                          refine lv_iinc (v := (nI (wy + 1))) (lv' := [(3, .int (nI (wy + 1))), (5, .int (nI (q9))), (2, .int (nI (k6))), (1, .int (bI (go))), (0, .ref x0), (4, .int (zb))]) hx hb dX8_settle_124 hl (k := 1) rfl (q_inc _) (by decide) rfl (fun ls hl => ?_)
                          refine lv_goto (tgt := 21) hx hb dX8_settle_127 (by decide) ?_
                          exact ih21 (wy + 1) nd8 (m_cpl le6 rq8 q9) rq8 pk8 ls _ _ (by omega) (show (wy + 1) ≤ c_ways k6 from by omega) (show m_wkk nd8 (m_cpl le6 rq8 q9) rq8 fe6 pk8 from by (exact ⟨hnd8, m_cpl_lt hwk6.2.1 hrq8, hrq8, hfe6, hpk8⟩)) (show m_lsw (c_set pp5 (m_pv pa5 pb5) md5) jn fe6 k6 md5 (m_cpl le6 rq8 q9) (wy + 1) from by (exact m_lsw_s hrq8 hwk6.2.1 hr48 ko hls hro.1 hro.2 hbf (show q9 ≤ md5 by omega) hq0 (by first | exact Or.inl (by omega) | (exact Or.inr (fun h9 => by rcases h9 with h9 | h9; omega; exact absurd h9 (Int32.not_lt.mpr (by assumption))))))) (lv_sub hl [0, 2, 3, 4] rfl) (hP.sub [0, 1, 2, 3, 4, 5, 6, 7, 8, 9] rfl) (hD.sub [0, 1, 2, 3, 4, 5, 6, 7, 8, 9] (by decide) rfl) hS
                        · refine lv_aload_n hx hb dX8_settle_104 rfl (lv_at hl 4 rfl) ?_
                          refine va_get (D := (dC, dI)) (ci := 8) (v := .ref z27) (C := RX8) (T := TX8) (N := 35) hx hb hts uX8 hown hK hP 0 rfl rfl 27 (by decide) (hts _ kfX8_71) (fun _ h9 => h9) rfl dX8_settle_105 ?_
                          refine lv_iload hx hb dX8_settle_108 (lv_at hl 0 rfl) ?_
                          refine lv_aload_n hx hb dX8_settle_110 rfl (lv_at hl 4 rfl) ?_
                          refine va_get (D := (dC, dI)) (ci := 8) (v := .ref z28) (C := RX8) (T := TX8) (N := 35) hx hb hts uX8 hown hK hP 0 rfl rfl 28 (by decide) (hts _ kfX8_74) (fun _ h9 => h9) rfl dX8_settle_111 ?_
                          refine lv_iload hx hb dX8_settle_114 (lv_at hl 0 rfl) ?_
                          refine q_ialdN hx hb hK hP 7 0 rfl rfl (j := q9) (by omega) (by omega) dX8_settle_116 ?_
                          have bd16 := hrq8 q9
                          refine q_iastN hx hb hK hP hD hS 6 0 rfl rfl (j := q9) (x := rq8 q9) (by omega) (by omega) dX8_settle_117 (fun H locs hP hD hS => ?_)
                          have hP : va_P (dC, dI) qCl [(x0, .inr (8, mO ax z1 z2 z3 fc z5 z6 z7 qs z9 z10 z11 z12 z13 hd lg fcn z17 z18 z19 md5 z21 z22 z23 z24 hc z26 z27 z28 z29 z30 z31 sm z33 z34)), (z21, .inl (cI, 4, .inl (nF pp5))), (z22, .inl (cI, 4, .inl (nF pa5))), (z23, .inl (cI, 4, .inl (nF pb5))), (z24, .inl (cI, 2, .inl (oF he))), (z26, .inl (cI, 18, .inl (nF nd8))), (z27, .inl (cI, 4, .inl (nF (va_up lx q9 (rq8 q9))))), (z28, .inl (cI, 4, .inl (nF rq8))), (z29, .inl (cI, 4, .inl (nF fe6))), (z30, .inl (cI, 4, .inl (nF pk8)))] H := hP
                          have hD : va_D A [(x0, .inr (8, mO ax z1 z2 z3 fc z5 z6 z7 qs z9 z10 z11 z12 z13 hd lg fcn z17 z18 z19 md5 z21 z22 z23 z24 hc z26 z27 z28 z29 z30 z31 sm z33 z34)), (z21, .inl (cI, 4, .inl (nF pp5))), (z22, .inl (cI, 4, .inl (nF pa5))), (z23, .inl (cI, 4, .inl (nF pb5))), (z24, .inl (cI, 2, .inl (oF he))), (z26, .inl (cI, 18, .inl (nF nd8))), (z27, .inl (cI, 4, .inl (nF (va_up lx q9 (rq8 q9))))), (z28, .inl (cI, 4, .inl (nF rq8))), (z29, .inl (cI, 4, .inl (nF fe6))), (z30, .inl (cI, 4, .inl (nF pk8)))] := hD
                          refine lv_iinc (v := (nI (q9 + 1))) (lv' := [(5, .int (nI (q9 + 1))), (3, .int (nI (wy))), (2, .int (nI (k6))), (1, .int (bI (go))), (0, .ref x0), (4, .int (zb))]) hx hb dX8_settle_118 hl (k := 0) rfl (q_inc _) (by decide) rfl (fun ls hl => ?_)
                          refine lv_goto (tgt := 86) hx hb dX8_settle_121 (by decide) ?_
                          exact ih86 (q9 + 1) (va_up lx q9 (rq8 q9)) ls _ _ (by omega) (show (q9 + 1) ≤ md5 from by omega) (show (va_up lx q9 (rq8 q9)) = m_cpl le6 rq8 (q9 + 1) from by (rw [hlx]; exact m_cpl_s _ _ _)) (show 0 < (q9 + 1) → wy = 0 ∨ zb < 0 from by (intro _; first | exact Or.inl (by omega) | exact Or.inr (Int32.not_le.mp (by assumption)))) (lv_sub hl [0, 1, 2, 3, 4, 5] rfl) (hP.sub [0, 1, 2, 3, 4, 5, 6, 7, 8, 9] rfl) (hD.sub [0, 1, 2, 3, 4, 5, 6, 7, 8, 9] (by decide) rfl) hS
                exact L86 _ 0 le6 ls _ _ (by exact Nat.lt_succ_self _) (show 0 ≤ md5 from by omega) (show le6 = m_cpl le6 rq8 0 from by (exact (m_cpl_0 _ _).symm)) (show 0 < 0 → wy = 0 ∨ zb < 0 from by (intro h; omega)) (lv_sub hl [0, 1, 2, 3, 4, 5] rfl) (hP.sub [4, 5, 6, 7, 1, 8, 0, 9, 2, 3] rfl) (hD.sub [4, 5, 6, 7, 1, 8, 0, 9, 2, 3] (by decide) rfl) hS
              refine lv_istore (lv' := [(4, .int (nI (0))), (3, .int (nI (wy))), (2, .int (nI (k6))), (1, .int (bI (go))), (0, .ref x0)]) hx hb dX8_settle_41 hl (by decide) rfl (fun ls hl => ?_)
              refine lv_iconst (v := (nI (0))) hx hb dX8_settle_43 (by decide) ?_
              refine lv_istore (lv' := [(5, .int (nI (0))), (4, .int (nI (0))), (3, .int (nI (wy))), (2, .int (nI (k6))), (1, .int (bI (go))), (0, .ref x0)]) hx hb dX8_settle_44 hl (by decide) rfl (fun ls hl => ?_)
              have L46 : ∀ (fu : Nat) (zb : Int32) (k : Nat) (ls : Array Slot) (H : Heap) (locs : List Loc), md5 - k < fu → (k ≤ md5) → (m_by zb rq8 le6 k) → lv_has ls 6 [(5, .int (nI (k))), (4, .int (zb)), (3, .int (nI (wy))), (2, .int (nI (k6))), (1, .int (bI (go))), (0, .ref x0)] → va_P (dC, dI) qCl [(z27, .inl (cI, 4, .inl (nF le6))), (z24, .inl (cI, 2, .inl (oF he))), (z29, .inl (cI, 4, .inl (nF fe6))), (z30, .inl (cI, 4, .inl (nF pk8))), (x0, .inr (8, mO ax z1 z2 z3 fc z5 z6 z7 qs z9 z10 z11 z12 z13 hd lg fcn z17 z18 z19 md5 z21 z22 z23 z24 hc z26 z27 z28 z29 z30 z31 sm z33 z34)), (z21, .inl (cI, 4, .inl (nF pp5))), (z22, .inl (cI, 4, .inl (nF pa5))), (z23, .inl (cI, 4, .inl (nF pb5))), (z26, .inl (cI, 18, .inl (nF nd8))), (z28, .inl (cI, 4, .inl (nF rq8)))] H → va_D A [(z27, .inl (cI, 4, .inl (nF le6))), (z24, .inl (cI, 2, .inl (oF he))), (z29, .inl (cI, 4, .inl (nF fe6))), (z30, .inl (cI, 4, .inl (nF pk8))), (x0, .inr (8, mO ax z1 z2 z3 fc z5 z6 z7 qs z9 z10 z11 z12 z13 hd lg fcn z17 z18 z19 md5 z21 z22 z23 z24 hc z26 z27 z28 z29 z30 z31 sm z33 z34)), (z21, .inl (cI, 4, .inl (nF pp5))), (z22, .inl (cI, 4, .inl (nF pa5))), (z23, .inl (cI, 4, .inl (nF pb5))), (z26, .inl (cI, 18, .inl (nF nd8))), (z28, .inl (cI, 4, .inl (nF rq8)))] → va_S A s.heap H locs → W p l e (headSpec wkX8_settle rm_c_Model_settle).room s m args below meth c H locs 0 0 Q (F0 m 46 ls []) := by
                intro fu
                induction fu with
                | zero => intro zb k ls H locs hmu; exact absurd hmu (Nat.not_lt_zero _)
                | succ fu ih46 =>
                  intro zb k ls H locs hmu hk hb9 hl hP hD hS
                  refine lv_iload hx hb dX8_settle_46 (lv_at hl 0 rfl) ?_
                  refine lv_aload_n hx hb dX8_settle_48 rfl (lv_at hl 5 rfl) ?_
                  refine va_get (D := (dC, dI)) (ci := 8) (v := .int (nI (md5))) (C := RX8) (T := TX8) (N := 35) hx hb hts uX8 hown hK hP 4 rfl rfl 20 (by decide) (hts _ kfX8_121) (fun _ h9 => h9) rfl dX8_settle_49 ?_
                  refine q_icmp_ge (x := k) (y := md5) (tgt := 83) hx hb dX8_settle_52 (by decide) (by omega) (by omega) (fun c52_17 => ?_) (fun c52_17 => ?_)
                  · exact L83 zb ls _ _ (show m_by zb rq8 le6 md5 from by (first | exact m_by_x hb9 (by omega) (Or.inl (by omega)) | exact m_by_x hb9 (by omega) (Or.inr (by simpa using ‹_›)))) (lv_sub hl [2, 3, 4, 5, 1] rfl) (hP.sub [0, 1, 2, 3, 4, 5, 6, 7, 8, 9] rfl) (hD.sub [0, 1, 2, 3, 4, 5, 6, 7, 8, 9] (by decide) rfl) hS
                  · refine lv_iload hx hb dX8_settle_55 (lv_at hl 1 rfl) ?_
                    refine lv_if_ne (tgt := 83) hx hb dX8_settle_57 (by decide) (fun c57_18 => ?_) (fun c57_18 => ?_)
                    · exact L83 zb ls _ _ (show m_by zb rq8 le6 md5 from by (first | exact m_by_x hb9 (by omega) (Or.inl (by omega)) | exact m_by_x hb9 (by omega) (Or.inr (by simpa using ‹_›)))) (lv_sub hl [2, 3, 4, 5, 1] rfl) (hP.sub [0, 1, 2, 3, 4, 5, 6, 7, 8, 9] rfl) (hD.sub [0, 1, 2, 3, 4, 5, 6, 7, 8, 9] (by decide) rfl) hS
                    · refine lv_aload_n hx hb dX8_settle_60 rfl (lv_at hl 5 rfl) ?_
                      refine va_get (D := (dC, dI)) (ci := 8) (v := .ref z28) (C := RX8) (T := TX8) (N := 35) hx hb hts uX8 hown hK hP 4 rfl rfl 28 (by decide) (hts _ kfX8_74) (fun _ h9 => h9) rfl dX8_settle_61 ?_
                      refine lv_iload hx hb dX8_settle_64 (lv_at hl 0 rfl) ?_
                      refine q_ialdN hx hb hK hP 9 0 rfl rfl (j := k) (by omega) (by omega) dX8_settle_66 ?_
                      have bd19 := hrq8 k
                      refine lv_aload_n hx hb dX8_settle_67 rfl (lv_at hl 5 rfl) ?_
                      refine va_get (D := (dC, dI)) (ci := 8) (v := .ref z27) (C := RX8) (T := TX8) (N := 35) hx hb hts uX8 hown hK hP 4 rfl rfl 27 (by decide) (hts _ kfX8_71) (fun _ h9 => h9) rfl dX8_settle_68 ?_
                      refine lv_iload hx hb dX8_settle_71 (lv_at hl 0 rfl) ?_
                      refine q_ialdN hx hb hK hP 0 0 rfl rfl (j := k) (by omega) (by omega) dX8_settle_73 ?_
                      have bd20 := hwk6.2.1 k
                      refine lv_isub hx hb dX8_settle_74 ?_
                      refine lv_istore (lv' := [(4, .int ((nI (rq8 k)) - (nI (le6 k)))), (5, .int (nI (k))), (3, .int (nI (wy))), (2, .int (nI (k6))), (1, .int (bI (go))), (0, .ref x0)]) hx hb dX8_settle_75 hl (by decide) rfl (fun ls hl => ?_)
                      refine lv_iinc (v := (nI (k + 1))) (lv' := [(5, .int (nI (k + 1))), (4, .int ((nI (rq8 k)) - (nI (le6 k)))), (3, .int (nI (wy))), (2, .int (nI (k6))), (1, .int (bI (go))), (0, .ref x0)]) hx hb dX8_settle_77 hl (k := 1) rfl (q_inc _) (by decide) rfl (fun ls hl => ?_)
                      refine lv_goto (tgt := 46) hx hb dX8_settle_80 (by decide) ?_
                      exact ih46 ((nI (rq8 k)) - (nI (le6 k))) (k + 1) ls _ _ (by omega) (show (k + 1) ≤ md5 from by omega) (show m_by ((nI (rq8 k)) - (nI (le6 k))) rq8 le6 (k + 1) from by (exact m_by_s hrq8 hwk6.2.1 hb9 (by simpa using ‹_›))) (lv_sub hl [0, 1, 2, 3, 4, 5] rfl) (hP.sub [0, 1, 2, 3, 4, 5, 6, 7, 8, 9] rfl) (hD.sub [0, 1, 2, 3, 4, 5, 6, 7, 8, 9] (by decide) rfl) hS
              exact L46 _ (nI (0)) 0 ls _ _ (by exact Nat.lt_succ_self _) (show 0 ≤ md5 from by omega) (show m_by (nI (0)) rq8 le6 0 from by (exact m_by_0 _ _)) (lv_sub hl [0, 1, 2, 3, 4, 5] rfl) (hP.sub [0, 1, 2, 3, 4, 5, 6, 7, 8, 9] rfl) (hD.sub [0, 1, 2, 3, 4, 5, 6, 7, 8, 9] (by decide) rfl) hS
        exact L21 _ 0 nd le rq pk ls _ _ (by exact Nat.lt_succ_self _) (show 0 ≤ c_ways k6 from by omega) (show m_wkk nd le rq fe6 pk from by (exact ⟨hwk.1, hwk.2.1, hwk.2.2.1, hfe6, hwk.2.2.2.2⟩)) (show m_lsw (c_set pp5 (m_pv pa5 pb5) md5) jn fe6 k6 md5 le 0 from by (exact Or.inl rfl)) (lv_sub hl [0, 1, 2, 3] rfl) (hP.sub [4, 5, 6, 7, 8, 0, 1, 2, 9, 3] rfl) (hD.sub [4, 5, 6, 7, 8, 0, 1, 2, 9, 3] (by decide) rfl) hS
      · refine lv_aload_n hx hb dX8_settle_6 rfl (lv_at hl 1 rfl) ?_
        refine q_joini (wr := [(z26, .inl (cI, 18, .inl (nF nd))), (z27, .inl (cI, 4, .inl (nF le))), (z28, .inl (cI, 4, .inl (nF rq))), (z29, .inl (cI, 4, .inl (nF fe))), (z30, .inl (cI, 4, .inl (nF pk)))]) (va_runV (As := []) (rest := []) ⟨hx, hb, hml, hown, hts⟩ (c_Model_lessen l dC dI cI cL cQ cZ x0 ax z1 z2 z3 fc z5 z6 z7 qs z9 z10 z11 z12 z13 hd lg fcn z17 z18 z19 md5 z21 z22 z23 z24 hc z26 z27 z28 z29 z30 z31 sm z33 z34 pp5 pa5 pb5 he (show md5 ≤ 4 from by (exact hpk5.1)) (show ∀ j, pp5 j < 64 from by (exact hpk5.2.1)) (show ∀ j, pa5 j < 18 from by (exact hpk5.2.2.1)) (show ∀ j, pb5 j < 18 from by (exact hpk5.2.2.2)) (show hc ≤ 2 from by (exact hhc)) (show m_hok he hc from by (exact hhe))) (q_cwV 0 hts gkX8_lessen kmX8_138 knX8_lessen klX8_lessen kiX8 rfl rfl rfl (by decide +kernel) ⟨Nat.le_of_ble_eq_true rfl, Nat.le_of_ble_eq_true rfl⟩) (q_preVW hK hP hD [0, 1, 2, 3, 4] rfl (by decide) 0 (ci := 8) (r := (RX8, TX8, 35)) rfl rfl) rfl rfl hl.1 rfl (lv_room (Nat.le_of_ble_eq_true rfl)) dX8_settle_7 ⟨Nat.zero_le _, Nat.zero_le _⟩) hP hD hS [0, 1, 2, 3, 4] [5, 6, 7, 8, 9] rfl rfl (by decide) (fun _ => rfl) (fun r21 u9 H locs hq22 hP hD hS => ?_)
        obtain ⟨bl, md8, pp8, pa8, pb8⟩ := u9
        have hq22 : (r21 = (bI (bl))) ∧ (m_less pp5 pa5 pb5 (m_h he) md5 hc bl md8 pp8 pa8 pb8) := hq22
        obtain ⟨er21, hle8⟩ := hq22
        have hlast := hle8
        subst er21
        have hP : va_P (dC, dI) qCl [(z26, .inl (cI, 18, .inl (nF nd))), (z27, .inl (cI, 4, .inl (nF le))), (z28, .inl (cI, 4, .inl (nF rq))), (z29, .inl (cI, 4, .inl (nF fe))), (z30, .inl (cI, 4, .inl (nF pk))), (x0, .inr (8, mO ax z1 z2 z3 fc z5 z6 z7 qs z9 z10 z11 z12 z13 hd lg fcn z17 z18 z19 md8 z21 z22 z23 z24 hc z26 z27 z28 z29 z30 z31 sm z33 z34)), (z21, .inl (cI, 4, .inl (nF pp8))), (z22, .inl (cI, 4, .inl (nF pa8))), (z23, .inl (cI, 4, .inl (nF pb8))), (z24, .inl (cI, 2, .inl (oF he)))] H := hP
        have hD : va_D A [(z26, .inl (cI, 18, .inl (nF nd))), (z27, .inl (cI, 4, .inl (nF le))), (z28, .inl (cI, 4, .inl (nF rq))), (z29, .inl (cI, 4, .inl (nF fe))), (z30, .inl (cI, 4, .inl (nF pk))), (x0, .inr (8, mO ax z1 z2 z3 fc z5 z6 z7 qs z9 z10 z11 z12 z13 hd lg fcn z17 z18 z19 md8 z21 z22 z23 z24 hc z26 z27 z28 z29 z30 z31 sm z33 z34)), (z21, .inl (cI, 4, .inl (nF pp8))), (z22, .inl (cI, 4, .inl (nF pa8))), (z23, .inl (cI, 4, .inl (nF pb8))), (z24, .inl (cI, 2, .inl (oF he)))] := hD
        obtain ⟨ms1, hms1, hlp1⟩ := m_lp_s (m_hd6 hh2) (m_wf_fok hhj hfo9) hlp (by assumption) hle8
        refine lv_istore_n (lv' := [(1, .int (bI (bl))), (0, .ref x0)]) hx hb dX8_settle_10 rfl hl (by decide) rfl (fun ls hl => ?_)
        refine lv_goto (tgt := 2) hx hb dX8_settle_11 (by decide) ?_
        exact ih2 bl md8 pp8 pa8 pb8 ms1 ls _ _ (by omega) (show m_ppk md8 pp8 pa8 pb8 from by (exact m_less_k hpk5 hle8)) (show m_lp (m_h he) hc pp (m_pv pa pb) md pp8 pa8 pb8 md8 ms1 bl from by (exact hlp1)) (lv_sub hl [0, 1] rfl) (hP.sub [5, 6, 7, 8, 9, 0, 1, 2, 3, 4] rfl) (hD.sub [5, 6, 7, 8, 9, 0, 1, 2, 3, 4] (by decide) rfl) hS
  exact L2 _ true md pp pa pb (3 * md) ls _ _ (by exact Nat.lt_succ_self _) (show m_ppk md pp pa pb from by (exact hpk)) (show m_lp (m_h he) hc pp (m_pv pa pb) md pp pa pb md (3 * md) true from by (exact m_lp_0 _ _ _ _ _ _)) (lv_sub hl [0, 1] rfl) (hP.sub [0, 1, 2, 3, 4, 5, 6, 7, 8, 9] rfl) (hD.sub [0, 1, 2, 3, 4, 5, 6, 7, 8, 9] (by decide) rfl) hS
