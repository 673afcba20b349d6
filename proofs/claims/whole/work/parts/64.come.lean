theorem m_cm_keep {hc : Nat} {zs cs zs1 cs1 : Nat → Nat} {hs hs1 : Nat → Option Nat} {n n1 w : Nat} {lg lg1 : Bool} (h : m_cm hc zs cs hs n lg w zs1 cs1 hs1 n1 lg1) : n ≤ n1 ∧ ∀ f, f < n → m_rw zs1 cs1 hs1 f = m_rw zs cs hs f := by
  have e := congrArg Prod.fst h.2
  have hpre : ∃ t, cq_of (m_rw zs1 cs1 hs1) n1 = cq_of (m_rw zs cs hs) n ++ t := by
    rw [show (cq_of (m_rw zs1 cs1 hs1) n1, lg1).1 = cq_of (m_rw zs1 cs1 hs1) n1 from rfl] at e
    rw [e]
    unfold b_come
    split
    · exact ⟨[], (List.append_nil _).symm⟩
    · split
      · exact ⟨[], (List.append_nil _).symm⟩
      · exact ⟨[w], rfl⟩
  obtain ⟨t, ht⟩ := hpre
  have hl := congrArg List.length ht
  rw [List.length_append, cq_len, cq_len] at hl
  refine ⟨by omega, fun f hf => ?_⟩
  have h1 := cq_getD (m_rw zs1 cs1 hs1) (show f < n1 by omega)
  have h2 := cq_getD (m_rw zs cs hs) hf
  rw [← h1, ← h2, ht, List.getD_eq_getElem?_getD, List.getD_eq_getElem?_getD, List.getElem?_append_left (by rw [cq_len]; exact hf)]
theorem m_frm_n {hc f : Nat} {zs cs : Nat → Nat} {hs : Nat → Option Nat} (h : m_frm hc zs cs hs f) : d_n (m_rw zs cs hs f) = zs f := (d_row h.1 h.2.1).1
theorem m_put_same {n k q a b : Nat} {pp pa pb : Nat → Nat} : f_same n (va_up pp k q) (m_pv (va_up pa k a) (va_up pb k b)) (va_up pp k q) (f_put (m_pv pa pb) k a b) := f_same_at (fun j hj => by
  rw [f_at_put, m_at, m_at]
  by_cases e : j = k
  · rw [if_pos e, e, up_s, up_s, up_s]
  · rw [if_neg e, up_n _ _ e, up_n _ _ e, up_n _ _ e])
theorem f_same_tr {n : Nat} {nm pl nm' pl' nm2 pl2 : Nat → Nat} (h : f_same n nm pl nm' pl') (h2 : f_same n nm' pl' nm2 pl2) : f_same n nm pl nm2 pl2 := fun j hj => by
  obtain ⟨a, b, c⟩ := h j hj
  obtain ⟨d, e, f⟩ := h2 j hj
  exact ⟨a.trans d, b.trans e, c.trans f⟩
theorem m_rep_go {hc : Nat} {kd lf rg pp pa pb pp1 pa1 pb1 : Nat → Nat} {r i x : Nat} {b : Bool} {s : List Nat × Bool} (hs : f_same (d_n r) pp (m_pv pa pb) (d_nm r) (d_pl r)) (hr : c_rok hc r) (hi : i < d_n r) (hax : m_axn (kd x) (lf x) (rg x)) (h : m_rpl (f_rw (kd x) (lf x) (rg x) (pp i) (pa i) (pb i)) pp pa pb i b pp1 pa1 pb1) : (b = false → b_rep kd lf rg r i x s = s) ∧ (b = true → c_fok hc (d_j r) pp1 (m_pv pa1 pb1) (d_n r) ∧ ∀ w, c_can (c_set pp1 (m_pv pa1 pb1) (d_n r)) (d_j r) w → b_rep kd lf rg r i x s = b_come s w ∧ c_rok hc w) := by
  obtain ⟨e1, e2, e3⟩ := hs i hi
  rw [m_pv_e] at e2
  rw [m_pv_o] at e3
  rw [e1, e2, e3] at h
  cases e : f_rw (kd x) (lf x) (rg x) (d_nm r i) (d_pl r (2 * i)) (d_pl r (2 * i + 1)) with
  | none =>
    rw [e] at h
    exact ⟨fun _ => b_rep_n e, fun hb => (by rw [h.1] at hb; cases hb)⟩
  | some q =>
    rw [e] at h
    obtain ⟨h1, rfl, rfl, rfl⟩ := h
    have hs2 := f_same_tr (m_put_same (n := d_n r) (k := i) (q := q.1) (a := q.2.1) (b := q.2.2) (pp := pp) (pa := pa) (pb := pb)) (f_same_put hs i q.1 q.2.1 q.2.2)
    exact ⟨fun hb => (by rw [h1] at hb; cases hb), fun _ => ⟨c_fok_sm hs2 (c_fok_put hr.2.1 (c_aok_rw (hr.2.1.2.2.2 i hi) hax e)), fun w hw => b_rep_s hs2 e hax hi hr hw⟩⟩
theorem m_uni_go {hc : Nat} {pp pa pb pa1 pb1 : Nat → Nat} {he he1 : Nat → Option Nat} {r i k : Nat} {b : Bool} {s : List Nat × Bool} (hs : f_same (d_n r) pp (m_pv pa pb) (d_nm r) (d_pl r)) (hr : c_rok hc r) (hh : m_hj he hc (d_j r)) (hik : i < k) (hk : k < d_n r) (h : m_mt pp pa pb he (d_n r) hc i k b pa1 pb1 he1) : (b = false → b_uni r i k s = s) ∧ (b = true → m_hj he1 hc (f_unK (d_pl r) (d_n r) i k (d_j r) 2) ∧ c_fok hc (f_unK (d_pl r) (d_n r) i k (d_j r) 2) pp (m_pv pa1 pb1) (d_n r) ∧ ∀ w, c_can (c_set pp (m_pv pa1 pb1) (d_n r)) (f_unK (d_pl r) (d_n r) i k (d_j r) 2) w → b_uni r i k s = b_come s w ∧ c_rok hc w) := by
  have e1 := (hs i (by omega)).1
  have e2 := (hs k hk).1
  refine ⟨fun hb => ?_, fun hb => ?_⟩
  · rcases h with ⟨h, _⟩ | ⟨_, h, _⟩
    · exact b_uni_n (by rw [← e1, ← e2]; exact h)
    · rw [hb] at h; cases h
  · obtain ⟨g1, g2, g3⟩ := m_un (c_fok_sm hs hr.2.1) hh (show i < d_n r by omega) hk h hb
    obtain ⟨u1, u2⟩ := f_same_un hs (show i < d_n r by omega) hk
    have hs2 : f_same (d_n r) pp (m_pv pa1 pb1) (d_nm r) (f_unI (d_pl r) (d_n r) i k 2) := fun j hj => by
      obtain ⟨a, b, c⟩ := u1 j hj
      exact ⟨a, by rw [g2 _ (by omega)]; exact b, by rw [g2 _ (by omega)]; exact c⟩
    have hnm : d_nm r i = d_nm r k := by rw [← e1, ← e2]; exact g1
    rw [u2] at g3
    exact ⟨g3, c_fok_sm hs2 (c_fok_un2 hr.2.1 (by omega) hk hnm), fun w hw => b_uni_s hs2 rfl hnm hik hk hr hw⟩
theorem m_rpl_k {n k lf rg i : Nat} {pp pa pb pp1 pa1 pb1 : Nat → Nat} {b : Bool} (hl : lf < 64) (ha : pa i < 16) (hb : pb i < 16) (hf : m_ppk n pp pa pb) (h : m_rpl (f_rw k lf rg (pp i) (pa i) (pb i)) pp pa pb i b pp1 pa1 pb1) : m_ppk n pp1 pa1 pb1 := by
  cases e : f_rw k lf rg (pp i) (pa i) (pb i) with
  | none => rw [e] at h; obtain ⟨_, rfl, rfl, rfl⟩ := h; exact hf
  | some q =>
    rw [e] at h
    obtain ⟨_, rfl, rfl, rfl⟩ := h
    have := f_rw_lt hl ha hb e
    exact ⟨hf.1, up_lt hf.2.1 this.1, up_lt hf.2.2.1 (by omega), up_lt hf.2.2.2 (by omega)⟩
theorem m_mt_k {n hc i k : Nat} {pp pa pb pa1 pb1 : Nat → Nat} {he he1 : Nat → Option Nat} {b : Bool} (hf : m_ppk n pp pa pb) (hh : m_hok he hc) (h : m_mt pp pa pb he n hc i k b pa1 pb1 he1) : m_ppk n pp pa1 pb1 := by
  obtain ⟨f1, f2, f3, f4⟩ := hf
  rcases h with ⟨_, _, rfl, rfl, _⟩ | ⟨_, _, r, pa', pb', he', hj, h⟩
  · exact ⟨f1, f2, f3, f4⟩
  · obtain ⟨j1, j2, j3, j4⟩ := m_jn_lt hj (f3 _) (f3 _) f3 f4 hh
    rcases h with ⟨_, rfl, rfl, _⟩ | ⟨_, r2, pa2, pb2, he2, hj2, rfl, rfl, _⟩
    · exact ⟨f1, f2, up_lt (up_lt (up_lt j2 j1) j1) (up_lt (up_lt j2 j1) j1 _), j3⟩
    · obtain ⟨k1, k2, k3, k4⟩ := m_jn_lt hj2 (j3 _) (j3 _) (up_lt (up_lt j2 j1) j1) j3 j4
      exact ⟨f1, f2, up_lt k2 (k2 _), up_lt (up_lt k3 k1) k1⟩
/-- the reference's state of forms -/
def m_st (zs cs : Nat → Nat) (hs : Nat → Option Nat) (n : Nat) (lg : Bool) : List Nat × Bool := (cq_of (m_rw zs cs hs) n, lg)
def m_fst (hc : Nat) (zs cs : Nat → Nat) (hs : Nat → Option Nat) (n : Nat) (lg : Bool) : Prop := m_frms hc zs cs hs n ∧ m_arr zs cs hs ∧ b_ok hc (m_st zs cs hs n lg)
theorem m_fst_row {hc : Nat} {zs cs : Nat → Nat} {hs : Nat → Option Nat} {n f : Nat} {lg : Bool} (h : m_fst hc zs cs hs n lg) (hf : f < n) : c_rok hc (m_rw zs cs hs f) := h.2.2.2 _ (cq_mem.mpr ⟨f, hf, rfl⟩)
theorem m_fst_come {hc : Nat} {zs cs zs1 cs1 : Nat → Nat} {hs hs1 : Nat → Option Nat} {n n1 w : Nat} {lg lg1 : Bool} (h : m_fst hc zs cs hs n lg) (hc1 : m_cm hc zs cs hs n lg w zs1 cs1 hs1 n1 lg1) (ha : m_arr zs1 cs1 hs1) (hw : c_rok hc w) : m_fst hc zs1 cs1 hs1 n1 lg1 := ⟨hc1.1, ha, by unfold m_st; rw [hc1.2]; exact b_ok_come h.2.2 hw⟩
theorem m_st_come {hc : Nat} {zs cs zs1 cs1 : Nat → Nat} {hs hs1 : Nat → Option Nat} {n n1 w : Nat} {lg lg1 : Bool} (hc1 : m_cm hc zs cs hs n lg w zs1 cs1 hs1 n1 lg1) : m_st zs1 cs1 hs1 n1 lg1 = b_come (m_st zs cs hs n lg) w := hc1.2
/-- form f is still the row r -/
def m_at_f (zs cs : Nat → Nat) (hs : Nat → Option Nat) (n f r : Nat) : Prop := f < n ∧ m_rw zs cs hs f = r
theorem m_at_come {hc : Nat} {zs cs zs1 cs1 : Nat → Nat} {hs hs1 : Nat → Option Nat} {n n1 w f r : Nat} {lg lg1 : Bool} (h : m_at_f zs cs hs n f r) (hc1 : m_cm hc zs cs hs n lg w zs1 cs1 hs1 n1 lg1) : m_at_f zs1 cs1 hs1 n1 f r := by
  obtain ⟨k1, k2⟩ := m_cm_keep hc1
  exact ⟨by have := h.1; omega, by rw [k2 f h.1]; exact h.2⟩
/-- loading form f, which is row r -/
theorem m_load_r {hc f r n : Nat} {zs cs pp pa pb : Nat → Nat} {hs he : Nat → Option Nat} {lg : Bool} (hc2 : hc ≤ 2) (h : m_fst hc zs cs hs n lg) (hat : m_at_f zs cs hs n f r) (hl : m_ld cs f pp pa pb (zs f)) : d_n r = zs f ∧ f_same (d_n r) pp (m_pv pa pb) (d_nm r) (d_pl r) ∧ m_hcn (hs (2 * f)) (hs (2 * f + 1)) = hc ∧ m_hj (va_up (va_up he 0 (hs (2 * f))) 1 (hs (2 * f + 1))) hc (d_j r) ∧ c_rok hc r ∧ ∀ j, j < zs f → pa j < 8 ∧ pb j < 8 := by
  obtain ⟨h1, rfl⟩ := hat
  obtain ⟨a, b, c, d⟩ := m_load (he := he) hc2 (h.1.2 f h1) hl
  refine ⟨a, by rw [a]; exact b, c, d, m_fst_row h h1, fun j hj => ?_⟩
  obtain ⟨_, e2, e3⟩ := hl j hj
  rw [e2, e3]; omega
theorem c_rok_7 {hc r i : Nat} {pp pa pb : Nat → Nat} (hr : c_rok hc r) (hs : f_same (d_n r) pp (m_pv pa pb) (d_nm r) (d_pl r)) (hi : i < d_n r) : pa i ≠ 7 ∧ (32 ≤ pp i → pb i ≠ 7) := by
  obtain ⟨h1, h2⟩ := (c_fok_sm hs hr.2.1).2.2.2 i hi
  rw [m_at] at h1 h2
  refine ⟨h2.1, fun h => ?_⟩
  rcases h1 with h1 | h1
  · have : pp i < 10 := h1.1
    omega
  · exact h1.2.2.1
theorem m_axn_0 {k a b : Nat} (h : m_axn k a b) : k = 0 → (a < 10 ∨ 20 ≤ a ∧ a < 36) ∧ (b < 10 ∨ 20 ≤ b ∧ b < 36) := fun e => h.2.1 (by omega)
theorem m_it_go {na : Nat} {kd lf rg zs cs : Nat → Nat} {hs : Nat → Option Nat} {n f r : Nat} {lg : Bool} {s0 sA sB : List Nat × Bool} (h : m_st zs cs hs n lg = b_it na kd lf rg f s0) (hl : lg = false) (hat : m_at_f zs cs hs n f r) (hA : sA = b_r1 na kd lf rg r (d_n r) (m_st zs cs hs n lg)) (hB : sB = b_u1 r (d_n r) sA) : sB = b_it na kd lf rg (f + 1) s0 := by
  obtain ⟨h1, rfl⟩ := hat
  exact b_it_go h hl h1 hA hB
theorem m_it_end {na : Nat} {kd lf rg zs cs : Nat → Nat} {hs : Nat → Option Nat} {n f : Nat} {lg : Bool} {s0 : List Nat × Bool} (h : m_st zs cs hs n lg = b_it na kd lf rg f s0) (hi : f ≤ 91) (hx : n ≤ f ∨ lg = true) : m_st zs cs hs n lg = b_it na kd lf rg 91 s0 := b_it_end h hi hx
theorem m_first {hc w : Nat} {jn lg1 : Bool} {nm pl zs cs zs1 cs1 : Nat → Nat} {hs hs1 : Nat → Option Nat} {n n1 : Nat} (hf : c_fok hc jn nm pl n) (hw : c_can (c_set nm pl n) jn w) (h : m_cm hc zs cs hs 0 false w zs1 cs1 hs1 n1 lg1) (ha : m_arr zs1 cs1 hs1) : m_fst hc zs1 cs1 hs1 n1 lg1 ∧ m_st zs1 cs1 hs1 n1 lg1 = b_come ([], false) (c_cn (c_set nm pl n) jn) := by
  have hb : b_ok hc (([] : List Nat), false) := ⟨by show (0 : Nat) ≤ 90; omega, fun x hx => by cases hx⟩
  have e : m_st zs1 cs1 hs1 n1 lg1 = b_come ([], false) w := h.2
  refine ⟨⟨h.1, ha, ?_⟩, ?_⟩
  · rw [e]; exact b_ok_come hb (c_can_rok hw hf).1
  · rw [e, c_cn_eq hw]
abbrev cX8_come : ByteArray := prog_10_method_24_code
def yX8_come : MethodName := ⟨RX8, "come", "()V"⟩
def wkX8_come : List Cond := .code yX8_come cX8_come 2 none :: qW
set_option maxRecDepth 40000 in
theorem gkX8_come : GoodIn qW wkX8_come := q_good (qw 725 rfl rfl)
set_option maxRecDepth 40000 in
theorem knX8_come : Cond.instanceMethod yX8_come ∈ qW := qw 724 rfl rfl
set_option maxRecDepth 40000 in
theorem klX8_come : Cond.selects RX8 yX8_come yX8_come ∈ qW := qw 19 rfl rfl
theorem dX8_come_0 : decode cX8_come 0 = .ok (.aload_n 0, 1) := by decide +kernel
theorem dX8_come_1 : decode cX8_come 1 = .ok (.invokevirtual 159, 3) := by decide +kernel
theorem dX8_come_4 : decode cX8_come 4 = .ok (.iconst 0, 1) := by decide +kernel
theorem dX8_come_5 : decode cX8_come 5 = .ok (.istore_n 1, 1) := by decide +kernel
theorem dX8_come_6 : decode cX8_come 6 = .ok (.iload_n 1, 1) := by decide +kernel
theorem dX8_come_7 : decode cX8_come 7 = .ok (.aload_n 0, 1) := by decide +kernel
theorem dX8_come_8 : decode cX8_come 8 = .ok (.getfield 162, 3) := by decide +kernel
theorem dX8_come_11 : decode cX8_come 11 = .ok (.if_icmp .ge 18, 3) := by decide +kernel
theorem dX8_come_14 : decode cX8_come 14 = .ok (.aload_n 0, 1) := by decide +kernel
theorem dX8_come_15 : decode cX8_come 15 = .ok (.iload_n 1, 1) := by decide +kernel
theorem dX8_come_16 : decode cX8_come 16 = .ok (.invokevirtual 165, 3) := by decide +kernel
theorem dX8_come_19 : decode cX8_come 19 = .ok (.ifCond .eq 4, 3) := by decide +kernel
theorem dX8_come_22 : decode cX8_come 22 = .ok (.return_, 1) := by decide +kernel
theorem dX8_come_23 : decode cX8_come 23 = .ok (.iinc 1 1, 3) := by decide +kernel
theorem dX8_come_26 : decode cX8_come 26 = .ok (.goto (-20), 3) := by decide +kernel
theorem dX8_come_29 : decode cX8_come 29 = .ok (.aload_n 0, 1) := by decide +kernel
theorem dX8_come_30 : decode cX8_come 30 = .ok (.getfield 162, 3) := by decide +kernel
theorem dX8_come_33 : decode cX8_come 33 = .ok (.bipush 90, 2) := by decide +kernel
theorem dX8_come_35 : decode cX8_come 35 = .ok (.if_icmp .ne 9, 3) := by decide +kernel
theorem dX8_come_38 : decode cX8_come 38 = .ok (.aload_n 0, 1) := by decide +kernel
theorem dX8_come_39 : decode cX8_come 39 = .ok (.iconst 1, 1) := by decide +kernel
theorem dX8_come_40 : decode cX8_come 40 = .ok (.putfield 168, 3) := by decide +kernel
theorem dX8_come_43 : decode cX8_come 43 = .ok (.return_, 1) := by decide +kernel
theorem dX8_come_44 : decode cX8_come 44 = .ok (.aload_n 0, 1) := by decide +kernel
theorem dX8_come_45 : decode cX8_come 45 = .ok (.getfield 47, 3) := by decide +kernel
theorem dX8_come_48 : decode cX8_come 48 = .ok (.aload_n 0, 1) := by decide +kernel
theorem dX8_come_49 : decode cX8_come 49 = .ok (.getfield 162, 3) := by decide +kernel
theorem dX8_come_52 : decode cX8_come 52 = .ok (.aload_n 0, 1) := by decide +kernel
theorem dX8_come_53 : decode cX8_come 53 = .ok (.getfield 121, 3) := by decide +kernel
theorem dX8_come_56 : decode cX8_come 56 = .ok (.iastore, 1) := by decide +kernel
theorem dX8_come_57 : decode cX8_come 57 = .ok (.aload_n 0, 1) := by decide +kernel
theorem dX8_come_58 : decode cX8_come 58 = .ok (.getfield 53, 3) := by decide +kernel
theorem dX8_come_61 : decode cX8_come 61 = .ok (.iconst 2, 1) := by decide +kernel
theorem dX8_come_62 : decode cX8_come 62 = .ok (.aload_n 0, 1) := by decide +kernel
theorem dX8_come_63 : decode cX8_come 63 = .ok (.getfield 162, 3) := by decide +kernel
theorem dX8_come_66 : decode cX8_come 66 = .ok (.imul, 1) := by decide +kernel
theorem dX8_come_67 : decode cX8_come 67 = .ok (.aload_n 0, 1) := by decide +kernel
theorem dX8_come_68 : decode cX8_come 68 = .ok (.iconst 0, 1) := by decide +kernel
theorem dX8_come_69 : decode cX8_come 69 = .ok (.invokevirtual 156, 3) := by decide +kernel
theorem dX8_come_72 : decode cX8_come 72 = .ok (.iastore, 1) := by decide +kernel
theorem dX8_come_73 : decode cX8_come 73 = .ok (.aload_n 0, 1) := by decide +kernel
theorem dX8_come_74 : decode cX8_come 74 = .ok (.getfield 53, 3) := by decide +kernel
theorem dX8_come_77 : decode cX8_come 77 = .ok (.iconst 2, 1) := by decide +kernel
theorem dX8_come_78 : decode cX8_come 78 = .ok (.aload_n 0, 1) := by decide +kernel
theorem dX8_come_79 : decode cX8_come 79 = .ok (.getfield 162, 3) := by decide +kernel
theorem dX8_come_82 : decode cX8_come 82 = .ok (.imul, 1) := by decide +kernel
theorem dX8_come_83 : decode cX8_come 83 = .ok (.iconst 1, 1) := by decide +kernel
theorem dX8_come_84 : decode cX8_come 84 = .ok (.iadd, 1) := by decide +kernel
theorem dX8_come_85 : decode cX8_come 85 = .ok (.aload_n 0, 1) := by decide +kernel
theorem dX8_come_86 : decode cX8_come 86 = .ok (.iconst 1, 1) := by decide +kernel
theorem dX8_come_87 : decode cX8_come 87 = .ok (.invokevirtual 156, 3) := by decide +kernel
theorem dX8_come_90 : decode cX8_come 90 = .ok (.iastore, 1) := by decide +kernel
theorem dX8_come_91 : decode cX8_come 91 = .ok (.iconst 0, 1) := by decide +kernel
theorem dX8_come_92 : decode cX8_come 92 = .ok (.istore_n 1, 1) := by decide +kernel
theorem dX8_come_93 : decode cX8_come 93 = .ok (.iload_n 1, 1) := by decide +kernel
theorem dX8_come_94 : decode cX8_come 94 = .ok (.aload_n 0, 1) := by decide +kernel
theorem dX8_come_95 : decode cX8_come 95 = .ok (.getfield 121, 3) := by decide +kernel
theorem dX8_come_98 : decode cX8_come 98 = .ok (.if_icmp .ge 28, 3) := by decide +kernel
theorem dX8_come_101 : decode cX8_come 101 = .ok (.aload_n 0, 1) := by decide +kernel
theorem dX8_come_102 : decode cX8_come 102 = .ok (.getfield 50, 3) := by decide +kernel
theorem dX8_come_105 : decode cX8_come 105 = .ok (.iconst 4, 1) := by decide +kernel
theorem dX8_come_106 : decode cX8_come 106 = .ok (.aload_n 0, 1) := by decide +kernel
theorem dX8_come_107 : decode cX8_come 107 = .ok (.getfield 162, 3) := by decide +kernel
theorem dX8_come_110 : decode cX8_come 110 = .ok (.imul, 1) := by decide +kernel
theorem dX8_come_111 : decode cX8_come 111 = .ok (.iload_n 1, 1) := by decide +kernel
theorem dX8_come_112 : decode cX8_come 112 = .ok (.iadd, 1) := by decide +kernel
theorem dX8_come_113 : decode cX8_come 113 = .ok (.aload_n 0, 1) := by decide +kernel
theorem dX8_come_114 : decode cX8_come 114 = .ok (.getfield 71, 3) := by decide +kernel
theorem dX8_come_117 : decode cX8_come 117 = .ok (.iload_n 1, 1) := by decide +kernel
theorem dX8_come_118 : decode cX8_come 118 = .ok (.iaload, 1) := by decide +kernel
theorem dX8_come_119 : decode cX8_come 119 = .ok (.iastore, 1) := by decide +kernel
theorem dX8_come_120 : decode cX8_come 120 = .ok (.iinc 1 1, 3) := by decide +kernel
theorem dX8_come_123 : decode cX8_come 123 = .ok (.goto (-30), 3) := by decide +kernel
theorem dX8_come_126 : decode cX8_come 126 = .ok (.aload_n 0, 1) := by decide +kernel
theorem dX8_come_127 : decode cX8_come 127 = .ok (.dup, 1) := by decide +kernel
theorem dX8_come_128 : decode cX8_come 128 = .ok (.getfield 162, 3) := by decide +kernel
theorem dX8_come_131 : decode cX8_come 131 = .ok (.iconst 1, 1) := by decide +kernel
theorem dX8_come_132 : decode cX8_come 132 = .ok (.iadd, 1) := by decide +kernel
theorem dX8_come_133 : decode cX8_come 133 = .ok (.putfield 162, 3) := by decide +kernel
theorem dX8_come_136 : decode cX8_come 136 = .ok (.return_, 1) := by decide +kernel
set_option maxRecDepth 40000 in
theorem kmX8_159 : Cond.methodLink RX8 159 yX8_settle ∈ qW := qw 726 rfl rfl
set_option maxRecDepth 40000 in
theorem kfX8_162 : Cond.fieldLink RX8 162 "QlRewriteModel" "formCount" "I" ∈ qW := qw 586 rfl rfl
set_option maxRecDepth 40000 in
theorem kfX8_168 : Cond.fieldLink RX8 168 "QlRewriteModel" "isLarge" "Z" ∈ qW := qw 585 rfl rfl
set_option maxRecDepth 40000 in
theorem kmX8_165 : Cond.methodLink RX8 165 yX8_isForm ∈ qW := qw 766 rfl rfl
abbrev rm_c_Model_come : Room := { frames := 4, cells := 0, slots := 0, locals := 91 }
set_option maxHeartbeats 4000000 in
set_option maxRecDepth 100000 in
theorem c_Model_come (l : Launch) (dC : Nat → ClassId) (dI : Nat → Nat → Nat) (cI cL cQ cZ : ClassId) (x0 : Nat) (ax : Nat) (z1 : Nat) (z2 : Nat) (z3 : Nat) (fc : Nat) (z5 : Nat) (z6 : Nat) (z7 : Nat) (qs : Nat) (z9 : Nat) (z10 : Nat) (z11 : Nat) (z12 : Nat) (z13 : Nat) (hd : Option Nat) (lg : Bool) (fcn : Nat) (z17 : Nat) (z18 : Nat) (z19 : Nat) (md : Nat) (z21 : Nat) (z22 : Nat) (z23 : Nat) (z24 : Nat) (hc : Nat) (z26 : Nat) (z27 : Nat) (z28 : Nat) (z29 : Nat) (z30 : Nat) (z31 : Nat) (sm : Bool) (z33 : Nat) (z34 : Nat) (pp : Nat → Nat) (pa : Nat → Nat) (pb : Nat → Nat) (he : Nat → Option Nat) (nd : Nat → Nat) (le : Nat → Nat) (rq : Nat → Nat) (fe : Nat → Nat) (pk : Nat → Nat) (zs : Nat → Nat) (cs : Nat → Nat) (hs : Nat → Option Nat) (jn : Bool) (hpk : m_ppk md pp pa pb) (hwk : m_wkk nd le rq fe pk) (hhj : m_hj he hc jn) (hfo9 : c_fok hc jn pp (m_pv pa pb) md) (hfr : m_frms hc zs cs hs fcn) (har : m_arr zs cs hs) : Met l yX8_come wkX8_come rm_c_Model_come (q_W (dC, dI) qCl (qT cI cL cQ cZ) [(x0, .inr (8, mO ax z1 z2 z3 fc z5 z6 z7 qs z9 z10 z11 z12 z13 hd lg fcn z17 z18 z19 md z21 z22 z23 z24 hc z26 z27 z28 z29 z30 z31 sm z33 z34)), (z21, .inl (cI, 4, .inl (nF pp))), (z22, .inl (cI, 4, .inl (nF pa))), (z23, .inl (cI, 4, .inl (nF pb))), (z24, .inl (cI, 2, .inl (oF he))), (z26, .inl (cI, 18, .inl (nF nd))), (z27, .inl (cI, 4, .inl (nF le))), (z28, .inl (cI, 4, .inl (nF rq))), (z29, .inl (cI, 4, .inl (nF fe))), (z30, .inl (cI, 4, .inl (nF pk))), (z17, .inl (cI, 90, .inl (nF zs))), (z18, .inl (cI, 360, .inl (nF cs))), (z19, .inl (cI, 180, .inl (oF hs)))] [.ref x0]) (va_Qv (fun (u : Nat × (Nat → Nat) × (Nat → Nat) × (Nat → Nat) × (Nat → Nat) × (Nat → Nat) × (Nat → Nat) × (Nat → Nat) × (Nat → Nat) × (Nat → Nat) × (Nat → Nat) × (Nat → Option Nat) × Nat × Bool × Nat) => (m_ppk u.1 u.2.1 u.2.2.1 u.2.2.2.1) ∧ (m_wkk u.2.2.2.2.1 u.2.2.2.2.2.1 u.2.2.2.2.2.2.1 u.2.2.2.2.2.2.2.1 u.2.2.2.2.2.2.2.2.1) ∧ (m_arr u.2.2.2.2.2.2.2.2.2.1 u.2.2.2.2.2.2.2.2.2.2.1 u.2.2.2.2.2.2.2.2.2.2.2.1) ∧ (c_can (c_set pp (m_pv pa pb) md) jn u.2.2.2.2.2.2.2.2.2.2.2.2.2.2) ∧ (m_cm hc zs cs hs fcn lg u.2.2.2.2.2.2.2.2.2.2.2.2.2.2 u.2.2.2.2.2.2.2.2.2.1 u.2.2.2.2.2.2.2.2.2.2.1 u.2.2.2.2.2.2.2.2.2.2.2.1 u.2.2.2.2.2.2.2.2.2.2.2.2.1 u.2.2.2.2.2.2.2.2.2.2.2.2.2.1)) (fun (u : Nat × (Nat → Nat) × (Nat → Nat) × (Nat → Nat) × (Nat → Nat) × (Nat → Nat) × (Nat → Nat) × (Nat → Nat) × (Nat → Nat) × (Nat → Nat) × (Nat → Nat) × (Nat → Option Nat) × Nat × Bool × Nat) t => va_P (dC, dI) qCl [(x0, .inr (8, mO ax z1 z2 z3 fc z5 z6 z7 qs z9 z10 z11 z12 z13 hd u.2.2.2.2.2.2.2.2.2.2.2.2.2.1 u.2.2.2.2.2.2.2.2.2.2.2.2.1 z17 z18 z19 u.1 z21 z22 z23 z24 hc z26 z27 z28 z29 z30 z31 sm z33 z34)), (z21, .inl (cI, 4, .inl (nF u.2.1))), (z22, .inl (cI, 4, .inl (nF u.2.2.1))), (z23, .inl (cI, 4, .inl (nF u.2.2.2.1))), (z24, .inl (cI, 2, .inl (oF he))), (z26, .inl (cI, 18, .inl (nF u.2.2.2.2.1))), (z27, .inl (cI, 4, .inl (nF u.2.2.2.2.2.1))), (z28, .inl (cI, 4, .inl (nF u.2.2.2.2.2.2.1))), (z29, .inl (cI, 4, .inl (nF u.2.2.2.2.2.2.2.1))), (z30, .inl (cI, 4, .inl (nF u.2.2.2.2.2.2.2.2.1))), (z17, .inl (cI, 90, .inl (nF u.2.2.2.2.2.2.2.2.2.1))), (z18, .inl (cI, 360, .inl (nF u.2.2.2.2.2.2.2.2.2.2.1))), (z19, .inl (cI, 180, .inl (oF u.2.2.2.2.2.2.2.2.2.2.2.1)))] t.heap) (q_A [(x0, .inr (8, mO ax z1 z2 z3 fc z5 z6 z7 qs z9 z10 z11 z12 z13 hd lg fcn z17 z18 z19 md z21 z22 z23 z24 hc z26 z27 z28 z29 z30 z31 sm z33 z34)), (z21, .inl (cI, 4, .inl (nF pp))), (z22, .inl (cI, 4, .inl (nF pa))), (z23, .inl (cI, 4, .inl (nF pb))), (z24, .inl (cI, 2, .inl (oF he))), (z26, .inl (cI, 18, .inl (nF nd))), (z27, .inl (cI, 4, .inl (nF le))), (z28, .inl (cI, 4, .inl (nF rq))), (z29, .inl (cI, 4, .inl (nF fe))), (z30, .inl (cI, 4, .inl (nF pk))), (z17, .inl (cI, 90, .inl (nF zs))), (z18, .inl (cI, 360, .inl (nF cs))), (z19, .inl (cI, 180, .inl (oF hs)))])) 0 0 (q_A [(x0, .inr (8, mO ax z1 z2 z3 fc z5 z6 z7 qs z9 z10 z11 z12 z13 hd lg fcn z17 z18 z19 md z21 z22 z23 z24 hc z26 z27 z28 z29 z30 z31 sm z33 z34)), (z21, .inl (cI, 4, .inl (nF pp))), (z22, .inl (cI, 4, .inl (nF pa))), (z23, .inl (cI, 4, .inl (nF pb))), (z24, .inl (cI, 2, .inl (oF he))), (z26, .inl (cI, 18, .inl (nF nd))), (z27, .inl (cI, 4, .inl (nF le))), (z28, .inl (cI, 4, .inl (nF rq))), (z29, .inl (cI, 4, .inl (nF fe))), (z30, .inl (cI, 4, .inl (nF pk))), (z17, .inl (cI, 90, .inl (nF zs))), (z18, .inl (cI, 360, .inl (nF cs))), (z19, .inl (cI, 180, .inl (oF hs)))]) := by
  refine Met.ofW (cc := cX8_come) (maxL := 2) (ret := none) (by decide) rfl ?_
  intro p e s m args below meth c s₁ B hml hv
  obtain ⟨hargs, hP, hK, hD0⟩ := hv
  have hx := B.exec
  have hb := B.bytes
  have hr := B.returns
  have hts : ∀ w ∈ qW, w.before args s = true := fun w h => atoms_spec (ws := wkX8_come) B.pre w (List.mem_cons_of_mem _ h)
  have hown : s.vm.findClass RX8 = some m.cls := findClass_of_methodNamed B.named
  have hlocks := B.notSynchronized
  refine q_named (fun Q hQ => ?_)
  have hD : va_D (q_A [(x0, .inr (8, mO ax z1 z2 z3 fc z5 z6 z7 qs z9 z10 z11 z12 z13 hd lg fcn z17 z18 z19 md z21 z22 z23 z24 hc z26 z27 z28 z29 z30 z31 sm z33 z34)), (z21, .inl (cI, 4, .inl (nF pp))), (z22, .inl (cI, 4, .inl (nF pa))), (z23, .inl (cI, 4, .inl (nF pb))), (z24, .inl (cI, 2, .inl (oF he))), (z26, .inl (cI, 18, .inl (nF nd))), (z27, .inl (cI, 4, .inl (nF le))), (z28, .inl (cI, 4, .inl (nF rq))), (z29, .inl (cI, 4, .inl (nF fe))), (z30, .inl (cI, 4, .inl (nF pk))), (z17, .inl (cI, 90, .inl (nF zs))), (z18, .inl (cI, 360, .inl (nF cs))), (z19, .inl (cI, 180, .inl (oF hs)))]) [(x0, .inr (8, mO ax z1 z2 z3 fc z5 z6 z7 qs z9 z10 z11 z12 z13 hd lg fcn z17 z18 z19 md z21 z22 z23 z24 hc z26 z27 z28 z29 z30 z31 sm z33 z34)), (z21, .inl (cI, 4, .inl (nF pp))), (z22, .inl (cI, 4, .inl (nF pa))), (z23, .inl (cI, 4, .inl (nF pb))), (z24, .inl (cI, 2, .inl (oF he))), (z26, .inl (cI, 18, .inl (nF nd))), (z27, .inl (cI, 4, .inl (nF le))), (z28, .inl (cI, 4, .inl (nF rq))), (z29, .inl (cI, 4, .inl (nF fe))), (z30, .inl (cI, 4, .inl (nF pk))), (z17, .inl (cI, 90, .inl (nF zs))), (z18, .inl (cI, 360, .inl (nF cs))), (z19, .inl (cI, 180, .inl (oF hs)))] := ⟨hD0.1, fun k q h => ⟨k, q.2, h⟩⟩
  generalize hAe : q_A [(x0, .inr (8, mO ax z1 z2 z3 fc z5 z6 z7 qs z9 z10 z11 z12 z13 hd lg fcn z17 z18 z19 md z21 z22 z23 z24 hc z26 z27 z28 z29 z30 z31 sm z33 z34)), (z21, .inl (cI, 4, .inl (nF pp))), (z22, .inl (cI, 4, .inl (nF pa))), (z23, .inl (cI, 4, .inl (nF pb))), (z24, .inl (cI, 2, .inl (oF he))), (z26, .inl (cI, 18, .inl (nF nd))), (z27, .inl (cI, 4, .inl (nF le))), (z28, .inl (cI, 4, .inl (nF rq))), (z29, .inl (cI, 4, .inl (nF fe))), (z30, .inl (cI, 4, .inl (nF pk))), (z17, .inl (cI, 90, .inl (nF zs))), (z18, .inl (cI, 360, .inl (nF cs))), (z19, .inl (cI, 180, .inl (oF hs)))] = A at hD
  have hS : va_S A s.heap s.heap [] := va_S.rf
  refine q_entry hargs (Nat.le_of_ble_eq_true rfl) (fun ls hl => ?_)
  have hl : lv_has ls 2 [(0, .ref x0)] := hl
  obtain ⟨H, locs, eH, eL⟩ : ∃ (H : Heap) (locs : List Loc), s.heap = H ∧ ([] : List Loc) = locs := ⟨_, _, rfl, rfl⟩
  have hS : va_S A s.heap H locs := by rw [← eH, ← eL]; exact hS
  have hP : va_P (dC, dI) qCl [(x0, .inr (8, mO ax z1 z2 z3 fc z5 z6 z7 qs z9 z10 z11 z12 z13 hd lg fcn z17 z18 z19 md z21 z22 z23 z24 hc z26 z27 z28 z29 z30 z31 sm z33 z34)), (z21, .inl (cI, 4, .inl (nF pp))), (z22, .inl (cI, 4, .inl (nF pa))), (z23, .inl (cI, 4, .inl (nF pb))), (z24, .inl (cI, 2, .inl (oF he))), (z26, .inl (cI, 18, .inl (nF nd))), (z27, .inl (cI, 4, .inl (nF le))), (z28, .inl (cI, 4, .inl (nF rq))), (z29, .inl (cI, 4, .inl (nF fe))), (z30, .inl (cI, 4, .inl (nF pk))), (z17, .inl (cI, 90, .inl (nF zs))), (z18, .inl (cI, 360, .inl (nF cs))), (z19, .inl (cI, 180, .inl (oF hs)))] H := by rw [← eH]; exact hP
  refine W_at eH eL ?_
  obtain ⟨hhe, hh2, hh3, hh4⟩ := m_hj_h hhj hfo9.2.1
  have hhc := hfo9.2.1
  have hf90 := hfr.1
  refine lv_aload_n hx hb dX8_come_0 rfl (lv_at hl 0 rfl) ?_
  refine q_joinv (wr := [(z17, .inl (cI, 90, .inl (nF zs))), (z18, .inl (cI, 360, .inl (nF cs))), (z19, .inl (cI, 180, .inl (oF hs)))]) (va_runV (As := []) (rest := []) ⟨hx, hb, hml, hown, hts⟩ (c_Model_settle l dC dI cI cL cQ cZ x0 ax z1 z2 z3 fc z5 z6 z7 qs z9 z10 z11 z12 z13 hd lg fcn z17 z18 z19 md z21 z22 z23 z24 hc z26 z27 z28 z29 z30 z31 sm z33 z34 pp pa pb he nd le rq fe pk jn (show m_ppk md pp pa pb from by first | assumption | omega) (show m_wkk nd le rq fe pk from by first | assumption | omega) (show m_hj he hc jn from by first | assumption | omega) (show c_fok hc jn pp (m_pv pa pb) md from by first | assumption | omega)) (q_cwV 0 hts gkX8_settle kmX8_159 knX8_settle klX8_settle kiX8 rfl rfl rfl (by decide +kernel) ⟨Nat.le_of_ble_eq_true rfl, Nat.le_of_ble_eq_true rfl⟩) (q_preVW hK hP hD [0, 1, 2, 3, 4, 5, 6, 7, 8, 9] rfl (by decide) 0 (ci := 8) (r := (RX8, TX8, 35)) rfl rfl) rfl rfl hl.1 rfl (lv_room (Nat.le_of_ble_eq_true rfl)) dX8_come_1 ⟨Nat.zero_le _, Nat.zero_le _⟩) hP hD hS [0, 1, 2, 3, 4, 5, 6, 7, 8, 9] [10, 11, 12] rfl rfl (by decide) (fun _ => rfl) (fun u9 H locs hq2 hP hD hS => ?_)
  obtain ⟨md8, pp8, pa8, pb8, nd8, le8, rq8, fe8, pk8⟩ := u9
  have hq2 : (m_ppk md8 pp8 pa8 pb8) ∧ (m_wkk nd8 le8 rq8 fe8 pk8) ∧ (∀ j7, j7 < md8 → le8 j7 < 4096) ∧ (c_can (c_set pp (m_pv pa pb) md) jn (f_row jn md8 le8)) := hq2
  obtain ⟨hpk8, hwk8, hle8, hcan8⟩ := hq2
  have hlast := hcan8
  have hP : va_P (dC, dI) qCl [(z17, .inl (cI, 90, .inl (nF zs))), (z18, .inl (cI, 360, .inl (nF cs))), (z19, .inl (cI, 180, .inl (oF hs))), (x0, .inr (8, mO ax z1 z2 z3 fc z5 z6 z7 qs z9 z10 z11 z12 z13 hd lg fcn z17 z18 z19 md8 z21 z22 z23 z24 hc z26 z27 z28 z29 z30 z31 sm z33 z34)), (z21, .inl (cI, 4, .inl (nF pp8))), (z22, .inl (cI, 4, .inl (nF pa8))), (z23, .inl (cI, 4, .inl (nF pb8))), (z24, .inl (cI, 2, .inl (oF he))), (z26, .inl (cI, 18, .inl (nF nd8))), (z27, .inl (cI, 4, .inl (nF le8))), (z28, .inl (cI, 4, .inl (nF rq8))), (z29, .inl (cI, 4, .inl (nF fe8))), (z30, .inl (cI, 4, .inl (nF pk8)))] H := hP
  have hD : va_D A [(z17, .inl (cI, 90, .inl (nF zs))), (z18, .inl (cI, 360, .inl (nF cs))), (z19, .inl (cI, 180, .inl (oF hs))), (x0, .inr (8, mO ax z1 z2 z3 fc z5 z6 z7 qs z9 z10 z11 z12 z13 hd lg fcn z17 z18 z19 md8 z21 z22 z23 z24 hc z26 z27 z28 z29 z30 z31 sm z33 z34)), (z21, .inl (cI, 4, .inl (nF pp8))), (z22, .inl (cI, 4, .inl (nF pa8))), (z23, .inl (cI, 4, .inl (nF pb8))), (z24, .inl (cI, 2, .inl (oF he))), (z26, .inl (cI, 18, .inl (nF nd8))), (z27, .inl (cI, 4, .inl (nF le8))), (z28, .inl (cI, 4, .inl (nF rq8))), (z29, .inl (cI, 4, .inl (nF fe8))), (z30, .inl (cI, 4, .inl (nF pk8)))] := hD
  have hp8 := hpk8.1
  refine lv_iconst (v := (nI (0))) hx hb dX8_come_4 (by decide) ?_
  refine lv_istore_n (lv' := [(1, .int (nI (0))), (0, .ref x0)]) hx hb dX8_come_5 rfl hl (by decide) rfl (fun ls hl => ?_)
  have L6 : ∀ (fu : Nat) (f : Nat) (ls : Array Slot) (H : Heap) (locs : List Loc), fcn - f < fu → (f ≤ fcn) → (m_new zs cs hs f (f_row jn md8 le8)) → lv_has ls 2 [(1, .int (nI (f))), (0, .ref x0)] → va_P (dC, dI) qCl [(z17, .inl (cI, 90, .inl (nF zs))), (z18, .inl (cI, 360, .inl (nF cs))), (z19, .inl (cI, 180, .inl (oF hs))), (x0, .inr (8, mO ax z1 z2 z3 fc z5 z6 z7 qs z9 z10 z11 z12 z13 hd lg fcn z17 z18 z19 md8 z21 z22 z23 z24 hc z26 z27 z28 z29 z30 z31 sm z33 z34)), (z21, .inl (cI, 4, .inl (nF pp8))), (z22, .inl (cI, 4, .inl (nF pa8))), (z23, .inl (cI, 4, .inl (nF pb8))), (z24, .inl (cI, 2, .inl (oF he))), (z26, .inl (cI, 18, .inl (nF nd8))), (z27, .inl (cI, 4, .inl (nF le8))), (z28, .inl (cI, 4, .inl (nF rq8))), (z29, .inl (cI, 4, .inl (nF fe8))), (z30, .inl (cI, 4, .inl (nF pk8)))] H → va_D A [(z17, .inl (cI, 90, .inl (nF zs))), (z18, .inl (cI, 360, .inl (nF cs))), (z19, .inl (cI, 180, .inl (oF hs))), (x0, .inr (8, mO ax z1 z2 z3 fc z5 z6 z7 qs z9 z10 z11 z12 z13 hd lg fcn z17 z18 z19 md8 z21 z22 z23 z24 hc z26 z27 z28 z29 z30 z31 sm z33 z34)), (z21, .inl (cI, 4, .inl (nF pp8))), (z22, .inl (cI, 4, .inl (nF pa8))), (z23, .inl (cI, 4, .inl (nF pb8))), (z24, .inl (cI, 2, .inl (oF he))), (z26, .inl (cI, 18, .inl (nF nd8))), (z27, .inl (cI, 4, .inl (nF le8))), (z28, .inl (cI, 4, .inl (nF rq8))), (z29, .inl (cI, 4, .inl (nF fe8))), (z30, .inl (cI, 4, .inl (nF pk8)))] → va_S A s.heap H locs → W p l e (headSpec wkX8_come rm_c_Model_come).room s m args below meth c H locs 0 0 Q (F0 m 6 ls []) := by
    intro fu
    induction fu with
    | zero => intro f ls H locs hmu; exact absurd hmu (Nat.not_lt_zero _)
    | succ fu ih6 =>
      intro f ls H locs hmu hf hnw hl hP hD hS
      refine lv_iload_n hx hb dX8_come_6 rfl (lv_at hl 0 rfl) ?_
      refine lv_aload_n hx hb dX8_come_7 rfl (lv_at hl 1 rfl) ?_
      refine va_get (D := (dC, dI)) (ci := 8) (v := .int (nI (fcn))) (C := RX8) (T := TX8) (N := 35) hx hb hts uX8 hown hK hP 3 rfl rfl 16 (by decide) (hts _ kfX8_162) (fun _ h9 => h9) rfl dX8_come_8 ?_
      refine q_icmp_ge (x := f) (y := fcn) (tgt := 29) hx hb dX8_come_11 (by decide) (by omega) (by omega) (fun c11_3 => ?_) (fun c11_3 => ?_)
      · have hnf : m_new zs cs hs fcn (f_row jn md8 le8) := (by rw [show fcn = f by omega]; exact hnw)
        refine lv_aload_n hx hb dX8_come_29 rfl (lv_at hl 1 rfl) ?_
        refine va_get (D := (dC, dI)) (ci := 8) (v := .int (nI (fcn))) (C := RX8) (T := TX8) (N := 35) hx hb hts uX8 hown hK hP 3 rfl rfl 16 (by decide) (hts _ kfX8_162) (fun _ h9 => h9) rfl dX8_come_30 ?_
        refine lv_bipush (v := (nI (90))) hx hb dX8_come_33 (by decide) ?_
        refine q_icmp_ne (x := fcn) (y := 90) (tgt := 44) hx hb dX8_come_35 (by decide) (by omega) (by omega) (fun c35_4 => ?_) (fun c35_4 => ?_)
        · refine lv_aload_n hx hb dX8_come_44 rfl (lv_at hl 1 rfl) ?_
          refine va_get (D := (dC, dI)) (ci := 8) (v := .ref z17) (C := RX8) (T := TX8) (N := 35) hx hb hts uX8 hown hK hP 3 rfl rfl 17 (by decide) (hts _ kfX8_47) (fun _ h9 => h9) rfl dX8_come_45 ?_
          refine lv_aload_n hx hb dX8_come_48 rfl (lv_at hl 1 rfl) ?_
          refine va_get (D := (dC, dI)) (ci := 8) (v := .int (nI (fcn))) (C := RX8) (T := TX8) (N := 35) hx hb hts uX8 hown hK hP 3 rfl rfl 16 (by decide) (hts _ kfX8_162) (fun _ h9 => h9) rfl dX8_come_49 ?_
          refine lv_aload_n hx hb dX8_come_52 rfl (lv_at hl 1 rfl) ?_
          refine va_get (D := (dC, dI)) (ci := 8) (v := .int (nI (md8))) (C := RX8) (T := TX8) (N := 35) hx hb hts uX8 hown hK hP 3 rfl rfl 20 (by decide) (hts _ kfX8_121) (fun _ h9 => h9) rfl dX8_come_53 ?_
          refine q_iastN hx hb hK hP hD hS 0 0 rfl rfl (j := fcn) (x := md8) (by omega) (by omega) dX8_come_56 (fun H locs hP hD hS => ?_)
          have hP : va_P (dC, dI) qCl [(z17, .inl (cI, 90, .inl (nF (va_up zs fcn md8)))), (z18, .inl (cI, 360, .inl (nF cs))), (z19, .inl (cI, 180, .inl (oF hs))), (x0, .inr (8, mO ax z1 z2 z3 fc z5 z6 z7 qs z9 z10 z11 z12 z13 hd lg fcn z17 z18 z19 md8 z21 z22 z23 z24 hc z26 z27 z28 z29 z30 z31 sm z33 z34)), (z21, .inl (cI, 4, .inl (nF pp8))), (z22, .inl (cI, 4, .inl (nF pa8))), (z23, .inl (cI, 4, .inl (nF pb8))), (z24, .inl (cI, 2, .inl (oF he))), (z26, .inl (cI, 18, .inl (nF nd8))), (z27, .inl (cI, 4, .inl (nF le8))), (z28, .inl (cI, 4, .inl (nF rq8))), (z29, .inl (cI, 4, .inl (nF fe8))), (z30, .inl (cI, 4, .inl (nF pk8)))] H := hP
          have hD : va_D A [(z17, .inl (cI, 90, .inl (nF (va_up zs fcn md8)))), (z18, .inl (cI, 360, .inl (nF cs))), (z19, .inl (cI, 180, .inl (oF hs))), (x0, .inr (8, mO ax z1 z2 z3 fc z5 z6 z7 qs z9 z10 z11 z12 z13 hd lg fcn z17 z18 z19 md8 z21 z22 z23 z24 hc z26 z27 z28 z29 z30 z31 sm z33 z34)), (z21, .inl (cI, 4, .inl (nF pp8))), (z22, .inl (cI, 4, .inl (nF pa8))), (z23, .inl (cI, 4, .inl (nF pb8))), (z24, .inl (cI, 2, .inl (oF he))), (z26, .inl (cI, 18, .inl (nF nd8))), (z27, .inl (cI, 4, .inl (nF le8))), (z28, .inl (cI, 4, .inl (nF rq8))), (z29, .inl (cI, 4, .inl (nF fe8))), (z30, .inl (cI, 4, .inl (nF pk8)))] := hD
          refine lv_aload_n hx hb dX8_come_57 rfl (lv_at hl 1 rfl) ?_
          refine va_get (D := (dC, dI)) (ci := 8) (v := .ref z19) (C := RX8) (T := TX8) (N := 35) hx hb hts uX8 hown hK hP 3 rfl rfl 19 (by decide) (hts _ kfX8_53) (fun _ h9 => h9) rfl dX8_come_58 ?_
          refine lv_iconst (v := (nI (2))) hx hb dX8_come_61 (by decide) ?_
          refine lv_aload_n hx hb dX8_come_62 rfl (lv_at hl 1 rfl) ?_
          refine va_get (D := (dC, dI)) (ci := 8) (v := .int (nI (fcn))) (C := RX8) (T := TX8) (N := 35) hx hb hts uX8 hown hK hP 3 rfl rfl 16 (by decide) (hts _ kfX8_162) (fun _ h9 => h9) rfl dX8_come_63 ?_
          refine q_imul (x := 2) (y := fcn) hx hb dX8_come_66 ?_
          refine lv_aload_n hx hb dX8_come_67 rfl (lv_at hl 1 rfl) ?_
          refine lv_iconst (v := (nI (0))) hx hb dX8_come_68 (by decide) ?_
          refine vp_callSi (va_Run.run (va_runV (As := [.int (nI (0))]) (rest := [.int (nI (2 * fcn)), .ref z19]) ⟨hx, hb, hml, hown, hts⟩ (c_Model_headName l dC dI cI cL cQ cZ x0 ax z1 z2 z3 fc z5 z6 z7 qs z9 z10 z11 z12 z13 hd lg fcn z17 z18 z19 md8 z21 z22 z23 z24 hc z26 z27 z28 z29 z30 z31 sm z33 z34 he 0 (show hc ≤ 2 from by (exact hhc)) (show 0 < 2 from by first | assumption | omega) (show m_hok he hc from by (exact hhe))) (q_cwV 1 hts gkX8_headName kmX8_156 knX8_headName klX8_headName kiX8 rfl rfl rfl (by decide +kernel) ⟨Nat.le_of_ble_eq_true rfl, Nat.le_of_ble_eq_true rfl⟩) (q_preV hK hP [3, 7] rfl 3 (ci := 8) (r := (RX8, TX8, 35)) rfl rfl) rfl rfl hl.1 rfl (lv_room (Nat.le_of_ble_eq_true rfl)) dX8_come_69 ⟨Nat.zero_le _, Nat.zero_le _⟩)) (fun r5 hr5 => ?_)
          subst hr5
          refine q_iastO hx hb hK hP hD hS 2 0 rfl rfl (j := 2 * fcn) (x := m_hn (m_h he) hc 0) (by omega) (by omega) dX8_come_72 (fun H locs hP hD hS => ?_)
          have hP : va_P (dC, dI) qCl [(z17, .inl (cI, 90, .inl (nF (va_up zs fcn md8)))), (z18, .inl (cI, 360, .inl (nF cs))), (z19, .inl (cI, 180, .inl (oF (va_up hs (2 * fcn) (m_hn (m_h he) hc 0))))), (x0, .inr (8, mO ax z1 z2 z3 fc z5 z6 z7 qs z9 z10 z11 z12 z13 hd lg fcn z17 z18 z19 md8 z21 z22 z23 z24 hc z26 z27 z28 z29 z30 z31 sm z33 z34)), (z21, .inl (cI, 4, .inl (nF pp8))), (z22, .inl (cI, 4, .inl (nF pa8))), (z23, .inl (cI, 4, .inl (nF pb8))), (z24, .inl (cI, 2, .inl (oF he))), (z26, .inl (cI, 18, .inl (nF nd8))), (z27, .inl (cI, 4, .inl (nF le8))), (z28, .inl (cI, 4, .inl (nF rq8))), (z29, .inl (cI, 4, .inl (nF fe8))), (z30, .inl (cI, 4, .inl (nF pk8)))] H := hP
          have hD : va_D A [(z17, .inl (cI, 90, .inl (nF (va_up zs fcn md8)))), (z18, .inl (cI, 360, .inl (nF cs))), (z19, .inl (cI, 180, .inl (oF (va_up hs (2 * fcn) (m_hn (m_h he) hc 0))))), (x0, .inr (8, mO ax z1 z2 z3 fc z5 z6 z7 qs z9 z10 z11 z12 z13 hd lg fcn z17 z18 z19 md8 z21 z22 z23 z24 hc z26 z27 z28 z29 z30 z31 sm z33 z34)), (z21, .inl (cI, 4, .inl (nF pp8))), (z22, .inl (cI, 4, .inl (nF pa8))), (z23, .inl (cI, 4, .inl (nF pb8))), (z24, .inl (cI, 2, .inl (oF he))), (z26, .inl (cI, 18, .inl (nF nd8))), (z27, .inl (cI, 4, .inl (nF le8))), (z28, .inl (cI, 4, .inl (nF rq8))), (z29, .inl (cI, 4, .inl (nF fe8))), (z30, .inl (cI, 4, .inl (nF pk8)))] := hD
          refine lv_aload_n hx hb dX8_come_73 rfl (lv_at hl 1 rfl) ?_
          refine va_get (D := (dC, dI)) (ci := 8) (v := .ref z19) (C := RX8) (T := TX8) (N := 35) hx hb hts uX8 hown hK hP 3 rfl rfl 19 (by decide) (hts _ kfX8_53) (fun _ h9 => h9) rfl dX8_come_74 ?_
          refine lv_iconst (v := (nI (2))) hx hb dX8_come_77 (by decide) ?_
          refine lv_aload_n hx hb dX8_come_78 rfl (lv_at hl 1 rfl) ?_
          refine va_get (D := (dC, dI)) (ci := 8) (v := .int (nI (fcn))) (C := RX8) (T := TX8) (N := 35) hx hb hts uX8 hown hK hP 3 rfl rfl 16 (by decide) (hts _ kfX8_162) (fun _ h9 => h9) rfl dX8_come_79 ?_
          refine q_imul (x := 2) (y := fcn) hx hb dX8_come_82 ?_
          refine lv_iconst (v := (nI (1))) hx hb dX8_come_83 (by decide) ?_
          refine q_iadd (x := 2 * fcn) (y := 1) hx hb dX8_come_84 ?_
          refine lv_aload_n hx hb dX8_come_85 rfl (lv_at hl 1 rfl) ?_
          refine lv_iconst (v := (nI (1))) hx hb dX8_come_86 (by decide) ?_
          refine vp_callSi (va_Run.run (va_runV (As := [.int (nI (1))]) (rest := [.int (nI ((2 * fcn) + 1)), .ref z19]) ⟨hx, hb, hml, hown, hts⟩ (c_Model_headName l dC dI cI cL cQ cZ x0 ax z1 z2 z3 fc z5 z6 z7 qs z9 z10 z11 z12 z13 hd lg fcn z17 z18 z19 md8 z21 z22 z23 z24 hc z26 z27 z28 z29 z30 z31 sm z33 z34 he 1 (show hc ≤ 2 from by (exact hhc)) (show 1 < 2 from by first | assumption | omega) (show m_hok he hc from by (exact hhe))) (q_cwV 1 hts gkX8_headName kmX8_156 knX8_headName klX8_headName kiX8 rfl rfl rfl (by decide +kernel) ⟨Nat.le_of_ble_eq_true rfl, Nat.le_of_ble_eq_true rfl⟩) (q_preV hK hP [3, 7] rfl 3 (ci := 8) (r := (RX8, TX8, 35)) rfl rfl) rfl rfl hl.1 rfl (lv_room (Nat.le_of_ble_eq_true rfl)) dX8_come_87 ⟨Nat.zero_le _, Nat.zero_le _⟩)) (fun r6 hr6 => ?_)
          subst hr6
          refine q_iastO hx hb hK hP hD hS 2 0 rfl rfl (j := (2 * fcn) + 1) (x := m_hn (m_h he) hc 1) (by omega) (by omega) dX8_come_90 (fun H locs hP hD hS => ?_)
          have hP : va_P (dC, dI) qCl [(z17, .inl (cI, 90, .inl (nF (va_up zs fcn md8)))), (z18, .inl (cI, 360, .inl (nF cs))), (z19, .inl (cI, 180, .inl (oF (va_up (va_up hs (2 * fcn) (m_hn (m_h he) hc 0)) ((2 * fcn) + 1) (m_hn (m_h he) hc 1))))), (x0, .inr (8, mO ax z1 z2 z3 fc z5 z6 z7 qs z9 z10 z11 z12 z13 hd lg fcn z17 z18 z19 md8 z21 z22 z23 z24 hc z26 z27 z28 z29 z30 z31 sm z33 z34)), (z21, .inl (cI, 4, .inl (nF pp8))), (z22, .inl (cI, 4, .inl (nF pa8))), (z23, .inl (cI, 4, .inl (nF pb8))), (z24, .inl (cI, 2, .inl (oF he))), (z26, .inl (cI, 18, .inl (nF nd8))), (z27, .inl (cI, 4, .inl (nF le8))), (z28, .inl (cI, 4, .inl (nF rq8))), (z29, .inl (cI, 4, .inl (nF fe8))), (z30, .inl (cI, 4, .inl (nF pk8)))] H := hP
          have hD : va_D A [(z17, .inl (cI, 90, .inl (nF (va_up zs fcn md8)))), (z18, .inl (cI, 360, .inl (nF cs))), (z19, .inl (cI, 180, .inl (oF (va_up (va_up hs (2 * fcn) (m_hn (m_h he) hc 0)) ((2 * fcn) + 1) (m_hn (m_h he) hc 1))))), (x0, .inr (8, mO ax z1 z2 z3 fc z5 z6 z7 qs z9 z10 z11 z12 z13 hd lg fcn z17 z18 z19 md8 z21 z22 z23 z24 hc z26 z27 z28 z29 z30 z31 sm z33 z34)), (z21, .inl (cI, 4, .inl (nF pp8))), (z22, .inl (cI, 4, .inl (nF pa8))), (z23, .inl (cI, 4, .inl (nF pb8))), (z24, .inl (cI, 2, .inl (oF he))), (z26, .inl (cI, 18, .inl (nF nd8))), (z27, .inl (cI, 4, .inl (nF le8))), (z28, .inl (cI, 4, .inl (nF rq8))), (z29, .inl (cI, 4, .inl (nF fe8))), (z30, .inl (cI, 4, .inl (nF pk8)))] := hD
          refine lv_iconst (v := (nI (0))) hx hb dX8_come_91 (by decide) ?_
          refine lv_istore_n (lv' := [(1, .int (nI (0))), (0, .ref x0)]) hx hb dX8_come_92 rfl hl (by decide) rfl (fun ls hl => ?_)
          have L93 : ∀ (fu : Nat) (k : Nat) (cx : Nat → Nat) (ls : Array Slot) (H : Heap) (locs : List Loc), md8 - k < fu → (k ≤ md8) → (cx = m_cps cs le8 fcn k) → lv_has ls 2 [(1, .int (nI (k))), (0, .ref x0)] → va_P (dC, dI) qCl [(x0, .inr (8, mO ax z1 z2 z3 fc z5 z6 z7 qs z9 z10 z11 z12 z13 hd lg fcn z17 z18 z19 md8 z21 z22 z23 z24 hc z26 z27 z28 z29 z30 z31 sm z33 z34)), (z21, .inl (cI, 4, .inl (nF pp8))), (z22, .inl (cI, 4, .inl (nF pa8))), (z23, .inl (cI, 4, .inl (nF pb8))), (z24, .inl (cI, 2, .inl (oF he))), (z26, .inl (cI, 18, .inl (nF nd8))), (z27, .inl (cI, 4, .inl (nF le8))), (z28, .inl (cI, 4, .inl (nF rq8))), (z29, .inl (cI, 4, .inl (nF fe8))), (z30, .inl (cI, 4, .inl (nF pk8))), (z17, .inl (cI, 90, .inl (nF (va_up zs fcn md8)))), (z18, .inl (cI, 360, .inl (nF cx))), (z19, .inl (cI, 180, .inl (oF (va_up (va_up hs (2 * fcn) (m_hn (m_h he) hc 0)) ((2 * fcn) + 1) (m_hn (m_h he) hc 1)))))] H → va_D A [(x0, .inr (8, mO ax z1 z2 z3 fc z5 z6 z7 qs z9 z10 z11 z12 z13 hd lg fcn z17 z18 z19 md8 z21 z22 z23 z24 hc z26 z27 z28 z29 z30 z31 sm z33 z34)), (z21, .inl (cI, 4, .inl (nF pp8))), (z22, .inl (cI, 4, .inl (nF pa8))), (z23, .inl (cI, 4, .inl (nF pb8))), (z24, .inl (cI, 2, .inl (oF he))), (z26, .inl (cI, 18, .inl (nF nd8))), (z27, .inl (cI, 4, .inl (nF le8))), (z28, .inl (cI, 4, .inl (nF rq8))), (z29, .inl (cI, 4, .inl (nF fe8))), (z30, .inl (cI, 4, .inl (nF pk8))), (z17, .inl (cI, 90, .inl (nF (va_up zs fcn md8)))), (z18, .inl (cI, 360, .inl (nF cx))), (z19, .inl (cI, 180, .inl (oF (va_up (va_up hs (2 * fcn) (m_hn (m_h he) hc 0)) ((2 * fcn) + 1) (m_hn (m_h he) hc 1)))))] → va_S A s.heap H locs → W p l e (headSpec wkX8_come rm_c_Model_come).room s m args below meth c H locs 0 0 Q (F0 m 93 ls []) := by
            intro fu
            induction fu with
            | zero => intro k cx ls H locs hmu; exact absurd hmu (Nat.not_lt_zero _)
            | succ fu ih93 =>
              intro k cx ls H locs hmu hk hcx hl hP hD hS
              refine lv_iload_n hx hb dX8_come_93 rfl (lv_at hl 0 rfl) ?_
              refine lv_aload_n hx hb dX8_come_94 rfl (lv_at hl 1 rfl) ?_
              refine va_get (D := (dC, dI)) (ci := 8) (v := .int (nI (md8))) (C := RX8) (T := TX8) (N := 35) hx hb hts uX8 hown hK hP 0 rfl rfl 20 (by decide) (hts _ kfX8_121) (fun _ h9 => h9) rfl dX8_come_95 ?_
              refine q_icmp_ge (x := k) (y := md8) (tgt := 126) hx hb dX8_come_98 (by decide) (by omega) (by omega) (fun c98_7 => ?_) (fun c98_7 => ?_)
              · have ea8 : (cx) = m_cps cs le8 fcn md8 := by (rw [hcx, show k = md8 by omega])
                rw [ea8] at hP hD
                have hP : va_P (dC, dI) qCl [(x0, .inr (8, mO ax z1 z2 z3 fc z5 z6 z7 qs z9 z10 z11 z12 z13 hd lg fcn z17 z18 z19 md8 z21 z22 z23 z24 hc z26 z27 z28 z29 z30 z31 sm z33 z34)), (z21, .inl (cI, 4, .inl (nF pp8))), (z22, .inl (cI, 4, .inl (nF pa8))), (z23, .inl (cI, 4, .inl (nF pb8))), (z24, .inl (cI, 2, .inl (oF he))), (z26, .inl (cI, 18, .inl (nF nd8))), (z27, .inl (cI, 4, .inl (nF le8))), (z28, .inl (cI, 4, .inl (nF rq8))), (z29, .inl (cI, 4, .inl (nF fe8))), (z30, .inl (cI, 4, .inl (nF pk8))), (z17, .inl (cI, 90, .inl (nF (va_up zs fcn md8)))), (z18, .inl (cI, 360, .inl (nF (m_cps cs le8 fcn md8)))), (z19, .inl (cI, 180, .inl (oF (va_up (va_up hs (2 * fcn) (m_hn (m_h he) hc 0)) ((2 * fcn) + 1) (m_hn (m_h he) hc 1)))))] H := hP
                have hD : va_D A [(x0, .inr (8, mO ax z1 z2 z3 fc z5 z6 z7 qs z9 z10 z11 z12 z13 hd lg fcn z17 z18 z19 md8 z21 z22 z23 z24 hc z26 z27 z28 z29 z30 z31 sm z33 z34)), (z21, .inl (cI, 4, .inl (nF pp8))), (z22, .inl (cI, 4, .inl (nF pa8))), (z23, .inl (cI, 4, .inl (nF pb8))), (z24, .inl (cI, 2, .inl (oF he))), (z26, .inl (cI, 18, .inl (nF nd8))), (z27, .inl (cI, 4, .inl (nF le8))), (z28, .inl (cI, 4, .inl (nF rq8))), (z29, .inl (cI, 4, .inl (nF fe8))), (z30, .inl (cI, 4, .inl (nF pk8))), (z17, .inl (cI, 90, .inl (nF (va_up zs fcn md8)))), (z18, .inl (cI, 360, .inl (nF (m_cps cs le8 fcn md8)))), (z19, .inl (cI, 180, .inl (oF (va_up (va_up hs (2 * fcn) (m_hn (m_h he) hc 0)) ((2 * fcn) + 1) (m_hn (m_h he) hc 1)))))] := hD
                refine lv_aload_n hx hb dX8_come_126 rfl (lv_at hl 1 rfl) ?_
                refine lv_dup hx hb dX8_come_127 rfl ?_
                refine va_get (D := (dC, dI)) (ci := 8) (v := .int (nI (fcn))) (C := RX8) (T := TX8) (N := 35) hx hb hts uX8 hown hK hP 0 rfl rfl 16 (by decide) (hts _ kfX8_162) (fun _ h9 => h9) rfl dX8_come_128 ?_
                refine lv_iconst (v := (nI (1))) hx hb dX8_come_131 (by decide) ?_
                refine q_iadd (x := fcn) (y := 1) hx hb dX8_come_132 ?_
                refine va_put (D := (dC, dI)) (ci := 8) (v := .int (nI (fcn + 1))) (ty := .int) (C := RX8) (T := TX8) (N := 35) hx hb hts uX8 tyX8 tyX8_ok nmX8 hown hK hP hD hS 0 rfl rfl 16 (by decide) (hts _ kfX8_162) (fun _ h9 => h9) rfl (by decide +kernel) (rfl) (rfl) (Nat.le_of_ble_eq_true rfl) dX8_come_133 (fun H locs hP hD hS => ?_)
                have hP : va_P (dC, dI) qCl [(x0, .inr (8, mO ax z1 z2 z3 fc z5 z6 z7 qs z9 z10 z11 z12 z13 hd lg (fcn + 1) z17 z18 z19 md8 z21 z22 z23 z24 hc z26 z27 z28 z29 z30 z31 sm z33 z34)), (z21, .inl (cI, 4, .inl (nF pp8))), (z22, .inl (cI, 4, .inl (nF pa8))), (z23, .inl (cI, 4, .inl (nF pb8))), (z24, .inl (cI, 2, .inl (oF he))), (z26, .inl (cI, 18, .inl (nF nd8))), (z27, .inl (cI, 4, .inl (nF le8))), (z28, .inl (cI, 4, .inl (nF rq8))), (z29, .inl (cI, 4, .inl (nF fe8))), (z30, .inl (cI, 4, .inl (nF pk8))), (z17, .inl (cI, 90, .inl (nF (va_up zs fcn md8)))), (z18, .inl (cI, 360, .inl (nF (m_cps cs le8 fcn md8)))), (z19, .inl (cI, 180, .inl (oF (va_up (va_up hs (2 * fcn) (m_hn (m_h he) hc 0)) ((2 * fcn) + 1) (m_hn (m_h he) hc 1)))))] H := hP
                have hD : va_D A [(x0, .inr (8, mO ax z1 z2 z3 fc z5 z6 z7 qs z9 z10 z11 z12 z13 hd lg (fcn + 1) z17 z18 z19 md8 z21 z22 z23 z24 hc z26 z27 z28 z29 z30 z31 sm z33 z34)), (z21, .inl (cI, 4, .inl (nF pp8))), (z22, .inl (cI, 4, .inl (nF pa8))), (z23, .inl (cI, 4, .inl (nF pb8))), (z24, .inl (cI, 2, .inl (oF he))), (z26, .inl (cI, 18, .inl (nF nd8))), (z27, .inl (cI, 4, .inl (nF le8))), (z28, .inl (cI, 4, .inl (nF rq8))), (z29, .inl (cI, 4, .inl (nF fe8))), (z30, .inl (cI, 4, .inl (nF pk8))), (z17, .inl (cI, 90, .inl (nF (va_up zs fcn md8)))), (z18, .inl (cI, 360, .inl (nF (m_cps cs le8 fcn md8)))), (z19, .inl (cI, 180, .inl (oF (va_up (va_up hs (2 * fcn) (m_hn (m_h he) hc 0)) ((2 * fcn) + 1) (m_hn (m_h he) hc 1)))))] := hD
                subst hQ
                subst hAe
                have hP9 := hP.sub (ws' := [(x0, .inr (8, mO ax z1 z2 z3 fc z5 z6 z7 qs z9 z10 z11 z12 z13 hd lg (fcn + 1) z17 z18 z19 md8 z21 z22 z23 z24 hc z26 z27 z28 z29 z30 z31 sm z33 z34)), (z21, .inl (cI, 4, .inl (nF pp8))), (z22, .inl (cI, 4, .inl (nF pa8))), (z23, .inl (cI, 4, .inl (nF pb8))), (z24, .inl (cI, 2, .inl (oF he))), (z26, .inl (cI, 18, .inl (nF nd8))), (z27, .inl (cI, 4, .inl (nF le8))), (z28, .inl (cI, 4, .inl (nF rq8))), (z29, .inl (cI, 4, .inl (nF fe8))), (z30, .inl (cI, 4, .inl (nF pk8))), (z17, .inl (cI, 90, .inl (nF (va_up zs fcn md8)))), (z18, .inl (cI, 360, .inl (nF (m_cps cs le8 fcn md8)))), (z19, .inl (cI, 180, .inl (oF (va_up (va_up hs (2 * fcn) (m_hn (m_h he) hc 0)) ((2 * fcn) + 1) (m_hn (m_h he) hc 1)))))]) [0, 1, 2, 3, 4, 5, 6, 7, 8, 9, 10, 11, 12] rfl
                exact W.vret hx hb hr (fun t9 h9 _ => ⟨⟨(md8, pp8, pa8, pb8, nd8, le8, rq8, fe8, pk8, va_up zs fcn md8, m_cps cs le8 fcn md8, va_up (va_up hs (2 * fcn) (m_hn (m_h he) hc 0)) ((2 * fcn) + 1) (m_hn (m_h he) hc 1), fcn + 1, lg, f_row jn md8 le8), rfl, ⟨(show m_ppk md8 pp8 pa8 pb8 from by (exact hpk8)), (show m_wkk nd8 le8 rq8 fe8 pk8 from by (exact hwk8)), (show m_arr (va_up zs fcn md8) (m_cps cs le8 fcn md8) (va_up (va_up hs (2 * fcn) (m_hn (m_h he) hc 0)) ((2 * fcn) + 1) (m_hn (m_h he) hc 1)) from by (first | exact har | exact m_arr_new har hpk8.1 hle8)), (show c_can (c_set pp (m_pv pa pb) md) jn (f_row jn md8 le8) from by (exact hcan8)), (show m_cm hc zs cs hs fcn lg (f_row jn md8 le8) (va_up zs fcn md8) (m_cps cs le8 fcn md8) (va_up (va_up hs (2 * fcn) (m_hn (m_h he) hc 0)) ((2 * fcn) + 1) (m_hn (m_h he) hc 1)) (fcn + 1) lg from by (exact m_cm_new hhc hfr hhj hfo9.2.2.1 hpk8.1 hle8 hnf (by omega)))⟩, by show va_P _ _ _ t9.heap; rw [h9]; exact hP9⟩, hS.F h9⟩) hS.2.2 dX8_come_136
              · refine lv_aload_n hx hb dX8_come_101 rfl (lv_at hl 1 rfl) ?_
                refine va_get (D := (dC, dI)) (ci := 8) (v := .ref z18) (C := RX8) (T := TX8) (N := 35) hx hb hts uX8 hown hK hP 0 rfl rfl 18 (by decide) (hts _ kfX8_50) (fun _ h9 => h9) rfl dX8_come_102 ?_
                refine lv_iconst (v := (nI (4))) hx hb dX8_come_105 (by decide) ?_
                refine lv_aload_n hx hb dX8_come_106 rfl (lv_at hl 1 rfl) ?_
                refine va_get (D := (dC, dI)) (ci := 8) (v := .int (nI (fcn))) (C := RX8) (T := TX8) (N := 35) hx hb hts uX8 hown hK hP 0 rfl rfl 16 (by decide) (hts _ kfX8_162) (fun _ h9 => h9) rfl dX8_come_107 ?_
                refine q_imul (x := 4) (y := fcn) hx hb dX8_come_110 ?_
                refine lv_iload_n hx hb dX8_come_111 rfl (lv_at hl 0 rfl) ?_
                refine q_iadd (x := 4 * fcn) (y := k) hx hb dX8_come_112 ?_
                refine lv_aload_n hx hb dX8_come_113 rfl (lv_at hl 1 rfl) ?_
                refine va_get (D := (dC, dI)) (ci := 8) (v := .ref z27) (C := RX8) (T := TX8) (N := 35) hx hb hts uX8 hown hK hP 0 rfl rfl 27 (by decide) (hts _ kfX8_71) (fun _ h9 => h9) rfl dX8_come_114 ?_
                refine lv_iload_n hx hb dX8_come_117 rfl (lv_at hl 0 rfl) ?_
                refine q_ialdN hx hb hK hP 6 0 rfl rfl (j := k) (by omega) (by omega) dX8_come_118 ?_
                refine q_iastN hx hb hK hP hD hS 11 0 rfl rfl (j := (4 * fcn) + k) (x := le8 k) (by omega) (by omega) dX8_come_119 (fun H locs hP hD hS => ?_)
                have hP : va_P (dC, dI) qCl [(x0, .inr (8, mO ax z1 z2 z3 fc z5 z6 z7 qs z9 z10 z11 z12 z13 hd lg fcn z17 z18 z19 md8 z21 z22 z23 z24 hc z26 z27 z28 z29 z30 z31 sm z33 z34)), (z21, .inl (cI, 4, .inl (nF pp8))), (z22, .inl (cI, 4, .inl (nF pa8))), (z23, .inl (cI, 4, .inl (nF pb8))), (z24, .inl (cI, 2, .inl (oF he))), (z26, .inl (cI, 18, .inl (nF nd8))), (z27, .inl (cI, 4, .inl (nF le8))), (z28, .inl (cI, 4, .inl (nF rq8))), (z29, .inl (cI, 4, .inl (nF fe8))), (z30, .inl (cI, 4, .inl (nF pk8))), (z17, .inl (cI, 90, .inl (nF (va_up zs fcn md8)))), (z18, .inl (cI, 360, .inl (nF (va_up cx ((4 * fcn) + k) (le8 k))))), (z19, .inl (cI, 180, .inl (oF (va_up (va_up hs (2 * fcn) (m_hn (m_h he) hc 0)) ((2 * fcn) + 1) (m_hn (m_h he) hc 1)))))] H := hP
                have hD : va_D A [(x0, .inr (8, mO ax z1 z2 z3 fc z5 z6 z7 qs z9 z10 z11 z12 z13 hd lg fcn z17 z18 z19 md8 z21 z22 z23 z24 hc z26 z27 z28 z29 z30 z31 sm z33 z34)), (z21, .inl (cI, 4, .inl (nF pp8))), (z22, .inl (cI, 4, .inl (nF pa8))), (z23, .inl (cI, 4, .inl (nF pb8))), (z24, .inl (cI, 2, .inl (oF he))), (z26, .inl (cI, 18, .inl (nF nd8))), (z27, .inl (cI, 4, .inl (nF le8))), (z28, .inl (cI, 4, .inl (nF rq8))), (z29, .inl (cI, 4, .inl (nF fe8))), (z30, .inl (cI, 4, .inl (nF pk8))), (z17, .inl (cI, 90, .inl (nF (va_up zs fcn md8)))), (z18, .inl (cI, 360, .inl (nF (va_up cx ((4 * fcn) + k) (le8 k))))), (z19, .inl (cI, 180, .inl (oF (va_up (va_up hs (2 * fcn) (m_hn (m_h he) hc 0)) ((2 * fcn) + 1) (m_hn (m_h he) hc 1)))))] := hD
                refine lv_iinc (v := (nI (k + 1))) (lv' := [(1, .int (nI (k + 1))), (0, .ref x0)]) hx hb dX8_come_120 hl (k := 0) rfl (q_inc _) (by decide) rfl (fun ls hl => ?_)
                refine lv_goto (tgt := 93) hx hb dX8_come_123 (by decide) ?_
                exact ih93 (k + 1) (va_up cx ((4 * fcn) + k) (le8 k)) ls _ _ (by omega) (show (k + 1) ≤ md8 from by omega) (show (va_up cx ((4 * fcn) + k) (le8 k)) = m_cps cs le8 fcn (k + 1) from by (rw [hcx]; exact m_cps_s _ _ _ _)) (lv_sub hl [0, 1] rfl) (hP.sub [0, 1, 2, 3, 4, 5, 6, 7, 8, 9, 10, 11, 12] rfl) (hD.sub [0, 1, 2, 3, 4, 5, 6, 7, 8, 9, 10, 11, 12] (by decide) rfl) hS
          exact L93 _ 0 cs ls _ _ (by exact Nat.lt_succ_self _) (show 0 ≤ md8 from by omega) (show cs = m_cps cs le8 fcn 0 from by (exact (m_cps_0 _ _ _).symm)) (lv_sub hl [0, 1] rfl) (hP.sub [3, 4, 5, 6, 7, 8, 9, 10, 11, 12, 0, 1, 2] rfl) (hD.sub [3, 4, 5, 6, 7, 8, 9, 10, 11, 12, 0, 1, 2] (by decide) rfl) hS
        · refine lv_aload_n hx hb dX8_come_38 rfl (lv_at hl 1 rfl) ?_
          refine lv_iconst (v := (nI (1))) hx hb dX8_come_39 (by decide) ?_
          refine va_put (D := (dC, dI)) (ci := 8) (v := .int (bI (true))) (ty := .boolean) (C := RX8) (T := TX8) (N := 35) hx hb hts uX8 tyX8 tyX8_ok nmX8 hown hK hP hD hS 3 rfl rfl 15 (by decide) (hts _ kfX8_168) (fun _ h9 => h9) rfl (by decide +kernel) (bI_nar _) (rfl) (Nat.le_of_ble_eq_true rfl) dX8_come_40 (fun H locs hP hD hS => ?_)
          have hP : va_P (dC, dI) qCl [(z17, .inl (cI, 90, .inl (nF zs))), (z18, .inl (cI, 360, .inl (nF cs))), (z19, .inl (cI, 180, .inl (oF hs))), (x0, .inr (8, mO ax z1 z2 z3 fc z5 z6 z7 qs z9 z10 z11 z12 z13 hd true fcn z17 z18 z19 md8 z21 z22 z23 z24 hc z26 z27 z28 z29 z30 z31 sm z33 z34)), (z21, .inl (cI, 4, .inl (nF pp8))), (z22, .inl (cI, 4, .inl (nF pa8))), (z23, .inl (cI, 4, .inl (nF pb8))), (z24, .inl (cI, 2, .inl (oF he))), (z26, .inl (cI, 18, .inl (nF nd8))), (z27, .inl (cI, 4, .inl (nF le8))), (z28, .inl (cI, 4, .inl (nF rq8))), (z29, .inl (cI, 4, .inl (nF fe8))), (z30, .inl (cI, 4, .inl (nF pk8)))] H := hP
          have hD : va_D A [(z17, .inl (cI, 90, .inl (nF zs))), (z18, .inl (cI, 360, .inl (nF cs))), (z19, .inl (cI, 180, .inl (oF hs))), (x0, .inr (8, mO ax z1 z2 z3 fc z5 z6 z7 qs z9 z10 z11 z12 z13 hd true fcn z17 z18 z19 md8 z21 z22 z23 z24 hc z26 z27 z28 z29 z30 z31 sm z33 z34)), (z21, .inl (cI, 4, .inl (nF pp8))), (z22, .inl (cI, 4, .inl (nF pa8))), (z23, .inl (cI, 4, .inl (nF pb8))), (z24, .inl (cI, 2, .inl (oF he))), (z26, .inl (cI, 18, .inl (nF nd8))), (z27, .inl (cI, 4, .inl (nF le8))), (z28, .inl (cI, 4, .inl (nF rq8))), (z29, .inl (cI, 4, .inl (nF fe8))), (z30, .inl (cI, 4, .inl (nF pk8)))] := hD
          subst hQ
          subst hAe
          have hP9 := hP.sub (ws' := [(x0, .inr (8, mO ax z1 z2 z3 fc z5 z6 z7 qs z9 z10 z11 z12 z13 hd true fcn z17 z18 z19 md8 z21 z22 z23 z24 hc z26 z27 z28 z29 z30 z31 sm z33 z34)), (z21, .inl (cI, 4, .inl (nF pp8))), (z22, .inl (cI, 4, .inl (nF pa8))), (z23, .inl (cI, 4, .inl (nF pb8))), (z24, .inl (cI, 2, .inl (oF he))), (z26, .inl (cI, 18, .inl (nF nd8))), (z27, .inl (cI, 4, .inl (nF le8))), (z28, .inl (cI, 4, .inl (nF rq8))), (z29, .inl (cI, 4, .inl (nF fe8))), (z30, .inl (cI, 4, .inl (nF pk8))), (z17, .inl (cI, 90, .inl (nF zs))), (z18, .inl (cI, 360, .inl (nF cs))), (z19, .inl (cI, 180, .inl (oF hs)))]) [3, 4, 5, 6, 7, 8, 9, 10, 11, 12, 0, 1, 2] rfl
          exact W.vret hx hb hr (fun t9 h9 _ => ⟨⟨(md8, pp8, pa8, pb8, nd8, le8, rq8, fe8, pk8, zs, cs, hs, fcn, true, f_row jn md8 le8), rfl, ⟨(show m_ppk md8 pp8 pa8 pb8 from by (exact hpk8)), (show m_wkk nd8 le8 rq8 fe8 pk8 from by (exact hwk8)), (show m_arr zs cs hs from by (first | exact har | exact m_arr_new har hpk8.1 hle8)), (show c_can (c_set pp (m_pv pa pb) md) jn (f_row jn md8 le8) from by (exact hcan8)), (show m_cm hc zs cs hs fcn lg (f_row jn md8 le8) zs cs hs fcn true from by (exact m_cm_full hfr hnf (by omega)))⟩, by show va_P _ _ _ t9.heap; rw [h9]; exact hP9⟩, hS.F h9⟩) hS.2.2 dX8_come_43
      · have hsr := m_same_row hhc (hfr.2 f (by omega)) hhj hfo9.2.2.1 hpk8.1 hle8
        refine lv_aload_n hx hb dX8_come_14 rfl (lv_at hl 1 rfl) ?_
        refine lv_iload_n hx hb dX8_come_15 rfl (lv_at hl 0 rfl) ?_
        refine vp_callSi (va_Run.run (va_runV (As := [.int (nI (f))]) (rest := []) ⟨hx, hb, hml, hown, hts⟩ (c_Model_isForm l dC dI cI cL cQ cZ x0 ax z1 z2 z3 fc z5 z6 z7 qs z9 z10 z11 z12 z13 hd lg fcn z17 z18 z19 md8 z21 z22 z23 z24 hc z26 z27 z28 z29 z30 z31 sm z33 z34 zs cs hs he le8 f (show f < 90 from by first | assumption | omega) (show md8 ≤ 4 from by (exact hpk8.1)) (show ∀ j, zs j ≤ 4 from by (exact har.1)) (show ∀ j, cs j < 8192 from by (intro j9; have := har.2.1 j9; omega)) (show ∀ j, le8 j < 8192 from by (exact hwk8.2.1)) (show ∀ j k, hs j = some k → k < 2 from by (exact har.2.2)) (show hc ≤ 2 from by (exact hhc)) (show m_hok he hc from by (exact hhe))) (q_cwV 1 hts gkX8_isForm kmX8_165 knX8_isForm klX8_isForm kiX8 rfl rfl rfl (by decide +kernel) ⟨Nat.le_of_ble_eq_true rfl, Nat.le_of_ble_eq_true rfl⟩) (q_preV hK hP [3, 0, 1, 2, 7, 9] rfl 3 (ci := 8) (r := (RX8, TX8, 35)) rfl rfl) rfl rfl hl.1 rfl (lv_room (Nat.le_of_ble_eq_true rfl)) dX8_come_16 ⟨Nat.zero_le _, Nat.zero_le _⟩)) (fun r9 hr9 => ?_)
        have hr9 : ∃ b9 : Bool, r9 = bI b9 ∧ (b9 = true ↔ m_hsame zs hs (m_h he) md8 hc f ∧ m_csame cs le8 f md8) := hr9
        have hlast := hr9
        obtain ⟨b9, ey9, hw9⟩ := hlast
        refine q_top ey9 ?_
        refine q_ifb_eq (b := b9) (tgt := 23) hx hb dX8_come_19 (by decide) (fun c19_10 => ?_) (fun c19_10 => ?_)
        · refine lv_iinc (v := (nI (f + 1))) (lv' := [(1, .int (nI (f + 1))), (0, .ref x0)]) hx hb dX8_come_23 hl (k := 0) rfl (q_inc _) (by decide) rfl (fun ls hl => ?_)
          refine lv_goto (tgt := 6) hx hb dX8_come_26 (by decide) ?_
          exact ih6 (f + 1) ls _ _ (by omega) (show (f + 1) ≤ fcn from by omega) (show m_new zs cs hs (f + 1) (f_row jn md8 le8) from by (exact m_new_s hnw (fun h9 => b_no (hw9.mpr (hsr.mpr h9)) (by assumption)))) (lv_sub hl [0, 1] rfl) (hP.sub [0, 1, 2, 3, 4, 5, 6, 7, 8, 9, 10, 11, 12] rfl) (hD.sub [0, 1, 2, 3, 4, 5, 6, 7, 8, 9, 10, 11, 12] (by decide) rfl) hS
        · subst hQ
          subst hAe
          have hP9 := hP.sub (ws' := [(x0, .inr (8, mO ax z1 z2 z3 fc z5 z6 z7 qs z9 z10 z11 z12 z13 hd lg fcn z17 z18 z19 md8 z21 z22 z23 z24 hc z26 z27 z28 z29 z30 z31 sm z33 z34)), (z21, .inl (cI, 4, .inl (nF pp8))), (z22, .inl (cI, 4, .inl (nF pa8))), (z23, .inl (cI, 4, .inl (nF pb8))), (z24, .inl (cI, 2, .inl (oF he))), (z26, .inl (cI, 18, .inl (nF nd8))), (z27, .inl (cI, 4, .inl (nF le8))), (z28, .inl (cI, 4, .inl (nF rq8))), (z29, .inl (cI, 4, .inl (nF fe8))), (z30, .inl (cI, 4, .inl (nF pk8))), (z17, .inl (cI, 90, .inl (nF zs))), (z18, .inl (cI, 360, .inl (nF cs))), (z19, .inl (cI, 180, .inl (oF hs)))]) [3, 4, 5, 6, 7, 8, 9, 10, 11, 12, 0, 1, 2] rfl
          exact W.vret hx hb hr (fun t9 h9 _ => ⟨⟨(md8, pp8, pa8, pb8, nd8, le8, rq8, fe8, pk8, zs, cs, hs, fcn, lg, f_row jn md8 le8), rfl, ⟨(show m_ppk md8 pp8 pa8 pb8 from by (exact hpk8)), (show m_wkk nd8 le8 rq8 fe8 pk8 from by (exact hwk8)), (show m_arr zs cs hs from by (first | exact har | exact m_arr_new har hpk8.1 hle8)), (show c_can (c_set pp (m_pv pa pb) md) jn (f_row jn md8 le8) from by (exact hcan8)), (show m_cm hc zs cs hs fcn lg (f_row jn md8 le8) zs cs hs fcn lg from by (exact m_cm_old hfr (show f < fcn by omega) (hsr.mp (hw9.mp (by assumption)))))⟩, by show va_P _ _ _ t9.heap; rw [h9]; exact hP9⟩, hS.F h9⟩) hS.2.2 dX8_come_22
  exact L6 _ 0 ls _ _ (by exact Nat.lt_succ_self _) (show 0 ≤ fcn from by omega) (show m_new zs cs hs 0 (f_row jn md8 le8) from by (intro f9 h9; omega)) (lv_sub hl [0, 1] rfl) (hP.sub [0, 1, 2, 3, 4, 5, 6, 7, 8, 9, 10, 11, 12] rfl) (hD.sub [0, 1, 2, 3, 4, 5, 6, 7, 8, 9, 10, 11, 12] (by decide) rfl) hS
