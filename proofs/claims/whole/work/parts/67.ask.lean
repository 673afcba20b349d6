/-! What the reference finds by its forms -/
def m_fd (fn fo ft : Nat → Nat) (fc hc r j : Nat) : Prop := g_rea (m_K (d_cd r) fn fo ft fc) (m_E (m_hs0 hc) (m_hs1 hc (d_j r))) fc (d_n r) 0 (fun _ => none) j
theorem g_rea_K {K K' : Nat → (Nat → Option Nat) → Nat → (Nat → Option Nat) → Prop} {E : (Nat → Option Nat) → Nat → Prop} {fc j : Nat} : ∀ {m d : Nat} {r : Nat → Option Nat}, (∀ e, d ≤ e → e < d + m → K e = K' e) → (g_rea K E fc m d r j ↔ g_rea K' E fc m d r j) := by
  intro m
  induction m with
  | zero => intro d r _; exact Iff.rfl
  | succ m ih =>
    intro d r h
    simp only [g_rea]
    refine exists_congr fun k => exists_congr fun r' => and_congr Iff.rfl (and_congr ?_ (ih (fun e h1 h2 => h e (by omega) (by omega))))
    rw [h d (Nat.le_refl d) (by omega)]
theorem m_fd_of {hc f fc j : Nat} {zs cs fn fo ft : Nat → Nat} {hs : Nat → Option Nat} (hc2 : hc ≤ 2) (h : m_frm hc zs cs hs f) : g_rea (m_K (fun d7 => cs (4 * f + d7)) fn fo ft fc) (m_E (hs (2 * f)) (hs (2 * f + 1))) fc (zs f) 0 (fun _ => none) j ↔ m_fd fn fo ft fc hc (m_rw zs cs hs f) j := by
  obtain ⟨h1, h2, h3, jn, h4, h5⟩ := h
  obtain ⟨r1, r2, r3, r4⟩ := d_row (jn := decide (hs (2 * f + 1) = some 0)) (cd := fun k => cs (4 * f + k)) h1 h2
  have hj : d_j (m_rw zs cs hs f) = jn := by
    unfold m_rw; rw [r2, h5]; exact m_hs1_jn h4 hc2
  unfold m_fd
  rw [hj, show d_n (m_rw zs cs hs f) = zs f from r1, h3, h5]
  refine g_rea_K (fun e _ he => ?_)
  have := r3 e (by omega)
  funext r k r'
  unfold m_K
  rw [show d_cd (m_rw zs cs hs f) e = cs (4 * f + e) from this]
/-! What is asked of the forms, one answer for both sides -/
def s_fnd (FD : Nat → Nat → Prop) (l : List Nat) (j : Nat) : Prop := ∃ r, r ∈ l ∧ FD r j
def b_cnt (g : Nat → Bool) : Nat → Nat
  | 0 => 0
  | k + 1 => b_cnt g k + if g k = true then 1 else 0
theorem b_cnt_le (g : Nat → Bool) : ∀ k, b_cnt g k ≤ k := by
  intro k
  induction k with
  | zero => exact Nat.le_refl 0
  | succ k ih => simp only [b_cnt]; split <;> omega
def b_scan (g : Nat → Bool) (i : Int32) : Nat → Nat → Nat → Option Nat
  | 0, _, _ => none
  | fu + 1, k, c => if g k = true then (if nI c = i then some k else b_scan g i fu (k + 1) (c + 1)) else b_scan g i fu (k + 1) c
theorem b_cnt_cg {g g' : Nat → Bool} : ∀ {k}, (∀ j, j < k → g j = g' j) → b_cnt g k = b_cnt g' k := by
  intro k
  induction k with
  | zero => intro _; rfl
  | succ k ih => intro h; simp only [b_cnt]; rw [ih (fun j hj => h j (by omega)), h k (by omega)]
theorem b_scan_cg {g g' : Nat → Bool} {i : Int32} : ∀ {fu k c}, (∀ j, k ≤ j → j < k + fu → g j = g' j) → b_scan g i fu k c = b_scan g' i fu k c := by
  intro fu
  induction fu with
  | zero => intro k c _; rfl
  | succ fu ih =>
    intro k c h
    simp only [b_scan]
    rw [h k (Nat.le_refl k) (by omega), ih (fun j h1 h2 => h j (by omega) (by omega)), ih (fun j h1 h2 => h j (by omega) (by omega))]
def s_mk (FD : Nat → Nat → Prop) (l : List Nat) (g : Nat → Bool) : Prop := ∀ j, j < 192 → (g j = true ↔ s_fnd FD l j)
theorem s_mk_eq {FD FD' : Nat → Nat → Prop} {l : List Nat} {g g' : Nat → Bool} (hF : ∀ r j, r ∈ l → (FD r j ↔ FD' r j)) (h : s_mk FD l g) (h' : s_mk FD' l g') : ∀ j, j < 192 → g j = g' j := by
  intro j hj
  rw [Bool.eq_iff_iff, h j hj, h' j hj]
  exact exists_congr fun r => ⟨fun ⟨a, b⟩ => ⟨a, (hF r j a).mp b⟩, fun ⟨a, b⟩ => ⟨a, (hF r j a).mpr b⟩⟩
def s_runr (FD : Nat → Nat → Prop) (l : List Nat) (n : Nat) : Prop := ∃ g, s_mk FD l g ∧ n = b_cnt g 192
def s_ansr (FD : Nat → Nat → Prop) (l : List Nat) (x : Int32) (o : Option Nat) : Prop := ∃ g, s_mk FD l g ∧ o = b_scan g x 192 0 0
def s_whyr (FD : Nat → Nat → Prop) (l : List Nat) (x : Int32) (o : Option Nat) : Prop := match o with
  | none => ∀ a, a < 192 → x = nI a → ∀ f, f < l.length → ¬ FD (l.getD f 0) a
  | some f => ∃ a, a < 192 ∧ x = nI a ∧ f < l.length ∧ FD (l.getD f 0) a ∧ ∀ f', f' < f → ¬ FD (l.getD f' 0) a
theorem s_runr_eq {FD FD' : Nat → Nat → Prop} {l : List Nat} {n n' : Nat} (hF : ∀ r j, r ∈ l → (FD r j ↔ FD' r j)) (h : s_runr FD l n) (h' : s_runr FD' l n') : n = n' := by
  obtain ⟨g, h1, h2⟩ := h
  obtain ⟨g', h3, h4⟩ := h'
  rw [h2, h4, b_cnt_cg (s_mk_eq hF h1 h3)]
theorem s_ansr_eq {FD FD' : Nat → Nat → Prop} {l : List Nat} {x : Int32} {o o' : Option Nat} (hF : ∀ r j, r ∈ l → (FD r j ↔ FD' r j)) (h : s_ansr FD l x o) (h' : s_ansr FD' l x o') : o = o' := by
  obtain ⟨g, h1, h2⟩ := h
  obtain ⟨g', h3, h4⟩ := h'
  rw [h2, h4]
  exact b_scan_cg (fun j _ hj => s_mk_eq hF h1 h3 j (by omega))
theorem nI_inj {a b : Nat} (ha : a < 192) (hb : b < 192) (h : nI a = nI b) : a = b := by
  have := congrArg Int32.toInt h
  rw [nI_toInt (by omega), nI_toInt (by omega)] at this
  omega
theorem getD_mem {l : List Nat} {f : Nat} (h : f < l.length) : l.getD f 0 ∈ l := by
  rw [List.getD_eq_getElem?_getD, List.getElem?_eq_getElem h]
  exact List.getElem_mem h
theorem s_whyr_eq {FD FD' : Nat → Nat → Prop} {l : List Nat} {x : Int32} {o o' : Option Nat} (hF : ∀ r j, r ∈ l → (FD r j ↔ FD' r j)) (h : s_whyr FD l x o) (h' : s_whyr FD' l x o') : o = o' := by
  cases o with
  | none =>
    cases o' with
    | none => rfl
    | some f =>
      obtain ⟨a, h1, h2, h3, h4, _⟩ := h'
      exact absurd ((hF _ _ (getD_mem h3)).mpr h4) (h a h1 h2 f h3)
  | some f =>
    obtain ⟨a, h1, h2, h3, h4, h5⟩ := h
    cases o' with
    | none => exact absurd ((hF _ _ (getD_mem h3)).mp h4) (h' a h1 h2 f h3)
    | some f' =>
      obtain ⟨a', g1, g2, g3, g4, g5⟩ := h'
      have e : a = a' := nI_inj h1 g1 (h2.symm.trans g2)
      subst e
      rcases Nat.lt_trichotomy f f' with h6 | h6 | h6
      · exact absurd ((hF _ _ (getD_mem h3)).mp h4) (g5 f h6)
      · rw [h6]
      · exact absurd ((hF _ _ (getD_mem g3)).mpr g4) (h5 f' h6)
/-- rows behind a boolean array -/
def s_some (o : Nat → Option Nat) : Nat → Bool := fun j => (o j).isSome
theorem s_cnto (o : Nat → Option Nat) : ∀ k, f_cnto o k = b_cnt (s_some o) k := by
  intro k
  induction k with
  | zero => rfl
  | succ k ih =>
    simp only [f_cnto, b_cnt]
    rw [ih]
    congr 1
    unfold s_some
    cases o k <;> rfl
/-- the class's finders -/
theorem s_srch_mk {F : Nat → Nat → Prop} {FD : Nat → Nat → Prop} {rs : Nat → Nat} {sz : Nat} {fd : Nat → Option Nat} (hF : ∀ i j, F i j ↔ FD (rs i) j) (h : f_srch F sz fd) : s_mk FD (cq_of rs sz) (s_some fd) := by
  intro j hj
  have h1 := (h j).1
  have e : s_some fd j = true ↔ ¬ fd j = none := by unfold s_some; cases fd j <;> simp
  rw [e, h1]
  constructor
  · intro h2
    rcases Classical.em (∃ i, i < sz ∧ F i j) with h3 | h3
    · obtain ⟨i, h4, h5⟩ := h3
      exact ⟨rs i, cq_mem.mpr ⟨i, h4, rfl⟩, (hF i j).mp h5⟩
    · exact absurd (fun i hi h5 => h3 ⟨i, hi, h5⟩) h2
  · rintro ⟨r, hr, h2⟩ h3
    obtain ⟨i, h4, h5⟩ := cq_mem.mp hr
    rw [← h5] at h2
    exact h3 i h4 ((hF i j).mpr h2)
theorem s_srch_why {F : Nat → Nat → Prop} {FD : Nat → Nat → Prop} {rs : Nat → Nat} {sz a : Nat} {fd : Nat → Option Nat} (hF : ∀ i j, F i j ↔ FD (rs i) j) (h : f_srch F sz fd) (ha : a < 192) : s_whyr FD (cq_of rs sz) (nI a) (fd a) := by
  have hl : (cq_of rs sz).length = sz := cq_len rs sz
  cases e : fd a with
  | none =>
    intro b hb eb f hf
    have := nI_inj ha hb eb
    subst this
    rw [hl] at hf
    rw [cq_getD rs hf, ← hF]
    exact (h a).1.mp e f hf
  | some f =>
    obtain ⟨h1, h2, h3⟩ := (h a).2 f e
    refine ⟨a, ha, rfl, by rw [hl]; exact h1, by rw [cq_getD rs h1, ← hF]; exact h2, fun f' hf' => ?_⟩
    rw [cq_getD rs (show f' < sz by omega), ← hF]
    exact h3 f' hf'
theorem s_scan (o : Nat → Option Nat) (i : Int32) : ∀ fu k c, f_scan o i fu k c = b_scan (s_some o) i fu k c := by
  intro fu
  induction fu with
  | zero => intro k c; rfl
  | succ fu ih =>
    intro k c
    simp only [f_scan, b_scan]
    rw [ih, ih]
    unfold s_some
    cases o k <;> rfl
/-! The reference's questions -/
def m_v10 (an v : Nat) : Nat := if v < an then v else 10 + v
def m_v8 (an v : Nat) : Nat := if v < an then v else 8 + v
def m_qn (qx : Nat → Nat) (q : Nat) : Nat → Nat := fun k => qx (4 * q + k)
def m_qp (qx qy qz : Nat → Nat) (an q : Nat) : Nat → Nat := m_pv (fun k => m_v10 an (qy (4 * q + k))) (fun k => if qx (4 * q + k) < 32 then 7 else m_v10 an (qz (4 * q + k)))
/-- a question's atoms, as the reference keeps them -/
def m_qat (qx qy qz : Nat → Nat) (q k : Nat) : Prop := s_val (qx (4 * q + k)) ∧ qy (4 * q + k) < 8 ∧ qz (4 * q + k) < 8 ∧ (qx (4 * q + k) < 32 → qz (4 * q + k) = 7)
def m_qok (qx qy qz : Nat → Nat) (q n : Nat) : Prop := n ≤ 4 ∧ ∀ k, k < n → m_qat qx qy qz q k
theorem m_v10_ok {an v : Nat} (ha : an ≤ 2) (hv : v < 8) : c_vok an false (m_v10 an v) := by
  unfold m_v10 c_vok
  split
  · exact ⟨by omega, fun h => (by omega), fun h => ⟨by omega, rfl⟩⟩
  · exact ⟨by omega, fun h => (by omega), fun h => (by omega)⟩
theorem m_v10_lt {an v : Nat} (hv : v < 8) : m_v10 an v < 18 := by unfold m_v10; split <;> omega
theorem m_qok_fok {qx qy qz : Nat → Nat} {an q n : Nat} (ha : an ≤ 2) (h : m_qok qx qy qz q n) : c_fok an false (m_qn qx q) (m_qp qx qy qz an q) n := by
  refine ⟨h.1, ha, fun h => (by cases h), fun k hk => ?_⟩
  obtain ⟨h1, h2, h3, h4⟩ := h.2 k hk
  unfold m_qp
  rw [m_at]
  refine ⟨?_, m_v10_ok ha h2⟩
  rcases h1 with h1 | h1
  · exact Or.inl ⟨h1, by show (if qx (4 * q + k) < 32 then 7 else _) = 7; rw [if_pos (by omega)]⟩
  · refine Or.inr ⟨h1.1, h1.2, ?_⟩
    show c_vok an false (if qx (4 * q + k) < 32 then 7 else m_v10 an (qz (4 * q + k)))
    rw [if_neg (by omega)]; exact m_v10_ok ha h3
/-- the arrays filled with a question's atoms up to k -/
def m_fil (qx qy qz : Nat → Nat) (an q : Nat) (pp pa pb : Nat → Nat) (k : Nat) : Prop := ∀ j, j < k → pp j = qx (4 * q + j) ∧ pa j = m_v10 an (qy (4 * q + j)) ∧ pb j = if qx (4 * q + j) < 32 then 7 else m_v10 an (qz (4 * q + j))
theorem m_fil_0 (qx qy qz : Nat → Nat) (an q : Nat) (pp pa pb : Nat → Nat) : m_fil qx qy qz an q pp pa pb 0 := fun j h => absurd h (Nat.not_lt_zero j)
theorem m_fil_s {qx qy qz : Nat → Nat} {an q : Nat} {pp pa pb : Nat → Nat} {k x a b : Nat} (h : m_fil qx qy qz an q pp pa pb k) (h1 : x = qx (4 * q + k)) (h2 : a = m_v10 an (qy (4 * q + k))) (h3 : b = if qx (4 * q + k) < 32 then 7 else m_v10 an (qz (4 * q + k))) : m_fil qx qy qz an q (va_up pp k x) (va_up pa k a) (va_up pb k b) (k + 1) := by
  intro j hj
  by_cases e : j = k
  · rw [e, up_s, up_s, up_s]; exact ⟨h1, h2, h3⟩
  · rw [up_n _ _ e, up_n _ _ e, up_n _ _ e]; exact h j (by omega)
theorem m_fil_same {qx qy qz : Nat → Nat} {an q n : Nat} {pp pa pb : Nat → Nat} (h : m_fil qx qy qz an q pp pa pb n) : f_same n pp (m_pv pa pb) (m_qn qx q) (m_qp qx qy qz an q) := f_same_at (fun j hj => by
  obtain ⟨a, b, c⟩ := h j hj
  unfold m_qp
  rw [m_at, m_at, a, b, c]; rfl)
/-- the forms at hand are question q's -/
def m_han (ax : Nat) (kd lf rg qa qn qx qy qz zs cs : Nat → Nat) (hs : Nat → Option Nat) (fcn : Nat) (lg : Bool) (q : Nat) : Prop := m_fst (qa q) zs cs hs fcn lg ∧ b_rel ax kd lf rg (c_set (m_qn qx q) (m_qp qx qy qz (qa q) q) (qn q)) false (m_st zs cs hs fcn lg)
theorem lg_ge {b : Bool} : 0 ≤ (if b = true then (-3 : Int32) else nI 0) ↔ b = false := by
  cases b <;> decide
theorem lg_ne {b : Bool} : (if b = true then (-3 : Int32) else nI 0) = 0 ↔ b = false := by
  cases b <;> decide
def s_forms (fs : List Nat × Bool) (r : Int32) : Prop := r = if fs.2 = true then -3 else nI fs.1.length
def s_run (FD : Nat → Nat → Prop) (fs : List Nat × Bool) (r : Int32) : Prop := (fs.2 = true ∧ r = -3) ∨ (fs.2 = false ∧ ∃ n, s_runr FD fs.1 n ∧ r = nI n)
def s_frm (an w : Nat) (x r : Int32) : Prop := if x = nI 0 then r = nI (d_n w) else if x = nI 1 then m_hs0 an = none ∧ r = -1 ∨ m_hs0 an = some 0 ∧ r = nI 0 else if x = nI 2 then m_hs1 an (d_j w) = none ∧ r = -1 ∨ ∃ u, m_hs1 an (d_j w) = some u ∧ r = nI u else (∃ k, k < d_n w ∧ x = nI (3 + k) ∧ r = nI (d_cd w k)) ∨ ((∀ k, k < d_n w → x ≠ nI (3 + k)) ∧ r = -1)
def s_form1 (an : Nat) (fs : List Nat × Bool) (ix x r : Int32) : Prop := (fs.2 = true ∧ r = -3) ∨ (fs.2 = false ∧ (((∀ i, i < fs.1.length → ix ≠ nI i) ∧ r = -1) ∨ ∃ i, i < fs.1.length ∧ ix = nI i ∧ s_frm an (fs.1.getD i 0) x r))
theorem nI_inj' {a b : Nat} (ha : a < 2 ^ 31) (hb : b < 2 ^ 31) (h : nI a = nI b) : a = b := by
  have := congrArg Int32.toInt h
  rw [nI_toInt ha, nI_toInt hb] at this
  omega
theorem s_frm_eq {an w : Nat} {x r r' : Int32} (hn : d_n w ≤ 4) (h : s_frm an w x r) (h' : s_frm an w x r') : r = r' := by
  unfold s_frm at h h'
  split at h
  · rename_i c; rw [if_pos c] at h'; rw [h, h']
  · rename_i c; rw [if_neg c] at h'
    split at h
    · rename_i c; rw [if_pos c] at h'
      rcases h with ⟨a, b⟩ | ⟨a, b⟩ <;> rcases h' with ⟨a', b'⟩ | ⟨a', b'⟩
      · rw [b, b']
      · rw [a] at a'; cases a'
      · rw [a] at a'; cases a'
      · rw [b, b']
    · rename_i c; rw [if_neg c] at h'
      split at h
      · rename_i c; rw [if_pos c] at h'
        rcases h with ⟨a, b⟩ | ⟨u, a, b⟩ <;> rcases h' with ⟨a', b'⟩ | ⟨u', a', b'⟩
        · rw [b, b']
        · rw [a] at a'; cases a'
        · rw [a] at a'; cases a'
        · rw [a] at a'; cases a'; rw [b, b']
      · rename_i c; rw [if_neg c] at h'
        rcases h with ⟨k, h1, h2, h3⟩ | ⟨h1, h2⟩ <;> rcases h' with ⟨k', g1, g2, g3⟩ | ⟨g1, g2⟩
        · have := nI_inj' (by omega) (by omega) (h2.symm.trans g2)
          have : k = k' := by omega
          subst this; rw [h3, g3]
        · exact absurd h2 (g1 k h1)
        · exact absurd g2 (h1 k' g1)
        · rw [h2, g2]
theorem s_form1_eq {an : Nat} {fs : List Nat × Bool} {ix x r r' : Int32} (hl : fs.1.length ≤ 90) (hn : ∀ w, w ∈ fs.1 → d_n w ≤ 4) (h : s_form1 an fs ix x r) (h' : s_form1 an fs ix x r') : r = r' := by
  rcases h with ⟨h1, h2⟩ | ⟨h1, h⟩ <;> rcases h' with ⟨g1, g2⟩ | ⟨g1, g⟩
  · rw [h2, g2]
  · rw [h1] at g1; cases g1
  · rw [h1] at g1; cases g1
  · rcases h with ⟨h2, h3⟩ | ⟨i, h2, h3, h4⟩ <;> rcases g with ⟨g2, g3⟩ | ⟨i', g2, g3, g4⟩
    · rw [h3, g3]
    · exact absurd g3 (h2 i' g2)
    · exact absurd h3 (g2 i h2)
    · have := nI_inj' (by omega) (by omega) (h3.symm.trans g3)
      subst this
      exact s_frm_eq (hn _ (getD_mem h2)) h4 g4
theorem s_run_eq {FD FD' : Nat → Nat → Prop} {fs : List Nat × Bool} {r r' : Int32} (hF : ∀ w j, w ∈ fs.1 → (FD w j ↔ FD' w j)) (h : s_run FD fs r) (h' : s_run FD' fs r') : r = r' := by
  rcases h with ⟨h1, h2⟩ | ⟨h1, n, h2, h3⟩ <;> rcases h' with ⟨g1, g2⟩ | ⟨g1, n', g2, g3⟩
  · rw [h2, g2]
  · rw [h1] at g1; cases g1
  · rw [h1] at g1; cases g1
  · rw [h3, g3, s_runr_eq hF h2 g2]
/-- what is found by the first k forms -/
def m_fnk (FD : Nat → Nat → Prop) (rw9 : Nat → Nat) (k : Nat) (fnd : Nat → Bool) : Prop := ∀ j, fnd j = true ↔ ∃ f, f < k ∧ FD (rw9 f) j
theorem m_fnk_0 (FD : Nat → Nat → Prop) (rw9 : Nat → Nat) : m_fnk FD rw9 0 (fun _ => false) := fun j => ⟨fun h => (by cases h), fun ⟨f, h, _⟩ => absurd h (Nat.not_lt_zero f)⟩
theorem m_fnk_s {FD : Nat → Nat → Prop} {rw9 : Nat → Nat} {k : Nat} {fnd fnd1 : Nat → Bool} (h : m_fnk FD rw9 k fnd) (h1 : ∀ j, fnd1 j = true ↔ fnd j = true ∨ FD (rw9 k) j) : m_fnk FD rw9 (k + 1) fnd1 := by
  intro j
  rw [h1 j, h j]
  constructor
  · rintro (⟨f, a, b⟩ | h)
    · exact ⟨f, by omega, b⟩
    · exact ⟨k, by omega, h⟩
  · rintro ⟨f, a, b⟩
    by_cases e : f = k
    · rw [e] at b; exact Or.inr b
    · exact Or.inl ⟨f, by omega, b⟩
theorem m_fnk_mk {FD : Nat → Nat → Prop} {rw9 : Nat → Nat} {n : Nat} {fnd : Nat → Bool} (h : m_fnk FD rw9 n fnd) : s_mk FD (cq_of rw9 n) fnd := by
  intro j _
  rw [h j]
  constructor
  · rintro ⟨f, a, b⟩; exact ⟨rw9 f, cq_mem.mpr ⟨f, a, rfl⟩, b⟩
  · rintro ⟨r, hr, b⟩
    obtain ⟨f, a, e⟩ := cq_mem.mp hr
    exact ⟨f, a, by rw [e]; exact b⟩
def m_sm (FD : Nat → Nat → Prop) (rw9 : Nat → Nat) (k : Nat) (sm : Bool) : Prop := sm = true ↔ ∃ f j, f < k ∧ FD (rw9 f) j
theorem m_sm_0 (FD : Nat → Nat → Prop) (rw9 : Nat → Nat) : m_sm FD rw9 0 false := ⟨fun h => (by cases h), fun ⟨f, _, h, _⟩ => absurd h (Nat.not_lt_zero f)⟩
theorem m_sm_s {FD : Nat → Nat → Prop} {rw9 : Nat → Nat} {k : Nat} {sm sm1 : Bool} (h : m_sm FD rw9 k sm) (h1 : sm1 = true ↔ sm = true ∨ ∃ j, FD (rw9 k) j) : m_sm FD rw9 (k + 1) sm1 := by
  unfold m_sm at *
  rw [h1, h]
  constructor
  · rintro (⟨f, j, a, b⟩ | ⟨j, h⟩)
    · exact ⟨f, j, by omega, b⟩
    · exact ⟨k, j, by omega, h⟩
  · rintro ⟨f, j, a, b⟩
    by_cases e : f = k
    · rw [e] at b; exact Or.inr ⟨j, b⟩
    · exact Or.inl ⟨f, j, by omega, b⟩
theorem m_frm_of {hc : Nat} {zs cs : Nat → Nat} {hs : Nat → Option Nat} {n f : Nat} {lg : Bool} (h : m_fst hc zs cs hs n lg) (hf : f < n) : m_frm hc zs cs hs f := h.1.2 f hf
theorem m_frm_rw {hc f : Nat} {zs cs : Nat → Nat} {hs : Nat → Option Nat} (hc2 : hc ≤ 2) (h : m_frm hc zs cs hs f) : d_n (m_rw zs cs hs f) = zs f ∧ hs (2 * f) = m_hs0 hc ∧ hs (2 * f + 1) = m_hs1 hc (d_j (m_rw zs cs hs f)) ∧ ∀ k, k < zs f → cs (4 * f + k) = d_cd (m_rw zs cs hs f) k := by
  obtain ⟨h1, h2, h3, jn, h4, h5⟩ := h
  obtain ⟨r1, r2, r3, r4⟩ := d_row (jn := decide (hs (2 * f + 1) = some 0)) (cd := fun k => cs (4 * f + k)) h1 h2
  have hj : d_j (m_rw zs cs hs f) = jn := by
    unfold m_rw; rw [r2, h5]; exact m_hs1_jn h4 hc2
  exact ⟨r1, h3, by rw [hj]; exact h5, fun k hk => (r3 k hk).symm⟩
/-! What breaks: two atoms that a rule forbids together -/
def s_fbn (kd lf rg : Nat → Nat) (i : Nat) : Nat → Nat := fun k => if kd i = 2 then (if k = 0 then f_sortn (lf i) else f_sortn (rg i)) else (if k = 0 then f_wayn (lf i) else f_wayn (rg i))
def s_fba (x y : Nat) (kd lf rg : Nat → Nat) (i : Nat) : Nat → Nat := fun k => if kd i = 2 then (if k = 0 then f_sort1 (lf i) x else f_sort1 (rg i) x) else (if k = 0 then f_way1 (lf i) x y else f_way1 (rg i) x y)
def s_fbb (x y : Nat) (kd lf rg : Nat → Nat) (i : Nat) : Nat → Nat := fun k => if kd i = 2 then (if k = 0 then f_sort2 (lf i) x else f_sort2 (rg i) x) else (if k = 0 then f_way2 (lf i) x y else f_way2 (rg i) x y)
def s_fbs (x y : Nat) (kd lf rg : Nat → Nat) (i : Nat) : Nat × Nat × Nat → Prop := c_set (s_fbn kd lf rg i) (m_pv (s_fba x y kd lf rg i) (s_fbb x y kd lf rg i)) 2
theorem s_fb_fok {x y i : Nat} {kd lf rg : Nat → Nat} (hx : 8 ≤ x) (hy : 8 ≤ y) (hax : m_axn (kd i) (lf i) (rg i)) (hk : ¬ kd i < 2) : c_fok 0 false (s_fbn kd lf rg i) (m_pv (s_fba x y kd lf rg i) (s_fbb x y kd lf rg i)) 2 := by
  have vx : c_vok 0 false x := ⟨by omega, fun h => (by omega), fun h => (by omega)⟩
  have vy : c_vok 0 false y := ⟨by omega, fun h => (by omega), fun h => (by omega)⟩
  obtain ⟨h1, h2, h3⟩ := hax
  refine ⟨by omega, by omega, fun h => (by cases h), fun k hk2 => ?_⟩
  rw [m_at]
  unfold s_fbn s_fba s_fbb
  by_cases c : kd i = 2
  · rw [if_pos c, if_pos c, if_pos c]
    have h2 := h2 (by omega)
    by_cases c2 : k = 0
    · rw [if_pos c2, if_pos c2, if_pos c2]; exact c_aok_sort h2.1 vx
    · rw [if_neg c2, if_neg c2, if_neg c2]; exact c_aok_sort h2.2 vx
  · rw [if_neg c, if_neg c, if_neg c]
    have h3 := h3 (by omega)
    by_cases c2 : k = 0
    · rw [if_pos c2, if_pos c2, if_pos c2]; exact c_aok_way h3.1 vx vy
    · rw [if_neg c2, if_neg c2, if_neg c2]; exact c_aok_way h3.2 vx vy
def s_bk (x y na : Nat) (kd lf rg : Nat → Nat) (FD : Nat → Nat → Prop) : Nat → Nat → Int32 → Prop
  | 0, _, r => r = -1
  | k + 1, i, r => if kd i < 2 then s_bk x y na kd lf rg FD k (i + 1) r else ∃ st : List Nat × Bool, b_rel na kd lf rg (s_fbs x y kd lf rg i) false st ∧ b_ok 0 st ∧ ((st.2 = true ∧ r = -3) ∨ (st.2 = false ∧ (∃ j, s_fnd FD st.1 j) ∧ r = nI i) ∨ (st.2 = false ∧ (¬ ∃ j, s_fnd FD st.1 j) ∧ s_bk x y na kd lf rg FD k (i + 1) r))
theorem s_fb_ren {kd lf rg : Nat → Nat} {i : Nat} : f_same 2 (s_fbn kd lf rg i) (m_pv (s_fba 10 11 kd lf rg i) (s_fbb 10 11 kd lf rg i)) (s_fbn kd lf rg i) (fun j => c_rho (m_pv (s_fba 8 9 kd lf rg i) (s_fbb 8 9 kd lf rg i) j)) := by
  have r8 : c_rho 8 = 10 := by decide
  have r9 : c_rho 9 = 11 := by decide
  have r6 : c_rho 6 = 6 := by decide
  have r7 : c_rho 7 = 7 := by decide
  have hs1 : ∀ s, f_sort1 s 10 = c_rho (f_sort1 s 8) ∧ f_sort2 s 10 = c_rho (f_sort2 s 8) := fun s => by
    unfold f_sort1 f_sort2 f_way1 f_way2
    by_cases h : s < 20
    · simp only [if_pos h, r8, r7, and_self]
    · simp only [if_neg h]
      by_cases h2 : (s - 20) % 2 = 0
      · simp only [if_pos h2, r8, r6, and_self]
      · simp only [if_neg h2, r8, r6, and_self]
  have hw1 : ∀ s, f_way1 s 10 11 = c_rho (f_way1 s 8 9) ∧ f_way2 s 10 11 = c_rho (f_way2 s 8 9) := fun s => by
    unfold f_way1 f_way2
    by_cases h2 : s % 2 = 0
    · simp only [if_pos h2, r8, r9, and_self]
    · simp only [if_neg h2, r8, r9, and_self]
  intro k _
  refine ⟨rfl, ?_, ?_⟩
  · show _ = c_rho _
    rw [m_pv_e, m_pv_e]
    unfold s_fba
    by_cases c : kd i = 2
    · rw [if_pos c, if_pos c]
      by_cases c2 : k = 0
      · rw [if_pos c2, if_pos c2]; exact (hs1 _).1
      · rw [if_neg c2, if_neg c2]; exact (hs1 _).1
    · rw [if_neg c, if_neg c]
      by_cases c2 : k = 0
      · rw [if_pos c2, if_pos c2]; exact (hw1 _).1
      · rw [if_neg c2, if_neg c2]; exact (hw1 _).1
  · show _ = c_rho _
    rw [m_pv_o, m_pv_o]
    unfold s_fbb
    by_cases c : kd i = 2
    · rw [if_pos c, if_pos c]
      by_cases c2 : k = 0
      · rw [if_pos c2, if_pos c2]; exact (hs1 _).2
      · rw [if_neg c2, if_neg c2]; exact (hs1 _).2
    · rw [if_neg c, if_neg c]
      by_cases c2 : k = 0
      · rw [if_pos c2, if_pos c2]; exact (hw1 _).2
      · rw [if_neg c2, if_neg c2]; exact (hw1 _).2
theorem s_bk_eq {na : Nat} {kd lf rg : Nat → Nat} {FD FD' : Nat → Nat → Prop} (hF : ∀ w j, c_rok 0 w → (FD w j ↔ FD' w j)) : ∀ (k i : Nat) (r r' : Int32), i + k ≤ na → s_bk 8 9 na kd lf rg FD k i r → s_bk 10 11 na kd lf rg FD' k i r' → r = r' := by
  intro k
  induction k with
  | zero => intro i r r' _ h h'; rw [show r = -1 from h, show r' = -1 from h']
  | succ k ih =>
    intro i r r' hi h h'
    simp only [s_bk] at h h'
    by_cases c : kd i < 2
    · rw [if_pos c] at h h'; exact ih (i + 1) r r' (by omega) h h'
    · rw [if_neg c] at h h'
      obtain ⟨st, h1, h2, h⟩ := h
      obtain ⟨st', g1, g2, g⟩ := h'
      have e : st = st' := b_rel_eq (b_rel_ren s_fb_ren h1) g1
      subst e
      have hex : (∃ j, s_fnd FD st.1 j) ↔ ∃ j, s_fnd FD' st.1 j := exists_congr fun j => exists_congr fun w => ⟨fun ⟨a, b⟩ => ⟨a, (hF w j (h2.2 w a)).mp b⟩, fun ⟨a, b⟩ => ⟨a, (hF w j (h2.2 w a)).mpr b⟩⟩
      rcases h with ⟨a1, a2⟩ | ⟨a1, a2, a3⟩ | ⟨a1, a2, a3⟩ <;> rcases g with ⟨b1, b2⟩ | ⟨b1, b2, b3⟩ | ⟨b1, b2, b3⟩
      · rw [a2, b2]
      · rw [a1] at b1; cases b1
      · rw [a1] at b1; cases b1
      · rw [a1] at b1; cases b1
      · rw [a3, b3]
      · exact absurd (hex.mp a2) b2
      · rw [a1] at b1; cases b1
      · exact absurd (hex.mpr b2) a2
      · exact ih (i + 1) r r' (by omega) a3 b3
/-- steps of the search for what breaks -/
theorem s_bk_skip {x y na : Nat} {kd lf rg : Nat → Nat} {FD : Nat → Nat → Prop} {i : Nat} {r : Int32} (hi : i < na) (h : s_bk x y na kd lf rg FD (na - (i + 1)) (i + 1) r) (hk : kd i < 2) : s_bk x y na kd lf rg FD (na - i) i r := by
  rw [show na - i = (na - (i + 1)) + 1 by omega]
  simp only [s_bk]
  rw [if_pos hk]; exact h
theorem s_bk_go {x y na : Nat} {kd lf rg : Nat → Nat} {FD : Nat → Nat → Prop} {i : Nat} {r : Int32} {st : List Nat × Bool} (hi : i < na) (hk : ¬ kd i < 2) (h1 : b_rel na kd lf rg (s_fbs x y kd lf rg i) false st) (h2 : b_ok 0 st) (h : (st.2 = true ∧ r = -3) ∨ (st.2 = false ∧ (∃ j, s_fnd FD st.1 j) ∧ r = nI i) ∨ (st.2 = false ∧ (¬ ∃ j, s_fnd FD st.1 j) ∧ s_bk x y na kd lf rg FD (na - (i + 1)) (i + 1) r)) : s_bk x y na kd lf rg FD (na - i) i r := by
  rw [show na - i = (na - (i + 1)) + 1 by omega]
  simp only [s_bk]
  rw [if_neg hk]; exact ⟨st, h1, h2, h⟩
theorem m_sm_fnd {FD : Nat → Nat → Prop} {rw9 : Nat → Nat} {n : Nat} {sm : Bool} (h : m_sm FD rw9 n sm) : sm = true ↔ ∃ j, s_fnd FD (cq_of rw9 n) j := by
  unfold m_sm at h
  rw [h]
  constructor
  · rintro ⟨f, j, a, b⟩; exact ⟨j, rw9 f, cq_mem.mpr ⟨f, a, rfl⟩, b⟩
  · rintro ⟨j, r, hr, b⟩
    obtain ⟨f, a, e⟩ := cq_mem.mp hr
    exact ⟨f, j, a, by rw [e]; exact b⟩
/-- the reference's arrays hold the two atoms -/
theorem m_fb2 {kd lf rg pp pa pb : Nat → Nat} {i : Nat} (h : kd i = 2) : f_same 2 (va_up (va_up pp 0 (f_sortn (lf i))) 1 (f_sortn (rg i))) (m_pv (va_up (va_up pa 0 (f_sort1 (lf i) 10)) 1 (f_sort1 (rg i) 10)) (va_up (va_up pb 0 (f_sort2 (lf i) 10)) 1 (f_sort2 (rg i) 10))) (s_fbn kd lf rg i) (m_pv (s_fba 10 11 kd lf rg i) (s_fbb 10 11 kd lf rg i)) := f_same_at (fun j hj => by
  rw [m_at, m_at]
  unfold s_fbn s_fba s_fbb
  rw [if_pos h, if_pos h, if_pos h]
  rcases (show j = 0 ∨ j = 1 by omega) with rfl | rfl
  · rfl
  · rfl)
theorem m_fb3 {kd lf rg pp pa pb : Nat → Nat} {i : Nat} (h : ¬ kd i = 2) : f_same 2 (va_up (va_up pp 0 (f_wayn (lf i))) 1 (f_wayn (rg i))) (m_pv (va_up (va_up pa 0 (f_way1 (lf i) 10 11)) 1 (f_way1 (rg i) 10 11)) (va_up (va_up pb 0 (f_way2 (lf i) 10 11)) 1 (f_way2 (rg i) 10 11))) (s_fbn kd lf rg i) (m_pv (s_fba 10 11 kd lf rg i) (s_fbb 10 11 kd lf rg i)) := f_same_at (fun j hj => by
  rw [m_at, m_at]
  unfold s_fbn s_fba s_fbb
  rw [if_neg h, if_neg h, if_neg h]
  rcases (show j = 0 ∨ j = 1 by omega) with rfl | rfl
  · rfl
  · rfl)
theorem f_sort_lt18 {s x : Nat} (hs : s < 64) (hx : x < 18) : f_sortn s < 64 ∧ f_sort1 s x < 18 ∧ f_sort2 s x < 18 := by
  unfold f_sortn f_sort1 f_sort2 f_wayn f_way1 f_way2
  by_cases h : s < 20
  · rw [if_pos h, if_pos h, if_pos h]; omega
  · rw [if_neg h, if_neg h, if_neg h]
    refine ⟨by omega, ?_, ?_⟩ <;> split <;> omega
theorem f_way_lt18 {s x y : Nat} (hs : s < 64) (hx : x < 18) (hy : y < 18) : f_wayn s < 64 ∧ f_way1 s x y < 18 ∧ f_way2 s x y < 18 := by
  unfold f_wayn f_way1 f_way2
  refine ⟨by omega, ?_, ?_⟩ <;> split <;> omega
def m_nw (FD : Nat → Nat → Prop) (rw9 : Nat → Nat) (x : Int32) (k : Nat) : Prop := ∀ f, f < k → ∀ a, a < 192 → x = nI a → ¬ FD (rw9 f) a
theorem m_nw_s {FD : Nat → Nat → Prop} {rw9 : Nat → Nat} {x : Int32} {k : Nat} (h : m_nw FD rw9 x k) (h2 : ∀ a, a < 192 → x = nI a → ¬ FD (rw9 k) a) : m_nw FD rw9 x (k + 1) := by
  intro f hf
  by_cases e : f = k
  · rw [e]; exact h2
  · exact h f (by omega)
theorem m_nw_none {FD : Nat → Nat → Prop} {rw9 : Nat → Nat} {x : Int32} {n : Nat} (h : m_nw FD rw9 x n) : s_whyr FD (cq_of rw9 n) x none := by
  intro a ha e f hf
  rw [cq_len] at hf
  rw [cq_getD rw9 hf]
  exact h f hf a ha e
theorem m_nw_some {FD : Nat → Nat → Prop} {rw9 : Nat → Nat} {x : Int32} {n f a : Nat} (h : m_nw FD rw9 x f) (hf : f < n) (ha : a < 192) (e : x = nI a) (hF : FD (rw9 f) a) : s_whyr FD (cq_of rw9 n) x (some f) := by
  refine ⟨a, ha, e, by rw [cq_len]; exact hf, by rw [cq_getD rw9 hf]; exact hF, fun f' hf' => ?_⟩
  rw [cq_getD rw9 (show f' < n by omega)]
  exact h f' hf' a ha e
section QO3
variable {p : Program} {l : Launch} {e : Env} {R : Room} {s : State} {m : MethodId} {args : Array Value} {below : List Frame} {meth : Method} {c : Code} {H : Heap} {locs : List Loc} {cells slots : Nat} {Q : State → Prop}
variable {cc : ByteArray} {pc : Nat} {ls : Array Slot} {rest : List Value}
theorem q_icmpOO_eq (hexec : p.tables.exec = Jvm.exec) (hb : c.code = cc) {x y : Option Nat} {off : Int} {tgt : Nat} (hdg : decode cc pc = .ok (.if_icmp .eq off, 3)) (ht : (pc : Int) + off = (tgt : Int)) (hx : ∀ k, x = some k → k < 2 ^ 31) (hy : ∀ k, y = some k → k < 2 ^ 31)
    (kt : x = y → W p l e R s m args below meth c H locs cells slots Q (F0 m tgt ls rest)) (kf : ¬ x = y → W p l e R s m args below meth c H locs cells slots Q (F0 m (pc + 3) ls rest)) : W p l e R s m args below meth c H locs cells slots Q (F0 m pc ls (.int (oI y) :: .int (oI x) :: rest)) := lv_icmp_eq hexec hb hdg ht (fun h => kt ((oI_eq hx hy).mp h)) (fun h => kf (fun h2 => h ((oI_eq hx hy).mpr h2)))
end QO3
theorem m_in_q {q n : Nat} (h : q < n) (hn : n ≤ 90) : m_in (nI q) (nI 0) (nI n - nI 1) = true := by
  rw [pk_sub (by omega)]
  unfold m_in
  refine decide_eq_true ⟨?_, ?_⟩
  · rw [nI_ltI (by omega) (by omega)]; omega
  · rw [nI_ltI (by omega) (by omega)]; omega
theorem m_in_q0 {x : Int32} {n : Nat} (hn : n ≤ 90) (h : m_in x (nI 0) (nI n - nI 1) = true) : ∃ j, j < n ∧ x = nI j := by
  by_cases h0 : n = 0
  · subst h0
    have h3 := of_decide_eq_true h
    have h4 : nI 0 - nI 1 < x := by
      rw [Int32.lt_iff_toInt_lt]
      have h5 : (0 : Int) ≤ x.toInt := by
        have := Int32.not_lt.mp h3.1
        rw [Int32.le_iff_toInt_le, nI_toInt (by decide)] at this
        exact this
      have : (nI 0 - nI 1).toInt = -1 := by decide
      omega
    exact absurd h4 h3.2
  · rw [pk_sub (by omega)] at h
    obtain ⟨j, h3, e3⟩ := m_in_t (by omega) h
    exact ⟨j, by omega, e3⟩
theorem m_in_no {x : Int32} {n : Nat} (hn : n ≤ 90) (h : m_in x (nI 0) (nI n - nI 1) = false) : ∀ j, j < n → x ≠ nI j := fun j hj e => by
  rw [e, m_in_q hj hn] at h; cases h
theorem nI_ne {a b : Nat} (ha : a < 2 ^ 31) (hb : b < 2 ^ 31) (h : a ≠ b) : nI a ≠ nI b := fun e => h ((nI_eq ha hb).mp e)
theorem m_in6 {k : Nat} (hk : k ≤ 6) : m_in (nI k) (nI 0) (nI 6) = true := decide_eq_true ⟨by rw [nI_ltI (by omega) (by omega)]; omega, by rw [nI_ltI (by omega) (by omega)]; omega⟩
theorem m_in191 {k : Nat} (hk : k ≤ 191) : m_in (nI k) (nI 0) (nI 191) = true := decide_eq_true ⟨by rw [nI_ltI (by omega) (by omega)]; omega, by rw [nI_ltI (by omega) (by omega)]; omega⟩
theorem s_frm_0 {an w : Nat} {x : Int32} {n : Nat} (e : x = nI 0) (h : n = d_n w) : s_frm an w x (nI n) := by
  unfold s_frm; rw [if_pos e, h]
theorem s_frm_h {an w i k : Nat} {x : Int32} {hs : Nat → Option Nat} (h0 : hs (2 * i) = m_hs0 an) (h1 : hs (2 * i + 1) = m_hs1 an (d_j w)) (e : x = nI k) (hk : 0 < k) (hk3 : k < 3) : s_frm an w x (oI (hs (2 * i + k - 1))) := by
  unfold s_frm
  rcases (show k = 1 ∨ k = 2 by omega) with rfl | rfl
  · rw [if_neg (by rw [e]; exact nI_ne (by decide) (by decide) (by decide)), if_pos e, show 2 * i + 1 - 1 = 2 * i by omega, h0]
    unfold m_hs0
    split
    · exact Or.inl ⟨rfl, rfl⟩
    · exact Or.inr ⟨rfl, rfl⟩
  · rw [if_neg (by rw [e]; exact nI_ne (by decide) (by decide) (by decide)), if_neg (by rw [e]; exact nI_ne (by decide) (by decide) (by decide)), if_pos e, show 2 * i + 2 - 1 = 2 * i + 1 by omega, h1]
    cases h : m_hs1 an (d_j w) with
    | none => exact Or.inl ⟨rfl, rfl⟩
    | some u => exact Or.inr ⟨u, rfl, rfl⟩
theorem s_frm_c {an w i k : Nat} {x : Int32} {cs : Nat → Nat} (e : x = nI k) (h3 : 3 ≤ k ∧ k ≤ 6) (hk : k - 3 < d_n w) (hc : cs (4 * i + (k - 3)) = d_cd w (k - 3)) : s_frm an w x (nI (cs (4 * i + k - 3))) := by
  unfold s_frm
  rw [if_neg (by rw [e]; exact nI_ne (by omega) (by decide) (by omega)), if_neg (by rw [e]; exact nI_ne (by omega) (by decide) (by omega)), if_neg (by rw [e]; exact nI_ne (by omega) (by decide) (by omega))]
  exact Or.inl ⟨k - 3, hk, by rw [e, show 3 + (k - 3) = k by omega], by rw [← hc, show 4 * i + k - 3 = 4 * i + (k - 3) by omega]⟩
theorem s_frm_x {an w k : Nat} {x : Int32} (e : x = nI k) (h3 : 3 ≤ k ∧ k ≤ 6) (hk : d_n w ≤ k - 3) : s_frm an w x (-1) := by
  unfold s_frm
  rw [if_neg (by rw [e]; exact nI_ne (by omega) (by decide) (by omega)), if_neg (by rw [e]; exact nI_ne (by omega) (by decide) (by omega)), if_neg (by rw [e]; exact nI_ne (by omega) (by decide) (by omega))]
  exact Or.inr ⟨fun j hj => by rw [e]; exact nI_ne (by omega) (by omega) (by omega), rfl⟩
theorem s_frm_bad {an w : Nat} {x : Int32} (hn : d_n w ≤ 4) (h : m_in x (nI 0) (nI 6) = false) : s_frm an w x (-1) := by
  have hne : ∀ k, k ≤ 6 → x ≠ nI k := fun k hk e => by rw [e, m_in6 hk] at h; cases h
  unfold s_frm
  rw [if_neg (hne 0 (by omega)), if_neg (hne 1 (by omega)), if_neg (hne 2 (by omega))]
  exact Or.inr ⟨fun j hj => hne (3 + j) (by omega), rfl⟩
def s_answ (FD : Nat → Nat → Prop) (fs : List Nat × Bool) (x r : Int32) : Prop := (fs.2 = true ∧ r = -3) ∨ (fs.2 = false ∧ ∃ o, s_ansr FD fs.1 x o ∧ r = oI o)
def s_why (FD : Nat → Nat → Prop) (fs : List Nat × Bool) (x r : Int32) : Prop := (fs.2 = true ∧ r = -3) ∨ (fs.2 = false ∧ ∃ o, s_whyr FD fs.1 x o ∧ r = oI o)
theorem s_answ_eq {FD FD' : Nat → Nat → Prop} {fs : List Nat × Bool} {x r r' : Int32} (hF : ∀ w j, w ∈ fs.1 → (FD w j ↔ FD' w j)) (h : s_answ FD fs x r) (h' : s_answ FD' fs x r') : r = r' := by
  rcases h with ⟨h1, h2⟩ | ⟨h1, n, h2, h3⟩ <;> rcases h' with ⟨g1, g2⟩ | ⟨g1, n', g2, g3⟩
  · rw [h2, g2]
  · rw [h1] at g1; cases g1
  · rw [h1] at g1; cases g1
  · rw [h3, g3, s_ansr_eq hF h2 g2]
theorem s_why_eq {FD FD' : Nat → Nat → Prop} {fs : List Nat × Bool} {x r r' : Int32} (hF : ∀ w j, w ∈ fs.1 → (FD w j ↔ FD' w j)) (h : s_why FD fs x r) (h' : s_why FD' fs x r') : r = r' := by
  rcases h with ⟨h1, h2⟩ | ⟨h1, n, h2, h3⟩ <;> rcases h' with ⟨g1, g2⟩ | ⟨g1, n', g2, g3⟩
  · rw [h2, g2]
  · rw [h1] at g1; cases g1
  · rw [h1] at g1; cases g1
  · rw [h3, g3, s_whyr_eq hF h2 g2]
theorem lg_gt {b : Bool} (h : ¬ 0 ≤ (if b = true then (-3 : Int32) else nI 0)) : b = true := by
  cases b with
  | true => rfl
  | false => exact absurd (by decide) h
theorem s_forms_f {zs cs : Nat → Nat} {hs : Nat → Option Nat} {n : Nat} {lg : Bool} (h : lg = false) : s_forms (m_st zs cs hs n lg) (nI n) := by
  subst h
  show nI n = if false = true then -3 else nI (cq_of (m_rw zs cs hs) n).length
  rw [if_neg (by decide), cq_len]
theorem s_forms_t {zs cs : Nat → Nat} {hs : Nat → Option Nat} {n : Nat} {lg : Bool} (h : lg = true) : s_forms (m_st zs cs hs n lg) (if lg = true then (-3) else nI 0) := by
  subst h
  unfold s_forms m_st
  rw [if_pos rfl, if_pos rfl]
