/-! The reference's forms, as rows -/
def m_rw (zs cs : Nat → Nat) (hs : Nat → Option Nat) (f : Nat) : Nat := f_row (decide (hs (2 * f + 1) = some 0)) (zs f) (fun k => cs (4 * f + k))
def m_hs0 (hc : Nat) : Option Nat := if hc = 0 then none else some 0
def m_hs1 (hc : Nat) (jn : Bool) : Option Nat := if hc < 2 then none else some (if jn = true then 0 else 1)
def m_frm (hc : Nat) (zs cs : Nat → Nat) (hs : Nat → Option Nat) (f : Nat) : Prop := zs f ≤ 4 ∧ (∀ k, k < zs f → cs (4 * f + k) < 4096) ∧ hs (2 * f) = m_hs0 hc ∧ ∃ jn, (jn = true → hc = 2) ∧ hs (2 * f + 1) = m_hs1 hc jn
theorem m_hs1_jn {hc : Nat} {jn : Bool} (h : jn = true → hc = 2) (_h2 : hc ≤ 2) : decide (m_hs1 hc jn = some 0) = jn := by
  unfold m_hs1
  cases jn with
  | true => rw [h rfl]; rfl
  | false => by_cases h3 : hc < 2
             · rw [if_pos h3]; rfl
             · rw [if_neg h3]; rfl
theorem m_hj_h {he : Nat → Option Nat} {hc : Nat} {jn : Bool} (h : m_hj he hc jn) (hc2 : hc ≤ 2) : m_hok he hc ∧ m_hd (m_h he) hc ∧ m_hn (m_h he) hc 0 = m_hs0 hc ∧ m_hn (m_h he) hc 1 = m_hs1 hc jn := by
  obtain ⟨h0, h1⟩ := h
  have e0 : 0 < hc → m_h he 0 = 0 := fun h => by unfold m_h; rw [h0 h]; rfl
  have e1 : 1 < hc → m_h he 1 = if jn = true then 0 else 1 := fun h => by unfold m_h; rw [h1 h]; rfl
  refine ⟨fun j hj => ?_, ⟨hc2, e0, fun h => ?_⟩, ?_, ?_⟩
  · rcases (show j = 0 ∨ j = 1 by omega) with rfl | rfl
    · rw [e0 hj]; exact ⟨h0 hj, by decide⟩
    · rw [e1 hj]; exact ⟨h1 hj, by split <;> decide⟩
  · rw [e1 h]; split <;> decide
  · unfold m_hn m_hs0
    by_cases h : hc = 0
    · rw [if_pos h, if_pos (by omega)]
    · rw [if_neg h, if_neg (by omega), if_neg (by omega)]
  · unfold m_hn m_hs1
    by_cases h : hc < 2
    · rw [if_pos h, if_pos (by omega)]
    · rw [if_neg h, if_neg (by omega), e0 (by omega), e1 (by omega)]
      cases jn <;> rfl
theorem m_hw_vok {he : Nat → Option Nat} {hc : Nat} {jn : Bool} {v : Nat} (h : m_hj he hc jn) (hv : c_vok hc jn v) : m_hw (m_h he) hc v := by
  obtain ⟨h0, h1⟩ := h
  have e0 : 0 < hc → m_h he 0 = 0 := fun h => by unfold m_h; rw [h0 h]; rfl
  have e1 : 1 < hc → m_h he 1 = if jn = true then 0 else 1 := fun h => by unfold m_h; rw [h1 h]; rfl
  obtain ⟨v1, v2, v3⟩ := hv
  unfold m_hw m_head
  rw [decide_eq_decide]
  constructor
  · rintro (h | h)
    · rw [e0 h.1] at h; omega
    · rw [e1 h.1] at h; have := h.2; split at this <;> omega
  · intro h
    rcases (show v = 0 ∨ v = 1 by omega) with rfl | rfl
    · exact Or.inl ⟨v2 rfl, (e0 (v2 rfl)).symm⟩
    · have := v3 rfl
      exact Or.inr ⟨by omega, by rw [e1 (by omega), this.2]; rfl⟩
theorem m_wf_aok {he : Nat → Option Nat} {hc : Nat} {jn : Bool} {y : Nat × Nat × Nat} (h : m_hj he hc jn) (hy : c_aok hc jn y) : m_wf (m_h he) hc y := by
  obtain ⟨h1, h2⟩ := hy
  refine ⟨fun h3 => ?_, h2.1, fun h3 => ?_, m_hw_vok h h2, fun h3 => ?_⟩
  · rcases h1 with h1 | h1
    · exact h1.2
    · omega
  · rcases h1 with h1 | h1
    · omega
    · exact h1.2.2.1
  · rcases h1 with h1 | h1
    · omega
    · exact m_hw_vok h h1.2.2
/-- loading a form gives the row's form -/
theorem m_load {hc f : Nat} {zs cs pp pa pb : Nat → Nat} {hs he : Nat → Option Nat} (hc2 : hc ≤ 2) (h : m_frm hc zs cs hs f) (hl : m_ld cs f pp pa pb (zs f)) : d_n (m_rw zs cs hs f) = zs f ∧ f_same (zs f) pp (m_pv pa pb) (d_nm (m_rw zs cs hs f)) (d_pl (m_rw zs cs hs f)) ∧ m_hcn (hs (2 * f)) (hs (2 * f + 1)) = hc ∧ m_hj (va_up (va_up he 0 (hs (2 * f))) 1 (hs (2 * f + 1))) hc (d_j (m_rw zs cs hs f)) := by
  obtain ⟨h1, h2, h3, jn, h4, h5⟩ := h
  obtain ⟨r1, r2, r3, r4⟩ := d_row (jn := decide (hs (2 * f + 1) = some 0)) (cd := fun k => cs (4 * f + k)) h1 h2
  have hj : d_j (m_rw zs cs hs f) = jn := by
    unfold m_rw; rw [r2, h5]; exact m_hs1_jn h4 hc2
  refine ⟨r1, f_same_at (fun j hj => ?_), ?_, ?_, ?_⟩
  · rw [m_at]
    unfold m_rw
    rw [d_at, r3 j hj]
    obtain ⟨a, b, c⟩ := hl j hj
    rw [a, b, c]
  · rw [h3, h5]
    unfold m_hcn m_hs0 m_hs1
    rcases (show hc = 0 ∨ hc = 1 ∨ hc = 2 by omega) with rfl | rfl | rfl <;> rfl
  · intro h; rw [up_n _ _ (by decide), up_s, h3]; unfold m_hs0; rw [if_neg (by omega)]
  · intro h; rw [up_s, h5, hj]; unfold m_hs1; rw [if_neg (by omega)]
theorem m_same_row {hc f md : Nat} {zs cs le : Nat → Nat} {hs he : Nat → Option Nat} {jn : Bool} (hc2 : hc ≤ 2) (h : m_frm hc zs cs hs f) (hh : m_hj he hc jn) (hj : jn = true → hc = 2) (hmd : md ≤ 4) (hle : ∀ k, k < md → le k < 4096) : (m_hsame zs hs (m_h he) md hc f ∧ m_csame cs le f md) ↔ m_rw zs cs hs f = f_row jn md le := by
  obtain ⟨h1, h2, h3, jn', h4, h5⟩ := h
  obtain ⟨_, _, e0, e1⟩ := m_hj_h hh hc2
  unfold m_rw
  rw [f_row_inj h1 h2 hmd hle, h5, m_hs1_jn h4 hc2]
  unfold m_hsame m_csame
  rw [e0, e1, h3, h5]
  constructor
  · rintro ⟨⟨a, b, c⟩, d⟩
    refine ⟨?_, a, fun j hj => d j (by omega)⟩
    have := congrArg (fun o => decide (o = some 0)) c
    simp only [m_hs1_jn h4 hc2, m_hs1_jn hj hc2] at this
    exact this
  · rintro ⟨a, b, c⟩
    subst a
    exact ⟨⟨b, rfl, rfl⟩, fun k hk => c k (by omega)⟩
def m_new (zs cs : Nat → Nat) (hs : Nat → Option Nat) (n w : Nat) : Prop := ∀ f, f < n → m_rw zs cs hs f ≠ w
theorem m_new_s {zs cs : Nat → Nat} {hs : Nat → Option Nat} {n w : Nat} (h : m_new zs cs hs n w) (h2 : m_rw zs cs hs n ≠ w) : m_new zs cs hs (n + 1) w := by
  intro f hf
  by_cases e : f = n
  · rw [e]; exact h2
  · exact h f (by omega)
def m_frms (hc : Nat) (zs cs : Nat → Nat) (hs : Nat → Option Nat) (n : Nat) : Prop := n ≤ 90 ∧ ∀ f, f < n → m_frm hc zs cs hs f
/-- the reference's come, as the class's -/
def m_cm (hc : Nat) (zs cs : Nat → Nat) (hs : Nat → Option Nat) (n : Nat) (lg : Bool) (w : Nat) (zs1 cs1 : Nat → Nat) (hs1 : Nat → Option Nat) (n1 : Nat) (lg1 : Bool) : Prop := m_frms hc zs1 cs1 hs1 n1 ∧ (cq_of (m_rw zs1 cs1 hs1) n1, lg1) = b_come (cq_of (m_rw zs cs hs) n, lg) w
theorem m_cm_old {hc : Nat} {zs cs : Nat → Nat} {hs : Nat → Option Nat} {n w f : Nat} {lg : Bool} (h : m_frms hc zs cs hs n) (hf : f < n) (e : m_rw zs cs hs f = w) : m_cm hc zs cs hs n lg w zs cs hs n lg := by
  refine ⟨h, ?_⟩
  unfold b_come; rw [if_pos (cq_mem.mpr ⟨f, hf, e⟩)]
theorem m_cm_full {hc : Nat} {zs cs : Nat → Nat} {hs : Nat → Option Nat} {n w : Nat} {lg : Bool} (h : m_frms hc zs cs hs n) (hn : m_new zs cs hs n w) (h90 : n = 90) : m_cm hc zs cs hs n lg w zs cs hs n true := by
  refine ⟨h, ?_⟩
  unfold b_come
  rw [if_neg (fun h => by obtain ⟨f, hf, e⟩ := cq_mem.mp h; exact hn f hf e), if_pos (by show 90 ≤ (cq_of _ n).length; rw [cq_len]; omega)]
def m_cps (cs le : Nat → Nat) (n k : Nat) : Nat → Nat := fun j => if 4 * n ≤ j ∧ j < 4 * n + k then le (j - 4 * n) else cs j
theorem m_cps_0 (cs le : Nat → Nat) (n : Nat) : m_cps cs le n 0 = cs := by funext j; unfold m_cps; rw [if_neg (by omega)]
theorem m_cps_s (cs le : Nat → Nat) (n k : Nat) : va_up (m_cps cs le n k) (4 * n + k) (le k) = m_cps cs le n (k + 1) := by
  funext j
  by_cases hj : j = 4 * n + k
  · rw [hj, up_s]; unfold m_cps; rw [if_pos (by omega), show 4 * n + k - 4 * n = k by omega]
  · rw [up_n _ _ hj]; unfold m_cps
    by_cases h : 4 * n ≤ j ∧ j < 4 * n + k
    · rw [if_pos h, if_pos (by omega)]
    · rw [if_neg h, if_neg (by omega)]
theorem m_cps_lt {cs le : Nat → Nat} {n k b : Nat} (h : ∀ j, cs j < b) (h2 : ∀ j, j < k → le j < b) : ∀ j, m_cps cs le n k j < b := by
  intro j; unfold m_cps; split
  · exact h2 _ (by omega)
  · exact h j
theorem m_cm_new {hc : Nat} {zs cs le : Nat → Nat} {hs he : Nat → Option Nat} {n md : Nat} {lg jn : Bool} (hc2 : hc ≤ 2) (h : m_frms hc zs cs hs n) (hh : m_hj he hc jn) (hj : jn = true → hc = 2) (hmd : md ≤ 4) (hle : ∀ k, k < md → le k < 4096) (hn : m_new zs cs hs n (f_row jn md le)) (h90 : n < 90) : m_cm hc zs cs hs n lg (f_row jn md le) (va_up zs n md) (m_cps cs le n md) (va_up (va_up hs (2 * n) (m_hn (m_h he) hc 0)) (2 * n + 1) (m_hn (m_h he) hc 1)) (n + 1) lg := by
  obtain ⟨_, _, e0, e1⟩ := m_hj_h hh hc2
  rw [e0, e1]
  have hlo : ∀ f, f < n → ∀ k, k < 4 → m_cps cs le n md (4 * f + k) = cs (4 * f + k) := fun f hf k hk => by unfold m_cps; rw [if_neg (by omega)]
  have hhi : ∀ k, k < md → m_cps cs le n md (4 * n + k) = le k := fun k hk => by unfold m_cps; rw [if_pos (by omega), show 4 * n + k - 4 * n = k by omega]
  have hr : ∀ f, f < n → m_rw (va_up zs n md) (m_cps cs le n md) (va_up (va_up hs (2 * n) (m_hs0 hc)) (2 * n + 1) (m_hs1 hc jn)) f = m_rw zs cs hs f := fun f hf => by
    unfold m_rw
    rw [up_n _ _ (show 2 * f + 1 ≠ 2 * n + 1 by omega), up_n _ _ (show 2 * f + 1 ≠ 2 * n by omega), up_n _ _ (show f ≠ n by omega)]
    unfold f_row
    rw [f_rowb_cg (fun j hj => hlo f hf j (by have := (h.2 f hf).1; omega))]
  have hrn : m_rw (va_up zs n md) (m_cps cs le n md) (va_up (va_up hs (2 * n) (m_hs0 hc)) (2 * n + 1) (m_hs1 hc jn)) n = f_row jn md le := by
    unfold m_rw
    rw [up_s, up_s, m_hs1_jn hj hc2]
    unfold f_row
    rw [f_rowb_cg hhi]
  refine ⟨⟨by omega, fun f hf => ?_⟩, ?_⟩
  · by_cases e : f = n
    · subst e
      unfold m_frm
      rw [up_s, up_s, up_n _ _ (show 2 * f ≠ 2 * f + 1 by omega), up_s]
      exact ⟨hmd, fun k hk => by rw [hhi k hk]; exact hle k hk, rfl, jn, hj, rfl⟩
    · obtain ⟨g1, g2, g3, g4⟩ := h.2 f (by omega)
      unfold m_frm
      rw [up_n _ _ e, up_n _ _ (show 2 * f + 1 ≠ 2 * n + 1 by omega), up_n _ _ (show 2 * f + 1 ≠ 2 * n by omega), up_n _ _ (show 2 * f ≠ 2 * n + 1 by omega), up_n _ _ (show 2 * f ≠ 2 * n by omega)]
      exact ⟨g1, fun k hk => by rw [hlo f (by omega) k (by omega)]; exact g2 k hk, g3, g4⟩
  · unfold b_come
    rw [if_neg (fun h => by obtain ⟨f, hf, e⟩ := cq_mem.mp h; exact hn f hf e), if_neg (by show ¬ 90 ≤ (cq_of _ n).length; rw [cq_len]; omega), cq_s, hrn]
    congr 2
    unfold cq_of
    exact List.map_congr_left (fun j hj => hr j (List.mem_range.mp hj))
/-! Other names for the variables -/
def c_rho (v : Nat) : Nat := if v < 8 then v else if v < 16 then v + 2 else if v < 18 then v - 8 else v
def c_rhi (v : Nat) : Nat := if v < 8 then v else if v < 10 then v + 8 else if v < 18 then v - 2 else v
theorem c_rho_v (v : Nat) : (v < 8 ∧ c_rho v = v) ∨ (8 ≤ v ∧ v < 16 ∧ c_rho v = v + 2) ∨ (16 ≤ v ∧ v < 18 ∧ c_rho v = v - 8) ∨ (18 ≤ v ∧ c_rho v = v) := by
  unfold c_rho
  split
  · omega
  · split
    · omega
    · split <;> omega
theorem c_rhi_v (v : Nat) : (v < 8 ∧ c_rhi v = v) ∨ (8 ≤ v ∧ v < 10 ∧ c_rhi v = v + 8) ∨ (10 ≤ v ∧ v < 18 ∧ c_rhi v = v - 2) ∨ (18 ≤ v ∧ c_rhi v = v) := by
  unfold c_rhi
  split
  · omega
  · split
    · omega
    · split <;> omega
theorem c_rhi_rho (v : Nat) : c_rhi (c_rho v) = v := by have := c_rho_v v; have := c_rhi_v (c_rho v); omega
theorem c_rho_rhi (v : Nat) : c_rho (c_rhi v) = v := by have := c_rhi_v v; have := c_rho_v (c_rhi v); omega
theorem c_rho_oth (v : Nat) : f_oth (c_rho v) = f_oth v := by have := c_rho_v v; unfold f_oth; rw [decide_eq_decide]; omega
theorem c_rhi_oth (v : Nat) : f_oth (c_rhi v) = f_oth v := by rw [← c_rho_oth, c_rho_rhi]
def c_mv (y : Nat × Nat × Nat) : Nat × Nat × Nat := (y.1, c_rho y.2.1, c_rho y.2.2)
def c_mvi (y : Nat × Nat × Nat) : Nat × Nat × Nat := (y.1, c_rhi y.2.1, c_rhi y.2.2)
theorem c_mvi_mv (y : Nat × Nat × Nat) : c_mvi (c_mv y) = y := by unfold c_mvi c_mv; simp only [c_rhi_rho]
theorem c_mv_mvi (y : Nat × Nat × Nat) : c_mv (c_mvi y) = y := by unfold c_mvi c_mv; simp only [c_rho_rhi]
/-- the set with its variables renamed -/
def c_mvs (S : Nat × Nat × Nat → Prop) (y : Nat × Nat × Nat) : Prop := S (c_mvi y)
theorem c_rho_eq {a v : Nat} : c_rho a = v ↔ a = c_rhi v := ⟨fun h => by rw [← h, c_rhi_rho], fun h => by rw [h, c_rho_rhi]⟩
theorem c_rhi_eq {a v : Nat} : c_rhi a = v ↔ a = c_rho v := ⟨fun h => by rw [← h, c_rho_rhi], fun h => by rw [h, c_rhi_rho]⟩
theorem c_occ_mv (v : Nat) (y : Nat × Nat × Nat) : c_occ v (c_mvi y) = c_occ (c_rho v) y := by
  unfold c_occ c_mvi
  simp only [c_rhi_eq]
def c_T (T : Nat → Bool) : Nat → Bool := fun v => T (c_rhi v)
theorem c_f_mv (T : Nat → Bool) (a : Nat) : c_rhi (c_f (c_T T) a) = c_f T (c_rhi a) := by
  unfold c_f c_T
  split
  · rfl
  · rfl
theorem c_phi_mv (T : Nat → Bool) (y : Nat × Nat × Nat) : c_mvi (c_phi (c_T T) y) = c_phi T (c_mvi y) := by
  unfold c_mvi c_phi
  simp only [c_f_mv]
theorem c_img_mv (T : Nat → Bool) (S : Nat × Nat × Nat → Prop) : c_img (c_T T) (c_mvs S) = c_mvs (c_img T S) := by
  funext y
  refine propext ⟨fun ⟨x, hx, e⟩ => ⟨c_mvi x, hx, by rw [← c_phi_mv, e]⟩, fun ⟨x, hx, e⟩ => ⟨c_mv x, by unfold c_mvs; rw [c_mvi_mv]; exact hx, ?_⟩⟩
  rw [← c_mv_mvi (c_phi (c_T T) (c_mv x)), c_phi_mv, c_mvi_mv, e, c_mv_mvi]
theorem c_lone_mv (S : Nat × Nat × Nat → Prop) (v : Nat) : c_lone (c_mvs S) v ↔ c_lone S (c_rhi v) := by
  constructor
  · rintro ⟨y, hy, ho, hu⟩
    refine ⟨c_mvi y, hy, by rw [c_occ_mv, c_rho_rhi]; exact ho, fun y' hy' h0 => ?_⟩
    have := hu (c_mv y') (by unfold c_mvs; rw [c_mvi_mv]; exact hy') (by rw [← c_rho_rhi v, ← c_occ_mv, c_mvi_mv]; exact h0)
    rw [← this, c_mvi_mv]
  · rintro ⟨y, hy, ho, hu⟩
    refine ⟨c_mv y, by unfold c_mvs; rw [c_mvi_mv]; exact hy, by rw [← c_rho_rhi v, ← c_occ_mv, c_mvi_mv]; exact ho, fun y' hy' h0 => ?_⟩
    have := hu (c_mvi y') hy' (by rw [c_occ_mv, c_rho_rhi]; exact h0)
    rw [← this, c_mv_mvi]
theorem c_clo_mv (S : Nat × Nat × Nat → Prop) (T : Nat → Bool) : c_clo (c_mvs S) (c_T T) ↔ c_clo S T := by
  constructor
  · intro h v hv hT hl
    refine h (c_rho v) (by rw [c_rho_oth]; exact hv) (by unfold c_T; rw [c_rhi_rho]; exact hT) ?_
    rw [c_img_mv, c_lone_mv, c_rhi_rho]; exact hl
  · intro h v hv hT hl
    rw [c_img_mv, c_lone_mv] at hl
    exact h (c_rhi v) (by rw [c_rhi_oth]; exact hv) hT hl
theorem c_fin_mv {S : Nat × Nat × Nat → Prop} {T : Nat → Bool} (h : c_fin S T) : c_fin (c_mvs S) (c_T T) := by
  obtain ⟨h1, h2, h3⟩ := h
  refine ⟨fun v hv => by rw [← c_rhi_oth]; exact h1 _ hv, (c_clo_mv S T).mpr h2, fun T' ok' clo' v hv => ?_⟩
  have e : c_T (fun u => T' (c_rho u)) = T' := by funext u; show T' (c_rho (c_rhi u)) = T' u; rw [c_rho_rhi]
  have := h3 (fun u => T' (c_rho u)) (fun u hu => by rw [← c_rho_oth]; exact ok' _ hu) ((c_clo_mv S _).mp (by rw [e]; exact clo')) (c_rhi v) hv
  have this : T' (c_rho (c_rhi v)) = true := this
  rw [c_rho_rhi] at this; exact this
theorem c_var_mv {S : Nat × Nat × Nat → Prop} {v : Nat} : c_var (c_mvs S) v ↔ c_var S (c_rhi v) := by
  constructor
  · rintro ⟨y, hy, h⟩
    refine ⟨c_mvi y, hy, ?_⟩
    rcases h with h | h
    · exact Or.inl (by show c_rhi y.2.1 = _; rw [h])
    · exact Or.inr (by show c_rhi y.2.2 = _; rw [h])
  · rintro ⟨y, hy, h⟩
    refine ⟨c_mv y, by unfold c_mvs; rw [c_mvi_mv]; exact hy, ?_⟩
    rcases h with h | h
    · exact Or.inl (by show c_rho y.2.1 = _; rw [h, c_rho_rhi])
    · exact Or.inr (by show c_rho y.2.2 = _; rw [h, c_rho_rhi])
theorem c_oth_mv {S : Nat × Nat × Nat → Prop} {os : Nat → Nat} {k : Nat} (h : c_oth S os k) : c_oth (c_mvs S) (fun a => c_rho (os a)) k := by
  obtain ⟨h1, h2, h3⟩ := h
  refine ⟨fun a ha => ⟨by rw [c_rho_oth]; exact (h1 a ha).1, c_var_mv.mpr (by rw [c_rhi_rho]; exact (h1 a ha).2)⟩, fun a b hab hb e => h2 a b hab hb (by have := congrArg c_rhi e; simp only [c_rhi_rho] at this; exact this), fun v hv ho => ?_⟩
  obtain ⟨a, ha, e⟩ := h3 (c_rhi v) (c_var_mv.mp hv) (by rw [c_rhi_oth]; exact ho)
  exact ⟨a, ha, by show c_rho (os a) = v; rw [e, c_rho_rhi]⟩
theorem c_rowof_mv {S : Nat × Nat × Nat → Prop} {jn : Bool} {nd : Nat → Nat} {w : Nat} (h : c_rowof S jn (fun v => nd (c_rho v)) w) : c_rowof (c_mvs S) jn nd w := by
  obtain ⟨n, nm, pl, cd, h1, h2, h3, h4, h5⟩ := h
  have hat : ∀ j, f_at nm (fun j => c_rho (pl j)) j = c_mv (f_at nm pl j) := fun j => rfl
  refine ⟨n, nm, fun j => c_rho (pl j), cd, h1, fun y => ?_, fun a c ha hac hc e => ?_, h4, h5⟩
  · unfold c_mvs
    rw [h2]
    constructor
    · rintro ⟨j, hj, e⟩; exact ⟨j, hj, by rw [hat, e, c_mv_mvi]⟩
    · rintro ⟨j, hj, e⟩; exact ⟨j, hj, by rw [← e, hat, c_mvi_mv]⟩
  · rw [hat, hat] at e
    exact h3 a c ha hac hc (by rw [← c_mvi_mv (f_at nm pl a), e, c_mvi_mv])
theorem c_rowof_mvi {S : Nat × Nat × Nat → Prop} {jn : Bool} {nd : Nat → Nat} {w : Nat} (h : c_rowof (c_mvs S) jn nd w) : c_rowof S jn (fun v => nd (c_rho v)) w := by
  obtain ⟨n, nm, pl, cd, h1, h2, h3, h4, h5⟩ := h
  have hat : ∀ j, f_at nm (fun j => c_rhi (pl j)) j = c_mvi (f_at nm pl j) := fun j => rfl
  refine ⟨n, nm, fun j => c_rhi (pl j), cd, h1, fun y => ?_, fun a c ha hac hc e => ?_, ?_, h5⟩
  · have := h2 (c_mv y)
    unfold c_mvs at this
    rw [c_mvi_mv] at this
    rw [this]
    constructor
    · rintro ⟨j, hj, e⟩; exact ⟨j, hj, by rw [hat, e, c_mvi_mv]⟩
    · rintro ⟨j, hj, e⟩; exact ⟨j, hj, by rw [← e, hat, c_mv_mvi]⟩
  · rw [hat, hat] at e
    exact h3 a c ha hac hc (by rw [← c_mv_mvi (f_at nm pl a), e, c_mv_mvi])
  · refine f_srt_cg h4 (fun j hj => ?_)
    unfold f_code
    simp only [c_rho_rhi]
theorem c_can_mv {S : Nat × Nat × Nat → Prop} {jn : Bool} {w : Nat} (h : c_can S jn w) : c_can (c_mvs S) jn w := by
  obtain ⟨T, hT, os, k, hk, ho, ⟨nd, hn, hr⟩, hl⟩ := h
  have hfx : ∀ {nd : Nat → Nat} {f : Nat → Nat}, (∀ v, v < 8 → f v = v) → c_fix nd → c_fix (fun v => nd (f v)) := fun {nd f} hf ⟨a, b, c, d⟩ => by
    refine ⟨?_, ?_, ?_, ?_⟩
    · show nd (f 0) = 0; rw [hf 0 (by decide)]; exact a
    · show nd (f 1) = 1; rw [hf 1 (by decide)]; exact b
    · show nd (f 6) = 6; rw [hf 6 (by decide)]; exact c
    · show nd (f 7) = 7; rw [hf 7 (by decide)]; exact d
  have f1 : ∀ v, v < 8 → c_rho v = v := fun v hv => by unfold c_rho; rw [if_pos hv]
  have f2 : ∀ v, v < 8 → c_rhi v = v := fun v hv => by unfold c_rhi; rw [if_pos hv]
  refine ⟨c_T T, c_fin_mv hT, fun a => c_rho (os a), k, hk, by rw [c_img_mv]; exact c_oth_mv ho, ⟨fun v => nd (c_rhi v), ⟨hfx f2 hn.1, fun a ha => ?_, fun a b hab hb => ?_⟩, ?_⟩, fun nd' w' hn' hr' => ?_⟩
  · show 2 ≤ nd (c_rhi (c_rho (os a))) ∧ nd (c_rhi (c_rho (os a))) < 2 + k
    rw [c_rhi_rho]; exact hn.2.1 a ha
  · show nd (c_rhi (c_rho (os a))) ≠ nd (c_rhi (c_rho (os b)))
    rw [c_rhi_rho, c_rhi_rho]; exact hn.2.2 a b hab hb
  · rw [c_img_mv]
    refine c_rowof_mv ?_
    have e : (fun v => (fun v => nd (c_rhi v)) (c_rho v)) = nd := by funext v; show nd (c_rhi (c_rho v)) = nd v; rw [c_rhi_rho]
    rw [e]; exact hr
  · rw [c_img_mv] at hr'
    exact hl (fun v => nd' (c_rho v)) w' ⟨hfx f1 hn'.1, hn'.2.1, hn'.2.2⟩ (c_rowof_mvi hr')
/-- the reference's first form is the class's, with other names -/
theorem c_can_ren {nm pl nm' pl' : Nat → Nat} {n : Nat} {jn : Bool} {w : Nat} (hs : f_same n nm' pl' nm (fun j => c_rho (pl j))) (h : c_can (c_set nm pl n) jn w) : c_can (c_set nm' pl' n) jn w := by
  have e : c_set nm' pl' n = c_mvs (c_set nm pl n) := by
    rw [c_set_sm hs]
    funext y
    refine propext ⟨fun ⟨j, hj, e⟩ => ⟨j, hj, ?_⟩, fun ⟨j, hj, e⟩ => ⟨j, hj, ?_⟩⟩
    · rw [← e]; show f_at nm pl j = c_mvi (c_mv (f_at nm pl j)); rw [c_mvi_mv]
    · show c_mv (f_at nm pl j) = y; rw [e, c_mv_mvi]
  rw [e]; exact c_can_mv h
