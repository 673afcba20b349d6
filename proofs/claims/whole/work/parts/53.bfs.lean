theorem c_set_sm {n : Nat} {nm pl nm' pl' : Nat → Nat} (h : f_same n nm pl nm' pl') : c_set nm pl n = c_set nm' pl' n := by
  have hat : ∀ j, j < n → f_at nm pl j = f_at nm' pl' j := fun j hj => by
    obtain ⟨a, b, c⟩ := h j hj
    unfold f_at; rw [a, b, c]
  funext y
  exact propext ⟨fun ⟨j, hj, e⟩ => ⟨j, hj, by rw [← hat j hj]; exact e⟩, fun ⟨j, hj, e⟩ => ⟨j, hj, by rw [hat j hj]; exact e⟩⟩
theorem f_same_at {n : Nat} {nm pl nm' pl' : Nat → Nat} (h : ∀ j, j < n → f_at nm pl j = f_at nm' pl' j) : f_same n nm pl nm' pl' := fun j hj => by
  have := h j hj
  unfold f_at at this
  simp only [Prod.mk.injEq] at this
  exact this
theorem f_at_sm {n j : Nat} {nm pl nm' pl' : Nat → Nat} (h : f_same n nm pl nm' pl') (hj : j < n) : f_at nm pl j = f_at nm' pl' j := by
  obtain ⟨a, b, c⟩ := h j hj
  unfold f_at; rw [a, b, c]
theorem f_same_put {n : Nat} {nm pl nm' pl' : Nat → Nat} (h : f_same n nm pl nm' pl') (i x a b : Nat) : f_same n (va_up nm i x) (f_put pl i a b) (va_up nm' i x) (f_put pl' i a b) := f_same_at (fun j hj => by
  rw [f_at_put, f_at_put, f_at_sm h hj])
theorem f_same_un {n i k : Nat} {nm pl nm' pl' : Nat → Nat} (h : f_same n nm pl nm' pl') (hi : i < n) (hk : k < n) : f_same n nm (f_unI pl n i k 2) nm' (f_unI pl' n i k 2) ∧ ∀ jn, f_unK pl n i k jn 2 = f_unK pl' n i k jn 2 := by
  have hu := f_unI_cg (f_same_pl h) hi hk
  exact ⟨fun j hj => ⟨(h j hj).1, hu.1 _ (by omega), hu.1 _ (by omega)⟩, hu.2⟩
theorem c_fok_sm {hc n : Nat} {jn : Bool} {nm pl nm' pl' : Nat → Nat} (h : f_same n nm pl nm' pl') (hf : c_fok hc jn nm' pl' n) : c_fok hc jn nm pl n := ⟨hf.1, hf.2.1, hf.2.2.1, fun j hj => by rw [f_at_sm h hj]; exact hf.2.2.2 j hj⟩
/-! Forms come, one by one -/
def b_come (s : List Nat × Bool) (w : Nat) : List Nat × Bool := if w ∈ s.1 then s else if 90 ≤ s.1.length then (s.1, true) else (s.1 ++ [w], s.2)
def b_for (f : Nat → List Nat × Bool → List Nat × Bool) : Nat → List Nat × Bool → List Nat × Bool
  | 0, s => s
  | k + 1, s => if (b_for f k s).2 = true then b_for f k s else f k (b_for f k s)
noncomputable def b_rep (kd lf rg : Nat → Nat) (w i x : Nat) (s : List Nat × Bool) : List Nat × Bool := match f_rw (kd x) (lf x) (rg x) (d_nm w i) (d_pl w (2 * i)) (d_pl w (2 * i + 1)) with
  | none => s
  | some q => b_come s (c_cn (c_set (va_up (d_nm w) i q.1) (f_put (d_pl w) i q.2.1 q.2.2) (d_n w)) (d_j w))
noncomputable def b_uni (w i k : Nat) (s : List Nat × Bool) : List Nat × Bool := if k ≤ i then s else if d_nm w i = d_nm w k then b_come s (c_cn (c_set (d_nm w) (f_unI (d_pl w) (d_n w) i k 2) (d_n w)) (f_unK (d_pl w) (d_n w) i k (d_j w) 2)) else s
noncomputable def b_r1 (na : Nat) (kd lf rg : Nat → Nat) (w : Nat) : Nat → List Nat × Bool → List Nat × Bool := b_for (fun i => b_for (b_rep kd lf rg w i) na)
noncomputable def b_u1 (w : Nat) : Nat → List Nat × Bool → List Nat × Bool := b_for (fun i => b_for (b_uni w i) (d_n w))
noncomputable def b_one (na : Nat) (kd lf rg : Nat → Nat) (w : Nat) (s : List Nat × Bool) : List Nat × Bool := b_u1 w (d_n w) (b_r1 na kd lf rg w (d_n w) s)
noncomputable def b_it (na : Nat) (kd lf rg : Nat → Nat) : Nat → List Nat × Bool → List Nat × Bool
  | 0, s => s
  | i + 1, s => if (b_it na kd lf rg i s).2 = true ∨ (b_it na kd lf rg i s).1.length ≤ i then b_it na kd lf rg i s else b_one na kd lf rg ((b_it na kd lf rg i s).1.getD i 0) (b_it na kd lf rg i s)
noncomputable def b_all (na : Nat) (kd lf rg : Nat → Nat) (w0 : Nat) : List Nat × Bool := b_it na kd lf rg 91 (b_come ([], false) w0)
theorem b_for_st {f : Nat → List Nat × Bool → List Nat × Bool} {s : List Nat × Bool} (h : s.2 = true) : ∀ m, b_for f m s = s := by
  intro m
  induction m with
  | zero => rfl
  | succ m ih => rw [b_for, ih, if_pos h]
theorem b_for_s {f : Nat → List Nat × Bool → List Nat × Bool} {s t : List Nat × Bool} {k : Nat} (h : t = b_for f k s) (h2 : t.2 = false) : f k t = b_for f (k + 1) s := by
  rw [b_for, ← h, if_neg (by rw [h2]; decide)]
theorem b_for_x {f : Nat → List Nat × Bool → List Nat × Bool} {s t : List Nat × Bool} {k m : Nat} (h : t = b_for f k s) (hk : k ≤ m) (hx : m ≤ k ∨ t.2 = true) : t = b_for f m s := by
  rcases hx with hx | hx
  · rw [show m = k by omega]; exact h
  · obtain ⟨d, rfl⟩ : ∃ d, m = k + d := ⟨m - k, by omega⟩
    clear hk
    induction d with
    | zero => exact h
    | succ d ih => rw [← Nat.add_assoc, b_for, ← ih, if_pos hx]
/-- a loop in a loop: what the inner one does with what was before -/
theorem b_for_in {g : Nat → Nat → List Nat × Bool → List Nat × Bool} {s t u : List Nat × Bool} {i m : Nat} (h : t = b_for (fun i => b_for (g i) m) i s) (hu : u = b_for (g i) m t) : u = b_for (fun i => b_for (g i) m) (i + 1) s := by
  rw [b_for, ← h]
  by_cases h2 : t.2 = true
  · rw [if_pos h2, hu]; exact b_for_st h2 m
  · rw [if_neg h2]; exact hu
theorem b_uni_skip (w i : Nat) (s : List Nat × Bool) : ∀ k, k ≤ i + 1 → b_for (b_uni w i) k s = s := by
  intro k
  induction k with
  | zero => intro _; rfl
  | succ k ih =>
    intro hk
    rw [b_for, ih (by omega)]
    split
    · rfl
    · unfold b_uni; rw [if_pos (by omega)]
theorem b_it_s {na : Nat} {kd lf rg : Nat → Nat} {i : Nat} {s t : List Nat × Bool} (h : t = b_it na kd lf rg i s) (h2 : t.2 = false) (h3 : i < t.1.length) : b_one na kd lf rg (t.1.getD i 0) t = b_it na kd lf rg (i + 1) s := by
  rw [b_it, ← h, if_neg]
  rintro (h4 | h4)
  · rw [h2] at h4; cases h4
  · omega
theorem b_it_x {na : Nat} {kd lf rg : Nat → Nat} {i m : Nat} {s t : List Nat × Bool} (h : t = b_it na kd lf rg i s) (hm : i ≤ m) (hx : t.2 = true ∨ t.1.length ≤ i) : t = b_it na kd lf rg m s := by
  obtain ⟨d, rfl⟩ : ∃ d, m = i + d := ⟨m - i, by omega⟩
  clear hm
  induction d with
  | zero => exact h
  | succ d ih =>
    rw [← Nat.add_assoc, b_it, ← ih, if_pos]
    rcases hx with hx | hx
    · exact Or.inl hx
    · exact Or.inr (by omega)
/-- all rows are such as forms of hc answers have, and there are at most 90 -/
def b_ok (hc : Nat) (s : List Nat × Bool) : Prop := s.1.length ≤ 90 ∧ ∀ w, w ∈ s.1 → c_rok hc w
theorem b_ok_come {hc : Nat} {s : List Nat × Bool} {w : Nat} (h : b_ok hc s) (hw : c_rok hc w) : b_ok hc (b_come s w) := by
  unfold b_come
  split
  · exact h
  · split
    · exact h
    · refine ⟨by simp; omega, fun x hx => ?_⟩
      rw [List.mem_append, List.mem_singleton] at hx
      rcases hx with hx | hx
      · exact h.2 x hx
      · rw [hx]; exact hw
/-- the class's rows -/
theorem b_come_f {rs rs1 : Nat → Nat} {sz sz1 w : Nat} {lg lg1 : Bool} (h : f_come rs sz w lg sz1 lg1 rs1) : (cq_of rs1 sz1, lg1) = b_come (cq_of rs sz, lg) w := by
  have hm : w ∈ cq_of rs sz ↔ ¬ f_new rs sz w := by
    rw [cq_mem]
    constructor
    · rintro ⟨j, hj, e⟩ h; exact h j hj e
    · intro h
      rcases Classical.em (∃ j, j < sz ∧ rs j = w) with h1 | h1
      · exact h1
      · exact absurd (fun i hi e => h1 ⟨i, hi, e⟩) h
  unfold b_come
  rcases h with ⟨h1, rfl, rfl, rfl⟩ | ⟨h1, h2, rfl, rfl, rfl⟩ | ⟨h1, h2, rfl, rfl, rfl⟩
  · rw [if_pos (hm.mpr h1)]
  · rw [if_neg (fun h => hm.mp h h1), if_pos (by show 90 ≤ (cq_of rs1 sz1).length; rw [cq_len]; exact h2)]
  · rw [if_neg (fun h => hm.mp h h1), if_neg (by show ¬ 90 ≤ (cq_of rs sz).length; rw [cq_len]; omega), cq_s, up_s]
    congr 2
    unfold cq_of
    refine List.map_congr_left (fun j hj => up_n _ _ ?_)
    have := List.mem_range.mp hj
    omega
theorem cq_getD (rs : Nat → Nat) {sz i : Nat} (h : i < sz) : (cq_of rs sz).getD i 0 = rs i := by
  rw [List.getD_eq_getElem?_getD]
  simp [cq_of, h]
theorem b_ok_rows {hc sz : Nat} {rs : Nat → Nat} {lg : Bool} (h : b_ok hc (cq_of rs sz, lg)) : sz ≤ 90 ∧ ∀ j, j < sz → c_rok hc (rs j) := by
  refine ⟨?_, fun j hj => h.2 _ (cq_mem.mpr ⟨j, hj, rfl⟩)⟩
  have := h.1
  rw [show (cq_of rs sz, lg).1 = cq_of rs sz from rfl, cq_len] at this
  exact this
/-- one atom replaced, in the class -/
theorem b_rep_n {kd lf rg : Nat → Nat} {w i x : Nat} {s : List Nat × Bool} (h : f_rw (kd x) (lf x) (rg x) (d_nm w i) (d_pl w (2 * i)) (d_pl w (2 * i + 1)) = none) : b_rep kd lf rg w i x s = s := by
  unfold b_rep; rw [h]
theorem b_rep_s {hc : Nat} {kd lf rg nm pl : Nat → Nat} {w i x w' : Nat} {q : Nat × Nat × Nat} {s : List Nat × Bool} (hs : f_same (d_n w) nm pl (va_up (d_nm w) i q.1) (f_put (d_pl w) i q.2.1 q.2.2)) (h : f_rw (kd x) (lf x) (rg x) (d_nm w i) (d_pl w (2 * i)) (d_pl w (2 * i + 1)) = some q) (hax : m_axn (kd x) (lf x) (rg x)) (hi : i < d_n w) (hw : c_rok hc w) (hc1 : c_can (c_set nm pl (d_n w)) (d_j w) w') : b_rep kd lf rg w i x s = b_come s w' ∧ c_rok hc w' := by
  rw [c_set_sm hs] at hc1
  refine ⟨?_, (c_can_rok hc1 (c_fok_put hw.2.1 (c_aok_rw (hw.2.1.2.2.2 i hi) hax h))).1⟩
  unfold b_rep; rw [h]
  show b_come s (c_cn _ _) = _
  rw [c_cn_eq hc1]
theorem b_uni_n {w i k : Nat} {s : List Nat × Bool} (h : ¬ d_nm w i = d_nm w k) : b_uni w i k s = s := by
  unfold b_uni; rw [if_neg h]; split <;> rfl
theorem b_uni_s {hc : Nat} {nm pl : Nat → Nat} {jn : Bool} {w i k w' : Nat} {s : List Nat × Bool} (hs : f_same (d_n w) nm pl (d_nm w) (f_unI (d_pl w) (d_n w) i k 2)) (hj : jn = f_unK (d_pl w) (d_n w) i k (d_j w) 2) (h : d_nm w i = d_nm w k) (hik : i < k) (hk : k < d_n w) (hw : c_rok hc w) (hc1 : c_can (c_set nm pl (d_n w)) jn w') : b_uni w i k s = b_come s w' ∧ c_rok hc w' := by
  rw [c_set_sm hs, hj] at hc1
  refine ⟨?_, (c_can_rok hc1 (c_fok_un2 hw.2.1 (by omega) hk h)).1⟩
  unfold b_uni
  rw [if_neg (by omega), if_pos h, c_cn_eq hc1]
