/-! What is freed: the least set of variables that is closed -/
def c_occ (v : Nat) (y : Nat × Nat × Nat) : Nat := (if y.2.1 = v then 1 else 0) + (if y.2.2 = v then 1 else 0)
def c_f (T : Nat → Bool) (a : Nat) : Nat := if T a = true then 6 else a
def c_phi (T : Nat → Bool) (y : Nat × Nat × Nat) : Nat × Nat × Nat := (y.1, c_f T y.2.1, c_f T y.2.2)
def c_img (T : Nat → Bool) (S : Nat × Nat × Nat → Prop) (y : Nat × Nat × Nat) : Prop := ∃ x, S x ∧ c_phi T x = y
def c_lone (S : Nat × Nat × Nat → Prop) (v : Nat) : Prop := ∃ y, S y ∧ c_occ v y = 1 ∧ ∀ y', S y' → 0 < c_occ v y' → y' = y
def c_ok (T : Nat → Bool) : Prop := ∀ v, T v = true → f_oth v = true
def c_clo (S : Nat × Nat × Nat → Prop) (T : Nat → Bool) : Prop := ∀ v, f_oth v = true → T v = false → ¬ c_lone (c_img T S) v
def c_fin (S : Nat × Nat × Nat → Prop) (T : Nat → Bool) : Prop := c_ok T ∧ c_clo S T ∧ ∀ T', c_ok T' → c_clo S T' → ∀ v, T v = true → T' v = true
theorem c_f_eq {T : Nat → Bool} {v : Nat} (h : T v = false) (h6 : v ≠ 6) (a : Nat) : c_f T a = v ↔ a = v := by
  unfold c_f
  by_cases ha : T a = true
  · rw [if_pos ha]
    exact ⟨fun h1 => absurd h1.symm h6, fun h1 => by rw [h1, h] at ha; cases ha⟩
  · rw [if_neg ha]
theorem c_occ_phi {T : Nat → Bool} {v : Nat} (h : T v = false) (h6 : v ≠ 6) (x : Nat × Nat × Nat) : c_occ v (c_phi T x) = c_occ v x := by
  unfold c_occ c_phi
  simp only [c_f_eq h h6]
theorem c_f_f {T T' : Nat → Bool} (hs : ∀ u, T u = true → T' u = true) (h6 : T' 6 = false) (a : Nat) : c_f T' (c_f T a) = c_f T' a := by
  unfold c_f
  by_cases ha : T a = true
  · rw [if_pos ha, if_neg (by rw [h6]; decide), if_pos (hs a ha)]
  · rw [if_neg ha]
theorem c_phi_phi {T T' : Nat → Bool} (hs : ∀ u, T u = true → T' u = true) (h6 : T' 6 = false) (x : Nat × Nat × Nat) : c_phi T' (c_phi T x) = c_phi T' x := by
  unfold c_phi
  simp only [c_f_f hs h6]
theorem c_ok6 {T : Nat → Bool} (h : c_ok T) : T 6 = false := by
  cases e : T 6 with
  | false => rfl
  | true => exact absurd (h 6 e) (by decide)
theorem c_step {S : Nat × Nat × Nat → Prop} {T T' : Nat → Bool} {v : Nat} (hok : c_ok T') (hs : ∀ u, T u = true → T' u = true) (hc : c_clo S T') (hv : f_oth v = true) (hT : T v = false) (hl : c_lone (c_img T S) v) : T' v = true := by
  cases e : T' v with
  | true => rfl
  | false =>
    have h6 : v ≠ 6 := fun h => by rw [h] at hv; exact absurd hv (by decide)
    obtain ⟨y, ⟨x, hx, ex⟩, ho, hu⟩ := hl
    refine absurd ⟨c_phi T' x, ⟨x, hx, rfl⟩, ?_, fun y' ⟨x', hx', ex'⟩ h0 => ?_⟩ (hc v hv e)
    · rw [c_occ_phi e h6, ← c_occ_phi hT h6 x, ex]; exact ho
    · rw [← ex', c_occ_phi e h6, ← c_occ_phi hT h6 x'] at h0
      have h1 := hu _ ⟨x', hx', rfl⟩ h0
      rw [← ex', ← c_phi_phi hs (c_ok6 hok) x', h1, ← ex, c_phi_phi hs (c_ok6 hok)]
theorem c_fin_eq {S : Nat × Nat × Nat → Prop} {T T' : Nat → Bool} (h : c_fin S T) (h' : c_fin S T') : T = T' := by
  funext v
  cases e : T v with
  | true => exact (h.2.2 T' h'.1 h'.2.1 v e).symm
  | false =>
    cases e' : T' v with
    | false => rfl
    | true => have := h'.2.2 T h.1 h.2.1 v e'; rw [e] at this; cases this
