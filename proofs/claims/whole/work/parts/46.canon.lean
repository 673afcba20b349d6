def c_set (g1 g2 : Nat → Nat) (n : Nat) (y : Nat × Nat × Nat) : Prop := ∃ j, j < n ∧ f_at g1 g2 j = y
theorem c_cnt_s (g1 g2 : Nat → Nat) (v n : Nat) : f_cnt g2 v (2 * (n + 1)) = f_cnt g2 v (2 * n) + c_occ v (f_at g1 g2 n) := by
  rw [show 2 * (n + 1) = 2 * n + 1 + 1 by omega]
  show f_cnt g2 v (2 * n) + (if g2 (2 * n) = v then 1 else 0) + (if g2 (2 * n + 1) = v then 1 else 0) = _
  exact Nat.add_assoc _ _ _
theorem c_cnt_0 {g1 g2 : Nat → Nat} {v : Nat} : ∀ {n : Nat}, (∀ j, j < n → c_occ v (f_at g1 g2 j) = 0) → f_cnt g2 v (2 * n) = 0 := by
  intro n
  induction n with
  | zero => intro _; rfl
  | succ n ih => intro h; rw [c_cnt_s g1, ih (fun j hj => h j (by omega)), h n (by omega)]
theorem c_cnt_ge {g1 g2 : Nat → Nat} {v : Nat} : ∀ {n j : Nat}, j < n → c_occ v (f_at g1 g2 j) ≤ f_cnt g2 v (2 * n) := by
  intro n
  induction n with
  | zero => intro j h; omega
  | succ n ih =>
    intro j hj
    rw [c_cnt_s g1]
    by_cases h : j = n
    · rw [h]; omega
    · have := ih (show j < n by omega); omega
theorem c_cnt_two {g1 g2 : Nat → Nat} {v : Nat} : ∀ {n j k : Nat}, j < k → k < n → c_occ v (f_at g1 g2 j) + c_occ v (f_at g1 g2 k) ≤ f_cnt g2 v (2 * n) := by
  intro n
  induction n with
  | zero => intro j k _ h; omega
  | succ n ih =>
    intro j k hjk hk
    rw [c_cnt_s g1]
    by_cases h : k = n
    · rw [h]; have := c_cnt_ge (g1 := g1) (g2 := g2) (v := v) (show j < n by omega); omega
    · have := ih hjk (show k < n by omega); omega
theorem c_cnt_pos {g1 g2 : Nat → Nat} {v n : Nat} (h : 0 < f_cnt g2 v (2 * n)) : ∃ j, j < n ∧ 0 < c_occ v (f_at g1 g2 j) := by
  rcases Classical.em (∃ j, j < n ∧ 0 < c_occ v (f_at g1 g2 j)) with h1 | h1
  · exact h1
  · have := c_cnt_0 (g1 := g1) (g2 := g2) (v := v) (n := n) (fun j hj => by
      rcases Nat.eq_zero_or_pos (c_occ v (f_at g1 g2 j)) with h2 | h2
      · exact h2
      · exact absurd ⟨j, hj, h2⟩ h1)
    omega
theorem c_lone_cnt {g1 g2 : Nat → Nat} {v n : Nat} (hn : f_ndi g1 g2 n n) : c_lone (c_set g1 g2 n) v ↔ f_cnt g2 v (2 * n) = 1 := by
  constructor
  · rintro ⟨y, ⟨j, hj, ej⟩, ho, hu⟩
    have hz : ∀ k, k < n → k ≠ j → c_occ v (f_at g1 g2 k) = 0 := by
      intro k hk hkj
      rcases Nat.eq_zero_or_pos (c_occ v (f_at g1 g2 k)) with h2 | h2
      · exact h2
      · have e := hu _ ⟨k, hk, rfl⟩ h2
        rw [← ej] at e
        rcases Nat.lt_or_gt_of_ne hkj with h3 | h3
        · exact absurd e (hn k j hk h3 hj)
        · exact absurd e.symm (hn j k hj h3 hk)
    have hsum : ∀ m, m ≤ n → f_cnt g2 v (2 * m) = if j < m then 1 else 0 := by
      intro m
      induction m with
      | zero => intro _; rfl
      | succ m ih =>
        intro hm
        rw [c_cnt_s g1, ih (by omega)]
        by_cases h : m = j
        · subst h; rw [if_neg (by omega), if_pos (by omega), ej, ho]
        · rw [hz m (by omega) h]
          by_cases h2 : j < m
          · rw [if_pos h2, if_pos (by omega)]
          · rw [if_neg h2, if_neg (by omega)]
    rw [hsum n (Nat.le_refl n), if_pos hj]
  · intro h
    obtain ⟨j, hj, h0⟩ := c_cnt_pos (g1 := g1) (show 0 < f_cnt g2 v (2 * n) by omega)
    have h1 := c_cnt_ge (g1 := g1) (g2 := g2) (v := v) hj
    refine ⟨f_at g1 g2 j, ⟨j, hj, rfl⟩, by omega, fun y' ⟨k, hk, ek⟩ hy => ?_⟩
    rw [← ek] at hy ⊢
    by_cases hkj : k = j
    · rw [hkj]
    · rcases Nat.lt_or_gt_of_ne hkj with h3 | h3
      · have := c_cnt_two (g1 := g1) (g2 := g2) (v := v) h3 hj; omega
      · have := c_cnt_two (g1 := g1) (g2 := g2) (v := v) h3 hk; omega
