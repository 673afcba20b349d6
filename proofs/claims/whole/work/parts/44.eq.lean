theorem below_in {x : Int32} {n : Nat} (hn : n + 1 < 2 ^ 31) : p_below x (n + 1) = m_in x (nI 0) (nI n) := by
  unfold p_below m_in
  rw [nI_0]
  refine decide_eq_decide.mpr (and_congr Iff.rfl (not_congr ?_))
  rw [Int32.le_iff_toInt_le, Int32.lt_iff_toInt_lt, nI_toInt hn, nI_toInt (show n < 2 ^ 31 by omega)]
  omega
theorem sort_eq (x : Int32) : p_sort x = m_sort x := by
  unfold p_sort m_sort
  rw [below_in (n := 9) (by decide)]
  have e : decide (¬ x < nI 20 ∧ ¬ nI 36 ≤ x) = m_in x (nI 20) (nI 35) := by
    unfold m_in
    refine decide_eq_decide.mpr (and_congr Iff.rfl (not_congr ?_))
    rw [Int32.le_iff_toInt_le, Int32.lt_iff_toInt_lt, nI_toInt (by decide), nI_toInt (by decide)]
    omega
  rw [e]
theorem axiom_eq (k a b : Int32) : p_axiom k a b = m_axg k a b := by
  unfold p_axiom m_axg
  rw [sort_eq, sort_eq, below_in (n := 15) (by decide), below_in (n := 15) (by decide)]
theorem fact_eq (ro : Bool) (x a b : Int32) : p_fact ro x a b = m_may ro x a b := by
  unfold p_fact m_may p_name
  rw [below_in (x := a) (n := 11) (by decide), below_in (x := b) (n := 11) (by decide)]
  cases ro with
  | true => rw [if_pos rfl, if_pos rfl, below_in (x := x) (n := 7) (by decide)]; simp [Bool.and_comm, Bool.and_left_comm, Bool.and_assoc]
  | false => rw [if_neg (by decide), if_neg (by decide), below_in (x := x) (n := 9) (by decide)]; simp [Bool.and_comm]
