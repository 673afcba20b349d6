/-! An atom, on both sides -/
theorem L_up_id {α : Type} (f : Nat → α) (k : Nat) : va_up f k (f k) = f := funext fun j => by
  by_cases e : j = k
  · rw [e, up_s]
  · rw [up_n _ _ e]
theorem L_pq {q : Int32} {qs : Nat} (h : qs ≤ 6) : p_below q qs = m_in q (nI 0) (nI qs - nI 1) := by
  cases qs with
  | zero =>
    have e1 : p_below q 0 = false := by
      cases e : p_below q 0 with
      | false => rfl
      | true => obtain ⟨j, hj, _⟩ := p_below_t (by decide) e; exact absurd hj (Nat.not_lt_zero j)
    have e2 : m_in q (nI 0) (nI 0 - nI 1) = false := by
      cases e : m_in q (nI 0) (nI 0 - nI 1) with
      | false => rfl
      | true => obtain ⟨j, hj, _⟩ := m_in_q0 (n := 0) (by decide) e; exact absurd hj (Nat.not_lt_zero j)
    rw [e1, e2]
  | succ n =>
    have e : nI (n + 1) - nI 1 = nI n := by
      rcases (show n = 0 ∨ n = 1 ∨ n = 2 ∨ n = 3 ∨ n = 4 ∨ n = 5 by omega) with rfl | rfl | rfl | rfl | rfl | rfl <;> decide
    rw [below_in (by omega), e]
theorem L_b4 (A B C D : Bool) : (A && C && B && (!true || D)) = (A && B && (C && D)) := by revert A B C D; decide
theorem L_b3 (A B C D : Bool) : (A && C && B && (!false || D)) = (A && B && C) := by revert A B C D; decide
theorem L_atg {qs : Nat} {q : Int32} {ro : Bool} {x a b : Int32} (h : qs ≤ 6) : p_atg qs q ro x a b = m_atg qs q ro x a b := by
  have e1 : ∀ y, p_below y 8 = m_in y (nI 0) (nI 7) := fun y => below_in (n := 7) (by decide)
  have e2 : ∀ y, p_below y 10 = m_in y (nI 0) (nI 9) := fun y => below_in (n := 9) (by decide)
  unfold p_atg m_atg p_name
  rw [L_pq h, e1, e1]
  cases ro with
  | true => rw [if_pos rfl, if_pos rfl, e1]; exact L_b4 _ _ _ _
  | false => rw [if_neg (by decide), if_neg (by decide), e2]; exact L_b3 _ _ _ _
theorem L_v8_inj {an v w : Nat} (hv : v < 8) (hw : w < 8) (h : m_v8 an v = m_v8 an w) : v = w := by
  unfold m_v8 at h; split at h <;> split at h <;> omega
theorem L_v8_lt {an v : Nat} (hv : v < 8) : m_v8 an v < 16 := by unfold m_v8; split <;> omega
theorem L_qp8 {qx qy qz : Nat → Nat} {an q j : Nat} : m_qp8 qx qy qz an q (2 * j) = m_v8 an (qy (4 * q + j)) ∧ m_qp8 qx qy qz an q (2 * j + 1) = if qx (4 * q + j) < 32 then 7 else m_v8 an (qz (4 * q + j)) := by
  unfold m_qp8; rw [m_pv_e, m_pv_o]; exact ⟨rfl, rfl⟩
def L_xyz (an X Y Z : Nat) : Prop := (X < 32 ∧ Y = 7 ∧ Z = 7) ∨ (32 ≤ X ∧ Y = m_v8 an Z ∧ Z < 8)
theorem L_has {n k an X A Y Z : Nat} {onm opl qx qy qz : Nat → Nat} (hs : f_same n onm opl (m_qn qx k) (m_qp8 qx qy qz an k)) (hq : m_qok qx qy qz k n) (hA : A < 8) (hX : L_xyz an X Y Z) : f_has onm opl X (m_v8 an A) Y n ↔ ¬ m_no3 qx qy qz X A Z (4 * k) (4 * k + n) := by
  constructor
  · rintro ⟨j, hj, e1, e2, e3⟩ hno
    obtain ⟨s1, s2, s3⟩ := hs j hj
    obtain ⟨g1, g2, g3, g4⟩ := hq.2 j hj
    rw [L_qp8.1] at s2
    rw [L_qp8.2] at s3
    have s1 : onm j = qx (4 * k + j) := s1
    have ex : qx (4 * k + j) = X := s1.symm.trans e1
    refine hno (4 * k + j) (by omega) (by omega) ⟨ex, L_v8_inj g2 hA (s2.symm.trans e2), ?_⟩
    rcases hX with ⟨h1, h2, h3⟩ | ⟨h1, h2, h3⟩
    · rw [g4 (by omega), h3]
    · rw [if_neg (by omega)] at s3
      exact L_v8_inj g3 h3 (s3.symm.trans (e3.trans h2))
  · intro h
    by_cases hn : f_has onm opl X (m_v8 an A) Y n
    · exact hn
    refine absurd (fun j h1 h2 h3 => hn ⟨j - 4 * k, by omega, ?_⟩) h
    obtain ⟨s1, s2, s3⟩ := hs (j - 4 * k) (by omega)
    rw [L_qp8.1] at s2
    rw [L_qp8.2] at s3
    have s1 : onm (j - 4 * k) = qx (4 * k + (j - 4 * k)) := s1
    rw [show 4 * k + (j - 4 * k) = j by omega] at s1 s2 s3
    obtain ⟨a, b, c⟩ := h3
    refine ⟨s1.trans a, s2.trans (by rw [b]), s3.trans ?_⟩
    rcases hX with ⟨h1, h2, h3⟩ | ⟨h1, h2, h3⟩
    · rw [if_pos (by omega)]; exact h2.symm
    · rw [if_neg (by omega), c]; exact h2.symm
theorem L_atx_u {ro : Bool} {x b : Int32} {X Z X' Z' : Nat} (h : m_atx ro x b X Z) (h' : m_atx ro x b X' Z') : X' = X ∧ Z' = Z := by
  rcases h with ⟨h1, x1, b1, h2, h3, e1, e2, rfl, rfl⟩ | ⟨h1, x1, h2, e1, rfl, rfl⟩ <;> rcases h' with ⟨g1, x2, b2, g2, g3, d1, d2, rfl, rfl⟩ | ⟨g1, x2, g2, d1, rfl, rfl⟩
  · have q1 := (nI_eq (by omega) (by omega)).mp (d1.symm.trans e1)
    have q2 := (nI_eq (by omega) (by omega)).mp (d2.symm.trans e2)
    exact ⟨by omega, q2⟩
  · rw [h1] at g1; cases g1
  · rw [h1] at g1; cases g1
  · have q1 := (nI_eq (by omega) (by omega)).mp (d1.symm.trans e1)
    exact ⟨q1, rfl⟩
theorem L_atx_v {ro : Bool} {x b : Int32} {X Z : Nat} (h : m_atx ro x b X Z) : s_val X ∧ X < 64 ∧ Z < 8 ∧ (X < 32 → Z = 7) := by
  rcases h with ⟨h1, x1, b1, h2, h3, e1, e2, rfl, rfl⟩ | ⟨h1, x1, h2, e1, rfl, rfl⟩
  · exact ⟨Or.inr (by omega), by omega, h3, fun h => (by omega)⟩
  · exact ⟨Or.inl h2, by omega, by decide, fun _ => rfl⟩
def L_atc (rw9 rw1 : Bool) (on : Nat) (onm opl : Nat → Nat) (on1 : Nat) (onm1 opl1 : Nat → Nat) (qn qx qy qz qn1 qx1 qy1 qz1 : Nat → Nat) (hd hd1 : Option Nat) : Prop := (on1 = on ∧ onm1 = onm ∧ opl1 = opl ∧ rw1 = rw9 ∧ qn1 = qn ∧ qx1 = qx ∧ qy1 = qy ∧ qz1 = qz ∧ hd1 = hd) ∨ (rw1 = false ∧ hd1 = none)
theorem L_atm_b {qs : Nat} {q x a b r' : Int32} {ro : Bool} {qn qx qy qz qn1 qx1 qy1 qz1 : Nat → Nat} {hd hd1 : Option Nat} (h6 : qs ≤ 6) (hg : ¬ p_atg qs q ro x a b = true) (h' : s_atm qs q ro x a b qn qx qy qz hd r' qn1 qx1 qy1 qz1 hd1) : r' = -1 ∧ qn1 = qn ∧ qx1 = qx ∧ qy1 = qy ∧ qz1 = qz ∧ hd1 = hd := by
  rw [L_atg h6] at hg
  rcases h' with ⟨_, h⟩ | ⟨h, _⟩
  · exact h
  · exact absurd h hg
theorem L_atm_new {qs k A X Y Z : Nat} {an on qa qn qx qy qz : Nat → Nat} {onm opl : Nat → Nat → Nat} (hQ : LQ qs an on onm opl qa qn qx qy qz) (hk : k < qs) (hA : A < 8) (hX : s_val X) (hX6 : X < 64) (hZ : Z < 8) (hXZ : X < 32 → Z = 7) (hY : L_xyz (an k) X Y Z) (h4 : on k < 4) :
    LQ qs an (va_up on k (on k + 1)) (va_up onm k (va_up (onm k) (on k) X)) (va_up opl k (f_put (opl k) (on k) (m_v8 (an k) A) Y)) qa (va_up qn k (qn k + 1)) (va_up qx (4 * k + qn k) X) (va_up qy (4 * k + qn k) A) (va_up qz (4 * k + qn k) Z) := by
  obtain ⟨h1, ⟨q1, q2, q3, q4, q5⟩, h3, h5⟩ := hQ
  obtain ⟨e1, e2, e3, e4⟩ := h5 k hk
  have hY16 : Y < 16 := by
    rcases hY with ⟨_, h, _⟩ | ⟨_, h, hz⟩
    · omega
    · rw [h]; exact L_v8_lt hz
  refine ⟨h1, ⟨q1, fun j => ?_, up_lt q3 hX6, up_lt q4 hA, up_lt q5 hZ⟩, fun j hj => ?_, fun j hj => ?_⟩
  · by_cases e : j = k
    · rw [e, up_s]; omega
    · rw [up_n _ _ e]; exact q2 j
  · by_cases e : j = k
    · rw [e, up_s, up_s, up_s]
      obtain ⟨⟨a1, a2, a3⟩, a4⟩ := h3 k (by omega)
      exact ⟨⟨by omega, up_lt a2 hX6, up_lt (up_lt a3 (L_v8_lt hA)) hY16⟩, a4⟩
    · rw [up_n _ _ e, up_n _ _ e, up_n _ _ e]; exact h3 j hj
  · by_cases e : j = k
    · subst e
      rw [up_s, up_s, up_s, up_s]
      refine ⟨e1, by omega, ⟨by omega, fun i hi => ?_⟩, fun i hi => ?_⟩
      · unfold m_qat
        by_cases e : i = qn j
        · rw [e, up_s, up_s, up_s]; exact ⟨hX, hA, hZ, hXZ⟩
        · rw [up_n _ _ (show 4 * j + i ≠ 4 * j + qn j by omega), up_n _ _ (show 4 * j + i ≠ 4 * j + qn j by omega), up_n _ _ (show 4 * j + i ≠ 4 * j + qn j by omega)]
          exact e3.2 i (by omega)
      · rw [L_qp8.1, L_qp8.2, e2]
        unfold m_qn f_put
        by_cases e : i = qn j
        · subst e
          rw [up_s, up_s, up_s, up_s, up_s, up_n _ _ (show 2 * qn j ≠ 2 * qn j + 1 by omega), up_s, ← e1]
          refine ⟨rfl, rfl, ?_⟩
          rcases hY with ⟨a, b, _⟩ | ⟨a, b, _⟩
          · rw [if_pos a]; exact b
          · rw [if_neg (by omega)]; exact b
        · obtain ⟨s1, s2, s3⟩ := e4 i (by omega)
          rw [L_qp8.1] at s2
          rw [L_qp8.2] at s3
          rw [up_n _ _ (show 4 * j + i ≠ 4 * j + qn j by omega), up_n _ _ (show 4 * j + i ≠ 4 * j + qn j by omega), up_n _ _ (show 4 * j + i ≠ 4 * j + qn j by omega), up_n _ _ (show i ≠ qn j by omega), up_n _ _ (show 2 * i ≠ 2 * qn j + 1 by omega), up_n _ _ (show 2 * i ≠ 2 * qn j by omega), up_n _ _ (show 2 * i + 1 ≠ 2 * qn j + 1 by omega), up_n _ _ (show 2 * i + 1 ≠ 2 * qn j by omega)]
          exact ⟨s1, s2, s3⟩
    · rw [up_n _ _ e, up_n _ _ e, up_n _ _ e, up_n _ _ e]
      obtain ⟨d1, d2, d3, d4⟩ := h5 j hj
      have hn := d3.1
      have up : ∀ (f : Nat → Nat) (y i : Nat), i < 4 → va_up f (4 * k + qn k) y (4 * j + i) = f (4 * j + i) := fun f y i hi => up_n _ _ (by omega)
      refine ⟨d1, d2, ⟨hn, fun i hi => ?_⟩, fun i hi => ?_⟩
      · unfold m_qat
        rw [up _ _ i (by omega), up _ _ i (by omega), up _ _ i (by omega)]
        exact d3.2 i hi
      · obtain ⟨s1, s2, s3⟩ := d4 i hi
        rw [L_qp8.1] at s2
        rw [L_qp8.2] at s3
        rw [L_qp8.1, L_qp8.2]
        unfold m_qn
        rw [up _ _ i (by omega), up _ _ i (by omega), up _ _ i (by omega)]
        exact ⟨s1, s2, s3⟩
theorem L_atm {qs k A X Y Z on1 : Nat} {q x a b r r' : Int32} {ro rw9 rw1 : Bool} {an on qa qn qx qy qz qn1 qx1 qy1 qz1 onm1 opl1 : Nat → Nat} {onm opl : Nat → Nat → Nat} {hd hd1 : Option Nat} (hQ : LQ qs an on onm opl qa qn qx qy qz) (hk : k < qs) (eq : q = nI k) (hA : A < 8) (ea : a = nI A) (hg : p_atg qs q ro x a b = true) (hx : m_atx ro x b X Z) (hY : L_xyz (an k) X Y Z)
    (h : s_katm (onm k) (opl k) (on k) rw9 X (m_v8 (an k) A) Y r on1 onm1 opl1 rw1) (h' : s_atm qs q ro x a b qn qx qy qz hd r' qn1 qx1 qy1 qz1 hd1) : r = r' ∧ LQ qs an (va_up on k on1) (va_up onm k onm1) (va_up opl k opl1) qa qn1 qx1 qy1 qz1 ∧ L_atc rw9 rw1 (on k) (onm k) (opl k) on1 onm1 opl1 qn qx qy qz qn1 qx1 qy1 qz1 hd hd1 := by
  have h6 := hQ.1
  obtain ⟨e1, e2, e3, e4⟩ := hQ.2.2.2 k hk
  have hh := L_has (X := X) (A := A) (Y := Y) (Z := Z) (by rw [← e1] at e4; exact e4) e3 hA hY
  obtain ⟨v1, v2, v3, v4⟩ := L_atx_v hx
  rcases h' with ⟨c, _⟩ | ⟨_, k2, A2, X2, Z2, hk2, eq2, hA2, ea2, hx2, h'⟩
  · rw [← L_atg h6, hg] at c; cases c
  have d1 : k2 = k := (nI_eq (by omega) (by omega)).mp (eq2.symm.trans eq)
  have d2 : A2 = A := (nI_eq (by omega) (by omega)).mp (ea2.symm.trans ea)
  obtain ⟨d3, d4⟩ := L_atx_u hx hx2
  subst d1; subst d2; subst d3; subst d4
  rw [← e2] at hh
  have same : ∀ {on1 onm1 opl1}, on1 = on k2 → onm1 = onm k2 → opl1 = opl k2 → LQ qs an (va_up on k2 on1) (va_up onm k2 onm1) (va_up opl k2 opl1) qa qn qx qy qz := fun f1 f2 f3 => by
    rw [f1, f2, f3, L_up_id, L_up_id, L_up_id]; exact hQ
  rcases h with ⟨g, rfl, f1, f2, f3, f4⟩ | ⟨g, g4, rfl, f1, f2, f3, f4⟩ | ⟨g, g4, rfl, rfl, rfl, rfl, rfl⟩ <;> rcases h' with ⟨j, rfl, rfl, rfl, rfl, rfl, rfl⟩ | ⟨j, j4, rfl, rfl, rfl, rfl, rfl, rfl⟩ | ⟨j, j4, rfl, rfl, rfl, rfl, rfl, rfl⟩
  · exact ⟨by rw [e2], same f1 f2 f3, Or.inl ⟨f1, f2, f3, f4, rfl, rfl, rfl, rfl, rfl⟩⟩
  · exact absurd (e2 ▸ j) (hh.mp g)
  · exact absurd (e2 ▸ j) (hh.mp g)
  · exact absurd (hh.mpr (e2 ▸ j)) g
  · exact ⟨rfl, same f1 f2 f3, Or.inl ⟨f1, f2, f3, f4, rfl, rfl, rfl, rfl, rfl⟩⟩
  · omega
  · exact absurd (hh.mpr (e2 ▸ j)) g
  · omega
  · exact ⟨by rw [e2], L_atm_new hQ hk hA v1 v2 v3 v4 hY g4, Or.inr ⟨rfl, rfl⟩⟩
theorem L_atm_C {qs k na on1 : Nat} {kd lf rg mb tg sr sta en an on sz onm1 opl1 qn qx qy qz qn1 qx1 qy1 qz1 : Nat → Nat} {onm opl rs : Nat → Nat → Nat} {lg rwn se : Nat → Bool} {fd : Nat → Nat → Option Nat} {rw1 : Bool} {hd hd1 : Option Nat} (hC : LC qs na kd lf rg mb tg sr sta en an on onm opl rs sz lg rwn se fd) (h : L_atc (rwn k) rw1 (on k) (onm k) (opl k) on1 onm1 opl1 qn qx qy qz qn1 qx1 qy1 qz1 hd hd1) : LC qs na kd lf rg mb tg sr sta en an (va_up on k on1) (va_up onm k onm1) (va_up opl k opl1) rs sz lg (va_up rwn k rw1) se fd := by
  rcases h with ⟨f1, f2, f3, f4, _⟩ | ⟨rfl, _⟩
  · rw [f1, f2, f3, f4, L_up_id, L_up_id, L_up_id, L_up_id]; exact hC
  · refine ⟨hC.1, fun j hj hr => ?_⟩
    by_cases e : j = k
    · rw [e, up_s] at hr; cases hr
    · rw [up_n _ _ e] at hr
      rw [up_n _ _ e, up_n _ _ e, up_n _ _ e]; exact hC.2 j hj hr
theorem L_atm_M {qs na md fcn on1 : Nat} {kd lf rg qa qn qx qy qz pp pa pb ndM le rq fe pk zs cs qn1 qx1 qy1 qz1 onk opk onm1 opl1 : Nat → Nat} {n0 : Nat} {hs bd : Nat → Option Nat} {lgM rw9 rw1 : Bool} {hd hd1 : Option Nat} (hM : LM qs na kd lf rg qa qn qx qy qz md pp pa pb ndM le rq fe pk zs cs hs fcn lgM hd bd) (h : L_atc rw9 rw1 n0 onk opk on1 onm1 opl1 qn qx qy qz qn1 qx1 qy1 qz1 hd hd1) : LM qs na kd lf rg qa qn1 qx1 qy1 qz1 md pp pa pb ndM le rq fe pk zs cs hs fcn lgM hd1 bd := by
  rcases h with ⟨_, _, _, _, rfl, rfl, rfl, rfl, rfl⟩ | ⟨_, rfl⟩
  · exact hM
  · exact ⟨hM.1, hM.2.1, hM.2.2.1, hM.2.2.2.1, hM.2.2.2.2.1, fun q h => by cases h⟩
/-! Asking, on both sides -/
theorem L_ask_C {qs k na szC : Nat} {kd lf rg mb tg sr sta en an on sz rsC : Nat → Nat} {onm opl rs : Nat → Nat → Nat} {lg rwn se : Nat → Bool} {fd : Nat → Nat → Option Nat} {lgC seC : Bool} (hC : LC qs na kd lf rg mb tg sr sta en an on onm opl rs sz lg rwn se fd) (hk : k < qs) (hbi : b_inv (an k) rsC szC lgC) (hrl : b_rel na kd lf rg (c_set (onm k) (opl k) (on k)) false (cq_of rsC szC, lgC)) (hse : seC = false ∨ (rwn k = true ∧ seC = se k ∧ szC = sz k ∧ lgC = lg k ∧ rsC = rs k)) :
    LC qs na kd lf rg mb tg sr sta en an on onm opl (va_up rs k rsC) (va_up sz k szC) (va_up lg k lgC) (va_up rwn k true) (va_up se k seC) fd := by
  refine ⟨fun j hj i => ?_, fun j hj hr => ?_⟩
  · by_cases e : j = k
    · rw [e, up_s]; exact hbi.1 i
    · rw [up_n _ _ e]; exact hC.1 j hj i
  · by_cases e : j = k
    · subst e
      rw [up_s, up_s, up_s, up_s]
      refine ⟨hbi, hrl, fun h => ?_⟩
      rcases hse with h2 | ⟨a, b, c, d, f⟩
      · rw [h2] at h; cases h
      · rw [b] at h
        rw [c, f]
        exact (hC.2 j hj a).2.2 h
    · rw [up_n _ _ e] at hr
      rw [up_n _ _ e, up_n _ _ e, up_n _ _ e, up_n _ _ e]; exact hC.2 j hj hr
theorem L_ask_F {qs k na szC : Nat} {kd lf rg mb tg sr sta en an on sz rsC : Nat → Nat} {onm opl rs : Nat → Nat → Nat} {lg rwn se : Nat → Bool} {fd : Nat → Nat → Option Nat} {fdC : Nat → Option Nat} {lgC seC : Bool} (hC : LC qs na kd lf rg mb tg sr sta en an on onm opl rs sz lg rwn se fd) (hk : k < qs) (hbi : b_inv (an k) rsC szC lgC) (hrl : b_rel na kd lf rg (c_set (onm k) (opl k) (on k)) false (cq_of rsC szC, lgC)) (hsv : seC = true → f_srch (fun q7 q8 => f_finds mb tg sr sta en (an k) (rsC q7) q8) szC fdC) :
    LC qs na kd lf rg mb tg sr sta en an on onm opl (va_up rs k rsC) (va_up sz k szC) (va_up lg k lgC) (va_up rwn k true) (va_up se k seC) (va_up fd k fdC) := by
  refine ⟨fun j hj i => ?_, fun j hj hr => ?_⟩
  · by_cases e : j = k
    · rw [e, up_s]; exact hbi.1 i
    · rw [up_n _ _ e]; exact hC.1 j hj i
  · by_cases e : j = k
    · subst e
      rw [up_s, up_s, up_s, up_s, up_s]
      exact ⟨hbi, hrl, hsv⟩
    · rw [up_n _ _ e] at hr
      rw [up_n _ _ e, up_n _ _ e, up_n _ _ e, up_n _ _ e, up_n _ _ e]; exact hC.2 j hj hr
theorem L_ask_M {qs k na md fcn : Nat} {kd lf rg qa qn qx qy qz pp pa pb ndM le rq fe pk zs cs : Nat → Nat} {hs bd : Nat → Option Nat} {lgM : Bool} (hk : k < qs) (hbd : ∀ j i, bd j = some i → i < 12) (hpk : m_ppk md pp pa pb) (hwk : m_wkk ndM le rq fe pk) (hha : m_han na kd lf rg qa qn qx qy qz zs cs hs fcn lgM k) : LM qs na kd lf rg qa qn qx qy qz md pp pa pb ndM le rq fe pk zs cs hs fcn lgM (some k) bd := ⟨hpk, hwk, hha.1.2.1, hbd, hha.1.1.1, fun q h => by cases h; exact ⟨hk, hha⟩⟩
theorem L_bk_M {qs na md fcn md1 fcn1 : Nat} {kd lf rg qa qn qx qy qz pp pa pb ndM le rq fe pk zs cs pp1 pa1 pb1 nd1 le1 rq1 fe1 pk1 zs1 cs1 : Nat → Nat} {hs bd hs1 bd1 : Nat → Option Nat} {lgM lg1 : Bool} {hd hd1 : Option Nat} (hM : LM qs na kd lf rg qa qn qx qy qz md pp pa pb ndM le rq fe pk zs cs hs fcn lgM hd bd) (hpk : m_ppk md1 pp1 pa1 pb1) (hwk : m_wkk nd1 le1 rq1 fe1 pk1) (har : m_arr zs1 cs1 hs1) (hbd : ∀ j i, bd1 j = some i → i < 12) (hf : fcn1 ≤ 90) (hun : hd1 = none ∨ (zs1 = zs ∧ cs1 = cs ∧ hs1 = hs ∧ fcn1 = fcn ∧ lg1 = lgM ∧ hd1 = hd)) : LM qs na kd lf rg qa qn qx qy qz md1 pp1 pa1 pb1 nd1 le1 rq1 fe1 pk1 zs1 cs1 hs1 fcn1 lg1 hd1 bd1 := by
  refine ⟨hpk, hwk, har, hbd, hf, fun q h => ?_⟩
  rcases hun with rfl | ⟨rfl, rfl, rfl, rfl, rfl, rfl⟩
  · cases h
  · exact hM.2.2.2.2.2 q h
theorem L_mem {rs : Nat → Nat} {sz an w : Nat} {lg : Bool} (h : b_inv an rs sz lg) (hw : w ∈ (cq_of rs sz, lg).1) : c_rok an w := by
  obtain ⟨i, hi, e⟩ := List.mem_iff_getElem.mp hw
  have hl : (cq_of rs sz).length = sz := cq_len _ _
  have hi2 : i < sz := by rw [← hl]; exact hi
  have : (cq_of rs sz).getD i 0 = rs i := cq_getD _ hi2
  rw [List.getD_eq_getElem?_getD, List.getElem?_eq_getElem hi] at this
  have e2 : w = rs i := e.symm.trans this
  rw [e2]; exact b_rows_at h hi2
