theorem p_fact_t {ro : Bool} {x a b : Int32} (h : p_fact ro x a b = true) : ∃ x' a' : Nat, x' < (if ro = true then 8 else 10) ∧ a' < 12 ∧ x = nI x' ∧ a = nI a' ∧ (ro = true → ∃ j, j < 12 ∧ b = nI j) := by
  unfold p_fact at h
  rw [Bool.and_eq_true, Bool.and_eq_true] at h
  obtain ⟨⟨h1, h2⟩, h3⟩ := h
  unfold p_name at h1
  obtain ⟨x', e1, e2⟩ := p_below_t (by split <;> decide) h1
  obtain ⟨a', e3, e4⟩ := p_below_t (by decide) h2
  refine ⟨x', a', e1, e3, e2, e4, fun hr => ?_⟩
  rw [hr] at h3
  exact p_below_t (by decide) (by simpa using h3)
def s_kfct (ro : Bool) (x a b : Int32) (qs fs : Nat) (mb tg sr sta en : Nat → Nat) (bkn : Bool) (se : Nat → Bool) (r : Int32) (fs1 : Nat) (mb1 tg1 sr1 sta1 en1 : Nat → Nat) (bkn1 : Bool) (se1 : Nat → Bool) : Prop :=
  (p_fact ro x a b = false ∧ r = -1 ∧ fs1 = fs ∧ mb1 = mb ∧ tg1 = tg ∧ sr1 = sr ∧ sta1 = sta ∧ en1 = en ∧ bkn1 = bkn ∧ se1 = se) ∨
  (p_fact ro x a b = true ∧ ∃ x' a' : Nat, x' < (if ro = true then 8 else 10) ∧ a' < 12 ∧ x = nI x' ∧ a = nI a' ∧ (ro = true → ∃ j, j < 12 ∧ b = nI j) ∧
    ((f_fhas ro mb tg x' a' b = true ∧ r = nI 0 ∧ fs1 = fs ∧ mb1 = mb ∧ tg1 = tg ∧ sr1 = sr ∧ sta1 = sta ∧ en1 = en ∧ bkn1 = bkn ∧ se1 = se) ∨
     (f_fhas ro mb tg x' a' b = false ∧ 60 ≤ fs ∧ r = -2 ∧ fs1 = fs ∧ mb1 = mb ∧ tg1 = tg ∧ sr1 = sr ∧ sta1 = sta ∧ en1 = en ∧ bkn1 = bkn ∧ se1 = se) ∨
     (f_fhas ro mb tg x' a' b = false ∧ fs < 60 ∧ r = nI 1 ∧ fs1 = fs + 1 ∧ f_fput ro mb tg sr sta en x' a' b true mb1 tg1 sr1 sta1 en1 ∧ bkn1 = false ∧ se1 = f_cut se qs)))
def s_kfgt (ro : Bool) (x a b : Int32) (qs fs : Nat) (mb tg sr sta en : Nat → Nat) (bkn : Bool) (se : Nat → Bool) (r : Int32) (fs1 : Nat) (mb1 tg1 sr1 sta1 en1 : Nat → Nat) (bkn1 : Bool) (se1 : Nat → Bool) : Prop :=
  (p_fact ro x a b = false ∧ r = -1 ∧ fs1 = fs ∧ mb1 = mb ∧ tg1 = tg ∧ sr1 = sr ∧ sta1 = sta ∧ en1 = en ∧ bkn1 = bkn ∧ se1 = se) ∨
  (p_fact ro x a b = true ∧ ∃ x' a' : Nat, x' < (if ro = true then 8 else 10) ∧ a' < 12 ∧ x = nI x' ∧ a = nI a' ∧ (ro = true → ∃ j, j < 12 ∧ b = nI j) ∧
    ((f_fhas ro mb tg x' a' b = false ∧ r = nI 0 ∧ fs1 = fs ∧ mb1 = mb ∧ tg1 = tg ∧ sr1 = sr ∧ sta1 = sta ∧ en1 = en ∧ bkn1 = bkn ∧ se1 = se) ∨
     (f_fhas ro mb tg x' a' b = true ∧ r = nI 1 ∧ fs1 = fs - 1 ∧ f_fput ro mb tg sr sta en x' a' b false mb1 tg1 sr1 sta1 en1 ∧ bkn1 = false ∧ se1 = f_cut se qs)))
/-- where a fact is, there is at least one -/
def s_hpos (ro : Bool) (x a b : Int32) (mb tg : Nat → Nat) (fs : Nat) : Prop := ∀ x' a' : Nat, x' < (if ro = true then 8 else 10) → a' < 12 → (ro = true → ∃ j, j < 12 ∧ b = nI j) → x = nI x' → a = nI a' → f_fhas ro mb tg x' a' b = true → 0 < fs
def s_kaxm (k a b : Int32) (qs na : Nat) (kd lf rg : Nat → Nat) (bkn : Bool) (se rwn : Nat → Bool) (r : Int32) (na1 : Nat) (kd1 lf1 rg1 : Nat → Nat) (bkn1 : Bool) (se1 rwn1 : Nat → Bool) : Prop :=
  (p_axiom k a b = false ∧ r = -1 ∧ na1 = na ∧ kd1 = kd ∧ lf1 = lf ∧ rg1 = rg ∧ bkn1 = bkn ∧ se1 = se ∧ rwn1 = rwn) ∨ (p_axiom k a b = true ∧ 16 ≤ na ∧ r = -2 ∧ na1 = na ∧ kd1 = kd ∧ lf1 = lf ∧ rg1 = rg ∧ bkn1 = bkn ∧ se1 = se ∧ rwn1 = rwn) ∨
  (p_axiom k a b = true ∧ na < 16 ∧ ∃ k' a' b' : Nat, m_axn k' a' b' ∧ k = nI k' ∧ a = nI a' ∧ b = nI b' ∧ r = nI na ∧ na1 = na + 1 ∧ kd1 = va_up kd na k' ∧ lf1 = va_up lf na a' ∧ rg1 = va_up rg na b' ∧ bkn1 = false ∧ se1 = f_cut se qs ∧ rwn1 = f_cut rwn qs)
def p_atg (qs : Nat) (q : Int32) (ro : Bool) (x a b : Int32) : Bool := p_below q qs && p_name ro x && p_below a 8 && (!ro || p_below b 8)
theorem p_name_r {ro : Bool} {x : Nat} (h : ro = true) (hx : x < 8) : p_name ro (nI x) = true := by
  unfold p_name; rw [if_pos h]; exact p_below_n (by decide) hx
theorem p_name_c {ro : Bool} {x : Nat} (h : ro = false) (hx : x < 10) : p_name ro (nI x) = true := by
  unfold p_name; rw [if_neg (by rw [h]; decide)]; exact p_below_n (by decide) hx
def s_katm (onm opl : Nat → Nat) (on : Nat) (rw9 : Bool) (X A Y : Nat) (r : Int32) (on1 : Nat) (onm1 opl1 : Nat → Nat) (rw1 : Bool) : Prop :=
  (f_has onm opl X A Y on ∧ r = nI on ∧ on1 = on ∧ onm1 = onm ∧ opl1 = opl ∧ rw1 = rw9) ∨ (¬ f_has onm opl X A Y on ∧ on = 4 ∧ r = -2 ∧ on1 = on ∧ onm1 = onm ∧ opl1 = opl ∧ rw1 = rw9) ∨
  (¬ f_has onm opl X A Y on ∧ on < 4 ∧ r = nI (on + 1) ∧ on1 = on + 1 ∧ onm1 = va_up onm on X ∧ opl1 = f_put opl on A Y ∧ rw1 = false)
theorem q_ff {kd lf rg nm pl nm1 pl1 : Nat → Nat} {i : Nat} (h : f_ff (kd i) (lf i) (rg i) nm pl nm1 pl1) : f_same 2 nm1 pl1 (s_fbn kd lf rg i) (m_pv (s_fba 8 9 kd lf rg i) (s_fbb 8 9 kd lf rg i)) := f_same_at (fun j hj => by
  unfold f_ff at h
  rw [m_at]
  unfold s_fbn s_fba s_fbb
  by_cases c : kd i = 2
  · rw [if_pos c] at h
    obtain ⟨rfl, rfl⟩ := h
    rw [f_at_put, f_at_put, if_pos c, if_pos c, if_pos c]
    rcases (show j = 0 ∨ j = 1 by omega) with rfl | rfl
    · rfl
    · rfl
  · rw [if_neg c] at h
    obtain ⟨rfl, rfl⟩ := h
    rw [f_at_put, f_at_put, if_neg c, if_neg c, if_neg c]
    rcases (show j = 0 ∨ j = 1 by omega) with rfl | rfl
    · rfl
    · rfl)
theorem q_ffk {n k lf rg : Nat} {nm pl nm1 pl1 : Nat → Nat} (hl : lf < 64) (hr : rg < 64) (hf : c_fmk n nm pl) (h : f_ff k lf rg nm pl nm1 pl1) : c_fmk 2 nm1 pl1 := by
  unfold f_ff at h
  have a1 := f_sort_lt (x := 8) hl (by decide)
  have a2 := f_sort_lt (x := 8) hr (by decide)
  have b1 := f_way_lt (x := 8) (y := 9) hl (by decide) (by decide)
  have b2 := f_way_lt (x := 8) (y := 9) hr (by decide) (by decide)
  split at h
  · obtain ⟨rfl, rfl⟩ := h
    exact ⟨by decide, up_lt (up_lt hf.2.1 a1.1) a2.1, up_lt (up_lt (up_lt (up_lt hf.2.2 a1.2.1) a1.2.2) a2.2.1) a2.2.2⟩
  · obtain ⟨rfl, rfl⟩ := h
    exact ⟨by decide, up_lt (up_lt hf.2.1 b1.1) b2.1, up_lt (up_lt (up_lt (up_lt hf.2.2 b1.2.1) b1.2.2) b2.2.1) b2.2.2⟩
theorem q_cnto_pos {o : Nat → Option Nat} : ∀ {k}, 0 < f_cnto o k ↔ ∃ j, j < k ∧ o j ≠ none := by
  intro k
  induction k with
  | zero => exact ⟨fun h => absurd (show 0 < 0 from h) (by decide), fun ⟨j, h, _⟩ => absurd h (Nat.not_lt_zero j)⟩
  | succ k ih =>
    simp only [f_cnto]
    constructor
    · intro h
      by_cases e : o k = none
      · rw [if_pos e] at h
        obtain ⟨j, h1, h2⟩ := ih.mp (by omega)
        exact ⟨j, by omega, h2⟩
      · exact ⟨k, by omega, e⟩
    · rintro ⟨j, h1, h2⟩
      by_cases e : j = k
      · rw [e] at h2; rw [if_neg h2]; omega
      · have := ih.mpr ⟨j, by omega, h2⟩; omega
theorem q_fz {mb tg sr sta en rs : Nat → Nat} {sz : Nat} {fd : Nat → Option Nat} {lg : Bool} (h : f_srch (fun q7 q8 => f_finds mb tg sr sta en 0 (rs q7) q8) sz fd) : 0 < f_cnto fd 192 ↔ ∃ j, s_fnd (f_finds mb tg sr sta en 0) (cq_of rs sz, lg).1 j := by
  rw [q_cnto_pos]
  have hm := s_srch_mk (FD := f_finds mb tg sr sta en 0) (fun _ _ => Iff.rfl) h
  constructor
  · rintro ⟨j, h1, h2⟩
    exact ⟨j, (hm j h1).mp (by unfold s_some; cases e : fd j with | none => exact absurd e h2 | some _ => rfl)⟩
  · rintro ⟨j, r, hr, h2⟩
    have e0 : j = 0 := by
      have := h2.2
      rw [if_pos rfl] at this
      exact this.1
    subst e0
    refine ⟨0, by decide, fun e => ?_⟩
    have := (hm 0 (by decide)).mpr ⟨r, hr, h2⟩
    unfold s_some at this
    rw [e] at this; cases this
