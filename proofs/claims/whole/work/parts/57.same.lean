def s_fa (fn fo ft : Nat → Nat) (fc : Nat) (th : Nat → Nat) (c : Nat) : Prop := ∃ k, k < fc ∧ fn k = c / 64 ∧ (c / 8 % 8 ≠ 6 → th (c / 8 % 8) = fo k) ∧ (32 ≤ c / 64 → c % 8 ≠ 6 → th (c % 8) = ft k)
def s_oc (c v : Nat) : Prop := v ≠ 6 ∧ (c / 8 % 8 = v ∨ 32 ≤ c / 64 ∧ c % 8 = v)
def s_an (th : Nat → Nat) (D : Nat → Prop) (o : Option Nat) (a : Nat) : Prop := match o with
  | none => a = 0
  | some u => D u ∧ a = th u
def s_ex8 (r : Nat → Option Nat) (th : Nat → Nat) : Prop := ∀ v u, v < 8 → r v = some u → th v = u
theorem m_r1_at {r : Nat → Option Nat} {x o v : Nat} : m_r1 r x o v = if v = x then (if x = 6 then none else some o) else r v := by
  unfold m_r1
  by_cases h : v = x
  · rw [if_pos h, h, up_s]
  · rw [if_neg h, up_n _ _ h]
/-- binding, forward -/
theorem m_bn_f {r r' : Nat → Option Nat} {c x o1 o2 : Nat} (h6 : r 6 = none) (h : m_bn r c x o1 o2 true r') : x = c / 64 ∧ r' 6 = none ∧ (∀ v u, v < 8 → r v = some u → r' v = some u) ∧ (∀ v, v < 8 → (r' v ≠ none ↔ r v ≠ none ∨ s_oc c v)) ∧ (c / 8 % 8 ≠ 6 → r' (c / 8 % 8) = some o1) ∧ (32 ≤ c / 64 → c % 8 ≠ 6 → r' (c % 8) = some o2) := by
  have hx : c / 8 % 8 < 8 := by omega
  have hy : c % 8 < 8 := by omega
  have hk : ∀ {u}, ¬ m_cl r (c / 8 % 8) o1 → r (c / 8 % 8) = some u → u = o1 := fun {u} hn hu => by
    rcases Nat.decEq u o1 with e | e
    · exact absurd ⟨fun e6 => (by rw [e6, h6] at hu; cases hu), u, hu, e⟩ hn
    · exact e
  unfold m_bn at h
  rcases h with ⟨_, h⟩ | ⟨_, _, h⟩ | ⟨a1, a2, a3, a4, a5⟩ | ⟨a1, a2, a3, a4, a5⟩
  · cases h
  · cases h
  · have e : ∀ v, v < 8 → r' v = if v = c / 8 % 8 then (if c / 8 % 8 = 6 then none else some o1) else r v := fun v hv => by rw [a5 v hv, m_r1_at]
    refine ⟨a1, ?_, fun v u hv hu => ?_, fun v hv => ?_, fun h => ?_, fun h1 h2 => ?_⟩
    · rw [e 6 (by decide)]
      by_cases h : 6 = c / 8 % 8
      · rw [if_pos h, if_pos h.symm]
      · rw [if_neg h]; exact h6
    · rw [e v hv]
      by_cases h : v = c / 8 % 8
      · rw [if_pos h]
        rw [h] at hu
        rw [if_neg (fun e6 => by rw [e6, h6] at hu; cases hu), hk a2 hu]
      · rw [if_neg h]; exact hu
    · rw [e v hv]
      unfold s_oc
      by_cases h : v = c / 8 % 8
      · rw [if_pos h]
        by_cases h2 : c / 8 % 8 = 6
        · rw [if_pos h2]
          rw [h, h2, h6]
          simp
        · rw [if_neg h2]
          simp only [ne_eq, reduceCtorEq, not_false_eq_true, true_iff]
          exact Or.inr ⟨by omega, Or.inl h.symm⟩
      · rw [if_neg h]
        refine ⟨fun h2 => Or.inl h2, fun h2 => ?_⟩
        rcases h2 with h2 | ⟨h2, h3⟩
        · exact h2
        · omega
    · rw [e _ hx, if_pos rfl, if_neg h]
    · omega
  · have e : ∀ v, v < 8 → r' v = if v = c % 8 then some o2 else if v = c / 8 % 8 then (if c / 8 % 8 = 6 then none else some o1) else r v := fun v hv => by
      rw [a5 v hv]
      by_cases h : v = c % 8
      · rw [if_pos h, h, up_s]
      · rw [if_neg h, up_n _ _ h, m_r1_at]
    have a4 := a4.mp rfl
    rw [m_r1_at] at a4
    have hxy : c / 8 % 8 = c % 8 → c / 8 % 8 ≠ 6 → o1 = o2 := fun h1 h2 => by
      rw [if_pos h1.symm, if_neg h2] at a4
      rcases a4 with a4 | a4
      · cases a4
      · exact Option.some.inj a4
    refine ⟨a1, ?_, fun v u hv hu => ?_, fun v hv => ?_, fun h => ?_, fun h1 h2 => ?_⟩
    · rw [e 6 (by decide), if_neg (by omega)]
      by_cases h : 6 = c / 8 % 8
      · rw [if_pos h, if_pos h.symm]
      · rw [if_neg h]; exact h6
    · rw [e v hv]
      by_cases hvy : v = c % 8
      · rw [if_pos hvy]
        by_cases h : v = c / 8 % 8
        · have h7 : c / 8 % 8 ≠ 6 := by omega
          rw [h] at hu
          rw [hk a2 hu, hxy (by omega) h7]
        · rw [if_neg (by omega)] at a4
          rw [← hvy, hu] at a4
          rcases a4 with a4 | a4
          · cases a4
          · exact a4.symm
      · rw [if_neg hvy]
        by_cases h : v = c / 8 % 8
        · rw [if_pos h]
          rw [h] at hu
          rw [if_neg (fun e6 => by rw [e6, h6] at hu; cases hu), hk a2 hu]
        · rw [if_neg h]; exact hu
    · rw [e v hv]
      unfold s_oc
      by_cases hvy : v = c % 8
      · rw [if_pos hvy]
        simp only [ne_eq, reduceCtorEq, not_false_eq_true, true_iff]
        exact Or.inr ⟨by omega, Or.inr ⟨a3.1, hvy.symm⟩⟩
      · rw [if_neg hvy]
        by_cases h : v = c / 8 % 8
        · rw [if_pos h]
          by_cases h2 : c / 8 % 8 = 6
          · rw [if_pos h2]
            rw [h, h2, h6]
            simp
          · rw [if_neg h2]
            simp only [ne_eq, reduceCtorEq, not_false_eq_true, true_iff]
            exact Or.inr ⟨by omega, Or.inl h.symm⟩
        · rw [if_neg h]
          refine ⟨fun h2 => Or.inl h2, fun h2 => ?_⟩
          rcases h2 with h2 | ⟨h2, h3⟩
          · exact h2
          · omega
    · rw [e _ hx]
      by_cases hxy2 : c / 8 % 8 = c % 8
      · rw [if_pos hxy2, hxy hxy2 h]
      · rw [if_neg hxy2, if_pos rfl, if_neg h]
    · rw [e _ hy, if_pos rfl]
/-- binding, back -/
theorem m_bn_b {r : Nat → Option Nat} {c x o1 o2 : Nat} {th : Nat → Nat} (hx : x = c / 64) (he : s_ex8 r th) (h1 : c / 8 % 8 ≠ 6 → th (c / 8 % 8) = o1) (h2 : 32 ≤ c / 64 → c % 8 ≠ 6 → th (c % 8) = o2) : ∃ r', m_bn r c x o1 o2 true r' ∧ s_ex8 r' th := by
  have hncl : ¬ m_cl r (c / 8 % 8) o1 := by
    rintro ⟨h6, u, hu, hne⟩
    have := he _ _ (by omega) hu
    rw [h1 h6] at this
    exact hne this.symm
  have hr1 : s_ex8 (m_r1 r (c / 8 % 8) o1) th := by
    intro v u hv hu
    rw [m_r1_at] at hu
    by_cases h : v = c / 8 % 8
    · rw [if_pos h] at hu
      by_cases h6 : c / 8 % 8 = 6
      · rw [if_pos h6] at hu; cases hu
      · rw [if_neg h6] at hu; cases hu; rw [h]; exact h1 h6
    · rw [if_neg h] at hu; exact he v u hv hu
  by_cases h3 : 32 ≤ c / 64 ∧ c % 8 ≠ 6
  · refine ⟨va_up (m_r1 r (c / 8 % 8) o1) (c % 8) (some o2), Or.inr (Or.inr (Or.inr ⟨hx, hncl, h3, ⟨fun _ => ?_, fun _ => rfl⟩, fun v _ => rfl⟩)), fun v u hv hu => ?_⟩
    · cases e : m_r1 r (c / 8 % 8) o1 (c % 8) with
      | none => exact Or.inl rfl
      | some u =>
        have := hr1 _ _ (by omega) e
        rw [h2 h3.1 h3.2] at this
        rw [this]; exact Or.inr rfl
    · by_cases h : v = c % 8
      · rw [h, up_s] at hu; cases hu; rw [h]; exact h2 h3.1 h3.2
      · rw [up_n _ _ h] at hu; exact hr1 v u hv hu
  · exact ⟨m_r1 r (c / 8 % 8) o1, Or.inr (Or.inr (Or.inl ⟨hx, hncl, by omega, rfl, fun v _ => rfl⟩)), hr1⟩
theorem s_an_cg {th : Nat → Nat} {D D' : Nat → Prop} {o : Option Nat} {a : Nat} (ho : ∀ u, o = some u → u < 6) (h : ∀ v, v < 6 → (D v ↔ D' v)) : s_an th D o a ↔ s_an th D' o a := by
  cases o with
  | none => exact Iff.rfl
  | some u => exact and_congr (h u (ho u rfl)) Iff.rfl
theorem m_rea_sem {cf fn fo ft : Nat → Nat} {fc : Nat} {o0 o1 : Option Nat} {j : Nat} (h0 : ∀ u, o0 = some u → u < 6) (h1 : ∀ u, o1 = some u → u < 6) : ∀ (m d : Nat) (r : Nat → Option Nat), r 6 = none → (g_rea (m_K cf fn fo ft fc) (m_E o0 o1) fc m d r j ↔ ∃ th, s_ex8 r th ∧ (∀ i, d ≤ i → i < d + m → s_fa fn fo ft fc th (cf i)) ∧ ∃ a b, s_an th (fun v => r v ≠ none ∨ ∃ i, d ≤ i ∧ i < d + m ∧ s_oc (cf i) v) o0 a ∧ s_an th (fun v => r v ≠ none ∨ ∃ i, d ≤ i ∧ i < d + m ∧ s_oc (cf i) v) o1 b ∧ j = 16 * a + b) := by
  intro m
  induction m with
  | zero =>
    intro d r h6
    have hD : ∀ v, (r v ≠ none ∨ ∃ i, d ≤ i ∧ i < d + 0 ∧ s_oc (cf i) v) ↔ r v ≠ none := fun v => ⟨fun h => by
      rcases h with h | ⟨i, h, h', _⟩
      · exact h
      · omega, fun h => Or.inl h⟩
    have han : ∀ {o a} {th : Nat → Nat}, (∀ u, o = some u → u < 6) → s_ex8 r th → (m_ans r 0 o = some a ↔ s_an th (fun v => r v ≠ none ∨ ∃ i, d ≤ i ∧ i < d + 0 ∧ s_oc (cf i) v) o a) := fun {o a th} ho hx => by
      rw [s_an_cg ho (fun v _ => hD v)]
      cases o with
      | none => exact ⟨fun h => (Option.some.inj h).symm, fun h => by rw [show a = 0 from h]; rfl⟩
      | some u =>
        show r (0 + u) = some a ↔ r u ≠ none ∧ a = th u
        rw [Nat.zero_add]
        have hu := ho u rfl
        constructor
        · intro h; exact ⟨by rw [h]; simp, (hx u a (by omega) h).symm⟩
        · rintro ⟨h, e⟩
          cases e2 : r u with
          | none => exact absurd e2 h
          | some z => rw [e, hx u z (by omega) e2]
    constructor
    · rintro ⟨a, b, e1, e2, e3⟩
      have hx : s_ex8 r (fun v => (r v).getD 0) := fun v u _ hu => by show (r v).getD 0 = u; rw [hu]; rfl
      exact ⟨fun v => (r v).getD 0, hx, fun i h h' => by omega, a, b, (han h0 hx).mp e1, (han h1 hx).mp e2, e3⟩
    · rintro ⟨th, hx, _, a, b, e1, e2, e3⟩
      exact ⟨a, b, (han h0 hx).mpr e1, (han h1 hx).mpr e2, e3⟩
  | succ m ih =>
    intro d r h6
    constructor
    · rintro ⟨k, r', hk, ⟨_, hb⟩, hg⟩
      obtain ⟨b1, b2, b3, b4, b5, b6⟩ := m_bn_f h6 hb
      obtain ⟨th, hx, hat, a, b, e1, e2, e3⟩ := (ih (d + 1) r' b2).mp hg
      have hD : ∀ v, v < 6 → ((r' v ≠ none ∨ ∃ i, d + 1 ≤ i ∧ i < d + 1 + m ∧ s_oc (cf i) v) ↔ (r v ≠ none ∨ ∃ i, d ≤ i ∧ i < d + (m + 1) ∧ s_oc (cf i) v)) := fun v hv => by
        rw [b4 v (by omega)]
        constructor
        · rintro ((h | h) | ⟨i, g1, g2, g3⟩)
          · exact Or.inl h
          · exact Or.inr ⟨d, by omega, by omega, h⟩
          · exact Or.inr ⟨i, by omega, by omega, g3⟩
        · rintro (h | ⟨i, g1, g2, g3⟩)
          · exact Or.inl (Or.inl h)
          · by_cases hi : i = d
            · rw [hi] at g3; exact Or.inl (Or.inr g3)
            · exact Or.inr ⟨i, by omega, by omega, g3⟩
      refine ⟨th, fun v u hv hu => hx v u hv (b3 v u hv hu), fun i g1 g2 => ?_, a, b, (s_an_cg h0 hD).mp e1, (s_an_cg h1 hD).mp e2, e3⟩
      by_cases hi : i = d
      · subst hi
        exact ⟨k, hk, b1, fun h => hx _ _ (by omega) (b5 h), fun h h' => hx _ _ (by omega) (b6 h h')⟩
      · exact hat i (by omega) (by omega)
    · rintro ⟨th, hx, hat, a, b, e1, e2, e3⟩
      obtain ⟨k, hk, k1, k2, k3⟩ := hat d (Nat.le_refl d) (by omega)
      obtain ⟨r', hb, hx'⟩ := m_bn_b k1 hx k2 k3
      obtain ⟨b1, b2, b3, b4, b5, b6⟩ := m_bn_f h6 hb
      have hD : ∀ v, v < 6 → ((r' v ≠ none ∨ ∃ i, d + 1 ≤ i ∧ i < d + 1 + m ∧ s_oc (cf i) v) ↔ (r v ≠ none ∨ ∃ i, d ≤ i ∧ i < d + (m + 1) ∧ s_oc (cf i) v)) := fun v hv => by
        rw [b4 v (by omega)]
        constructor
        · rintro ((h | h) | ⟨i, g1, g2, g3⟩)
          · exact Or.inl h
          · exact Or.inr ⟨d, by omega, by omega, h⟩
          · exact Or.inr ⟨i, by omega, by omega, g3⟩
        · rintro (h | ⟨i, g1, g2, g3⟩)
          · exact Or.inl (Or.inl h)
          · by_cases hi : i = d
            · rw [hi] at g3; exact Or.inl (Or.inr g3)
            · exact Or.inr ⟨i, by omega, by omega, g3⟩
      exact ⟨k, r', hk, ⟨hk, hb⟩, (ih (d + 1) r' b2).mpr ⟨th, hx', fun i g1 g2 => hat i (by omega) (by omega), a, b, (s_an_cg h0 hD).mpr e1, (s_an_cg h1 hD).mpr e2, e3⟩⟩
/-- both sides have the same facts -/
def s_val (x : Nat) : Prop := x < 10 ∨ 32 ≤ x ∧ x < 40
def s_bit (mb tg : Nat → Nat) (x a b : Nat) : Prop := if x < 32 then (mb x).testBit a = true else (tg ((x - 32) * 12 + a)).testBit b = true
def s_rel (mb tg fn fo ft : Nat → Nat) (fc : Nat) : Prop := (∀ k, k < fc → s_val (fn k) ∧ fo k < 12 ∧ ft k < 12) ∧ (∀ x a b, s_val x → a < 12 → b < 12 → (s_bit mb tg x a b ↔ ∃ k, k < fc ∧ m_is fn fo ft x a b k)) ∧ ∀ i k, i < k → k < fc → ¬ m_is fn fo ft (fn k) (fo k) (ft k) i
theorem s_hold_fa {mb tg fn fo ft : Nat → Nat} {fc r : Nat} {th : Nat → Nat} (hr : s_rel mb tg fn fo ft fc) (hv : ∀ i, i < d_n r → s_val (d_nm r i)) : s_hold mb tg (d_nm r) (d_pl r) (d_n r) th ↔ ∀ i, 0 ≤ i → i < 0 + d_n r → s_fa fn fo ft fc th (d_cd r i) := by
  have e0 : ∀ i, d_pl r (2 * i) = d_cd r i / 8 % 8 := fun i => by unfold d_pl; rw [if_pos (by omega), show 2 * i / 2 = i by omega]
  have e1 : ∀ i, d_pl r (2 * i + 1) = d_cd r i % 8 := fun i => by unfold d_pl; rw [if_neg (by omega), show (2 * i + 1) / 2 = i by omega]
  obtain ⟨r1, r2, r3⟩ := hr
  constructor
  · intro h i _ hi
    obtain ⟨t1, t2, ⟨f1, f2, f3⟩, h1, h2⟩ := h i (by omega)
    rw [e0] at h1
    rw [e1] at h2
    obtain ⟨k, hk, g1, g2, g3⟩ := (r2 (d_nm r i) t1 t2 (hv i (by omega)) f1 f2).mp f3
    refine ⟨k, hk, g1, fun h6 => by rw [h1 h6, g2], fun h32 h6 => ?_⟩
    rw [h2 h32 h6]
    rcases g3 with g3 | g3
    · have h32 : 32 ≤ d_nm r i := h32
      omega
    · exact g3.symm
  · intro h i hi
    obtain ⟨k, hk, g1, g2, g3⟩ := h i (Nat.zero_le i) (by omega)
    have hk2 := r1 k hk
    refine ⟨fo k, ft k, ⟨hk2.2.1, hk2.2.2, (r2 (d_nm r i) (fo k) (ft k) (hv i hi) hk2.2.1 hk2.2.2).mpr ⟨k, hk, g1, rfl, Or.inr rfl⟩⟩, ?_, ?_⟩
    · rw [e0]; exact g2
    · rw [e1]; exact g3
theorem s_occ {hc r v : Nat} (hw : c_rok hc r) (hv : v < 6) : (∃ i, 0 ≤ i ∧ i < 0 + d_n r ∧ s_oc (d_cd r i) v) ↔ 0 < f_cnt (d_pl r) v (2 * d_n r) := by
  have e0 : ∀ i, d_pl r (2 * i) = d_cd r i / 8 % 8 := fun i => by unfold d_pl; rw [if_pos (by omega), show 2 * i / 2 = i by omega]
  have e1 : ∀ i, d_pl r (2 * i + 1) = d_cd r i % 8 := fun i => by unfold d_pl; rw [if_neg (by omega), show (2 * i + 1) / 2 = i by omega]
  constructor
  · rintro ⟨i, _, hi, _, h | h⟩
    · exact f_cnt_pos (show 2 * i < 2 * d_n r by omega) (by rw [e0]; exact h)
    · exact f_cnt_pos (show 2 * i + 1 < 2 * d_n r by omega) (by rw [e1]; exact h.2)
  · intro h
    obtain ⟨q, hq, eq⟩ := c_cnt_ex h
    refine ⟨q / 2, by omega, by omega, by omega, ?_⟩
    rcases (show q % 2 = 0 ∨ q % 2 = 1 by omega) with h0 | h0
    · left; rw [← e0, show 2 * (q / 2) = q by omega]; exact eq
    · right
      have hy := (hw.2.1.2.2.2 (q / 2) (by omega)).1
      have hy : d_nm r (q / 2) < 10 ∧ d_pl r (2 * (q / 2) + 1) = 7 ∨ 32 ≤ d_nm r (q / 2) ∧ d_nm r (q / 2) < 40 ∧ c_vok hc (d_j r) (d_pl r (2 * (q / 2) + 1)) := hy
      rw [show 2 * (q / 2) + 1 = q by omega, eq] at hy
      refine ⟨?_, by rw [← e1, show 2 * (q / 2) + 1 = q by omega]; exact eq⟩
      rcases hy with hy | hy
      · omega
      · exact hy.1
/-- what the reference's search finds is the meaning -/
theorem s_rea {mb tg fn fo ft : Nat → Nat} {fc hc r j : Nat} (hr : s_rel mb tg fn fo ft fc) (hw : c_rok hc r) : g_rea (m_K (d_cd r) fn fo ft fc) (m_E (m_hs0 hc) (m_hs1 hc (d_j r))) fc (d_n r) 0 (fun _ => none) j ↔ s_find mb tg hc r j := by
  have hc2 := hw.2.1.2.1
  have hj2 := hw.2.1.2.2.1
  have h0 : ∀ u, m_hs0 hc = some u → u < 6 := fun u h => by
    unfold m_hs0 at h; split at h
    · cases h
    · cases h; decide
  have h1 : ∀ u, m_hs1 hc (d_j r) = some u → u < 6 := fun u h => by
    unfold m_hs1 at h; split at h
    · cases h
    · cases h; split <;> decide
  have hv : ∀ i, i < d_n r → s_val (d_nm r i) := fun i hi => by
    have h := (hw.2.1.2.2.2 i hi).1
    have h : d_nm r i < 10 ∧ d_pl r (2 * i + 1) = 7 ∨ 32 ≤ d_nm r i ∧ d_nm r i < 40 ∧ c_vok hc (d_j r) (d_pl r (2 * i + 1)) := h
    unfold s_val; omega
  rw [m_rea_sem h0 h1 _ _ _ rfl]
  unfold s_find
  have hD : ∀ v, v < 6 → (((fun _ : Nat => (none : Option Nat)) v ≠ none ∨ ∃ i, 0 ≤ i ∧ i < 0 + d_n r ∧ s_oc (d_cd r i) v) ↔ 0 < f_cnt (d_pl r) v (2 * d_n r)) := fun v hv => by
    rw [← s_occ hw hv]
    exact ⟨fun h => by
      rcases h with h | h
      · exact absurd rfl h
      · exact h, fun h => Or.inr h⟩
  refine exists_congr fun th => ?_
  rw [← s_hold_fa hr hv]
  have key : (∃ a b, s_an th (fun v => (fun _ : Nat => (none : Option Nat)) v ≠ none ∨ ∃ i, 0 ≤ i ∧ i < 0 + d_n r ∧ s_oc (d_cd r i) v) (m_hs0 hc) a ∧ s_an th (fun v => (fun _ : Nat => (none : Option Nat)) v ≠ none ∨ ∃ i, 0 ≤ i ∧ i < 0 + d_n r ∧ s_oc (d_cd r i) v) (m_hs1 hc (d_j r)) b ∧ j = 16 * a + b) ↔ (if hc = 0 then j = 0 else f_cok (d_pl r) (d_n r) hc (d_j r) ∧ j = 16 * th 0 + (if hc = 2 then (if d_j r = true then th 0 else th 1) else 0)) := by
    simp only [s_an_cg h0 hD, s_an_cg h1 hD]
    rcases (show hc = 0 ∨ hc = 1 ∨ hc = 2 by omega) with rfl | rfl | rfl
    · constructor
      · rintro ⟨a, b, e1, e2, e3⟩
        have e1 : a = 0 := e1
        have e2 : b = 0 := e2
        rw [if_pos rfl]; omega
      · intro h
        rw [if_pos rfl] at h
        exact ⟨0, 0, rfl, rfl, by omega⟩
    · have hjf : d_j r = false := by
        cases e : d_j r with
        | false => rfl
        | true => have := hj2 e; omega
      rw [if_neg (by decide)]
      unfold f_cok
      constructor
      · rintro ⟨a, b, ⟨e1, e1'⟩, e2, e3⟩
        have e2 : b = 0 := e2
        refine ⟨⟨e1, fun h => by omega⟩, ?_⟩
        rw [if_neg (by decide), ← e1']; omega
      · rintro ⟨⟨g1, _⟩, g3⟩
        rw [if_neg (by decide)] at g3
        exact ⟨th 0, 0, ⟨g1, rfl⟩, rfl, g3⟩
    · rw [if_neg (by decide)]
      unfold f_cok
      cases hjn : d_j r with
      | true =>
        constructor
        · rintro ⟨a, b, ⟨e1, e1'⟩, ⟨e2, e2'⟩, e3⟩
          refine ⟨⟨e1, fun h => by cases h.2⟩, ?_⟩
          rw [if_pos rfl, if_pos rfl, ← e1', e3]
          have e2' : b = th 0 := e2'
          omega
        · rintro ⟨⟨g1, _⟩, g3⟩
          rw [if_pos rfl, if_pos rfl] at g3
          exact ⟨th 0, th 0, ⟨g1, rfl⟩, ⟨g1, rfl⟩, g3⟩
      | false =>
        constructor
        · rintro ⟨a, b, ⟨e1, e1'⟩, ⟨e2, e2'⟩, e3⟩
          refine ⟨⟨e1, fun _ => e2⟩, ?_⟩
          rw [if_pos rfl, if_neg (by decide), ← e1', e3]
          have e2' : b = th 1 := e2'
          omega
        · rintro ⟨⟨g1, g2⟩, g3⟩
          rw [if_pos rfl, if_neg (by decide)] at g3
          exact ⟨th 0, th 1, ⟨g1, rfl⟩, ⟨g2 ⟨rfl, rfl⟩, rfl⟩, g3⟩
  constructor
  · rintro ⟨_, h2, h3⟩; exact ⟨h2, key.mp h3⟩
  · rintro ⟨h2, h3⟩; exact ⟨fun v u _ h => (by cases h), h2, key.mpr h3⟩
theorem s_form_rok {hc r : Nat} (hw : c_rok hc r) : s_form (d_nm r) (d_pl r) (d_n r) ∧ (hc = 0 → f_cnt (d_pl r) 0 (2 * d_n r) = 0) ∧ (¬ (hc = 2 ∧ d_j r = false) → f_cnt (d_pl r) 1 (2 * d_n r) = 0) ∧ (d_j r = true → hc = 2) ∧ f_nok (d_nm r) (d_n r) := by
  obtain ⟨w1, ⟨w2, w3, w4, w5⟩, w6, w7, _⟩ := hw
  have hp : ∀ j, j < 2 * d_n r → c_vok hc (d_j r) (d_pl r j) ∨ d_pl r j = 7 := fun j hj => by
    have h := c_fok_pl (hc := hc) (jn := d_j r) (nm := d_nm r) (pl := d_pl r) (n := d_n r) ⟨w2, w3, w4, w5⟩ j hj
    rcases h with h | h
    · exact Or.inl h
    · exact Or.inr h.2.2
  have hno : ∀ v, v < 2 → (∀ j, j < 2 * d_n r → d_pl r j ≠ v) → f_cnt (d_pl r) v (2 * d_n r) = 0 := fun v _ h => by
    rcases Nat.eq_zero_or_pos (f_cnt (d_pl r) v (2 * d_n r)) with h1 | h1
    · exact h1
    · obtain ⟨j, hj, e⟩ := c_cnt_ex h1; exact absurd e (h j hj)
  have hat : ∀ i, i < d_n r → (d_nm r i < 10 ∧ d_pl r (2 * i + 1) = 7 ∨ 32 ≤ d_nm r i ∧ d_nm r i < 40 ∧ c_vok hc (d_j r) (d_pl r (2 * i + 1))) ∧ c_vok hc (d_j r) (d_pl r (2 * i)) := fun i hi => w5 i hi
  refine ⟨⟨w2, fun i hi => ?_, w6, fun i hi => ⟨(hat i hi).2.1, fun h => ?_⟩, w7⟩, fun h => hno 0 (by decide) (fun j hj e => ?_), fun h => hno 1 (by decide) (fun j hj e => ?_), w4, fun i hi => ?_⟩
  · have := (hat i hi).1
    refine ⟨by omega, fun h => ?_⟩
    rcases this with h1 | h1
    · exact h1.2
    · omega
  · have := (hat i hi).1
    rcases this with h1 | h1
    · omega
    · exact h1.2.2.1
  · rcases hp j hj with h1 | h1
    · have := h1.2.1 e; omega
    · omega
  · rcases hp j hj with h1 | h1
    · exact h (h1.2.2 e)
    · omega
  · have := (hat i hi).1; omega
/-- the class's search and the reference's find the same -/
theorem s_same {mb tg sr sta en fn fo ft : Nat → Nat} {fc hc r j : Nat} (hmb : ∀ j, mb j < 4096) (hsta : ∀ j, sta j < 4096) (hok : s_fok tg sr sta en) (hr : s_rel mb tg fn fo ft fc) (hw : c_rok hc r) : f_finds mb tg sr sta en hc r j ↔ g_rea (m_K (d_cd r) fn fo ft fc) (m_E (m_hs0 hc) (m_hs1 hc (d_j r))) fc (d_n r) 0 (fun _ => none) j := by
  obtain ⟨a, b, c, d, _⟩ := s_form_rok hw
  rw [s_rea hr hw]
  exact s_finds hmb hsta hok a b c d
