def c_oth (R : Nat × Nat × Nat → Prop) (os : Nat → Nat) (k : Nat) : Prop := (∀ a, a < k → f_oth (os a) = true ∧ c_var R (os a)) ∧ (∀ a b, a < b → b < k → os a ≠ os b) ∧ ∀ v, c_var R v → f_oth v = true → ∃ a, a < k ∧ os a = v
def c_fix (nd : Nat → Nat) : Prop := nd 0 = 0 ∧ nd 1 = 1 ∧ nd 6 = 6 ∧ nd 7 = 7
def c_nam (nd os : Nat → Nat) (k : Nat) : Prop := c_fix nd ∧ (∀ a, a < k → 2 ≤ nd (os a) ∧ nd (os a) < 2 + k) ∧ ∀ a b, a < b → b < k → nd (os a) ≠ nd (os b)
/-- the least row of a set whose lone variables are freed -/
def c_canR (R : Nat × Nat × Nat → Prop) (jn : Bool) (w : Nat) : Prop := ∃ os k, k ≤ 4 ∧ c_oth R os k ∧ (∃ nd, c_nam nd os k ∧ c_rowof R jn nd w) ∧ ∀ nd w', c_nam nd os k → c_rowof R jn nd w' → w ≤ w'
theorem c_oth_len {R : Nat × Nat × Nat → Prop} {os os' : Nat → Nat} {k k' : Nat} (h : c_oth R os k) (h' : c_oth R os' k') : k = k' := by
  have hp : (cq_of os k).Perm (cq_of os' k') := cq_perm h.2.1 h'.2.1 (fun x => ⟨fun ⟨j, hj, e⟩ => by
      have := h.1 j hj; rw [e] at this; exact h'.2.2 x this.2 this.1, fun ⟨j, hj, e⟩ => by
      have := h'.1 j hj; rw [e] at this; exact h.2.2 x this.2 this.1⟩)
  have := hp.length_eq
  rwa [cq_len, cq_len] at this
theorem c_nam_cg {R : Nat × Nat × Nat → Prop} {os os' nd : Nat → Nat} {k k' : Nat} (h : c_oth R os k) (h' : c_oth R os' k') (hn : c_nam nd os k) : c_nam nd os' k' := by
  have hk := c_oth_len h h'
  subst hk
  have hx : ∀ a, a < k → ∃ b, b < k ∧ os b = os' a := fun a ha => h.2.2 _ (h'.1 a ha).2 (h'.1 a ha).1
  refine ⟨hn.1, fun a ha => ?_, fun a b hab hb => ?_⟩
  · obtain ⟨c, hc, e⟩ := hx a ha
    rw [← e]; exact hn.2.1 c hc
  · obtain ⟨c, hc, e⟩ := hx a (by omega)
    obtain ⟨d, hd, e2⟩ := hx b hb
    have hne := h'.2.1 a b hab hb
    rw [← e, ← e2] at hne ⊢
    rcases Nat.lt_trichotomy c d with h3 | h3 | h3
    · exact hn.2.2 c d h3 hd
    · subst h3; exact absurd rfl hne
    · exact (hn.2.2 d c h3 hc).symm
theorem c_canR_eq {R : Nat × Nat × Nat → Prop} {jn : Bool} {w w' : Nat} (h : c_canR R jn w) (h' : c_canR R jn w') : w = w' := by
  obtain ⟨os, k, _, ho, ⟨nd, hn, hr⟩, hl⟩ := h
  obtain ⟨os', k', _, ho', ⟨nd', hn', hr'⟩, hl'⟩ := h'
  exact Nat.le_antisymm (hl nd' w' (c_nam_cg ho' ho hn') hr') (hl' nd w (c_nam_cg ho ho' hn) hr)
/-- the canonical row of a set of atoms -/
def c_can (S : Nat × Nat × Nat → Prop) (jn : Bool) (w : Nat) : Prop := ∃ T, c_fin S T ∧ c_canR (c_img T S) jn w
theorem c_can_eq {S : Nat × Nat × Nat → Prop} {jn : Bool} {w w' : Nat} (h : c_can S jn w) (h' : c_can S jn w') : w = w' := by
  obtain ⟨T, hT, hw⟩ := h
  obtain ⟨T', hT', hw'⟩ := h'
  have e := c_fin_eq hT hT'
  subst e
  exact c_canR_eq hw hw'
/-- the variables os are named 2 + f -/
def c_ndt (nd os : Nat → Nat) (k : Nat) (f : Nat → Nat) : Prop := c_fix nd ∧ ∀ a, a < k → nd (os a) = 2 + f a
def c_full (tb : Nat → Nat → Nat) (k cnt : Nat) : Prop := (∀ o, o < cnt → (∀ a, a < k → tb o a < k) ∧ ∀ a b, a < b → b < k → tb o a ≠ tb o b) ∧ ∀ f : Nat → Nat, (∀ a, a < k → f a < k) → (∀ a b, a < b → b < k → f a ≠ f b) → ∃ o, o < cnt ∧ ∀ a, a < k → tb o a = f a
/-- w is the least of the rows of the first o of the table's namings -/
def c_lst (R : Nat × Nat × Nat → Prop) (jn : Bool) (os : Nat → Nat) (k : Nat) (tb : Nat → Nat → Nat) (o w : Nat) : Prop := (∃ o' nd, o' < o ∧ c_ndt nd os k (tb o') ∧ c_rowof R jn nd w) ∧ ∀ o' nd w', o' < o → c_ndt nd os k (tb o') → c_rowof R jn nd w' → w ≤ w'
theorem c_var_fix {R : Nat × Nat × Nat → Prop} {os nd nd' f : Nat → Nat} {k : Nat} (ho : c_oth R os k) (h : c_ndt nd os k f) (h' : c_ndt nd' os k f) : ∀ v, c_var R v → nd v = nd' v := by
  intro v hv
  by_cases h1 : f_oth v = true
  · obtain ⟨a, ha, e⟩ := ho.2.2 v hv h1
    rw [← e, h.2 a ha, h'.2 a ha]
  · obtain ⟨⟨a0, a1, a6, a7⟩, _⟩ := h
    obtain ⟨⟨b0, b1, b6, b7⟩, _⟩ := h'
    have h2 : v = 0 ∨ v = 1 ∨ v = 6 ∨ v = 7 := by
      simp only [f_oth, decide_eq_true_eq] at h1
      omega
    rcases h2 with rfl | rfl | rfl | rfl
    · rw [a0, b0]
    · rw [a1, b1]
    · rw [a6, b6]
    · rw [a7, b7]
theorem c_lst_1 {R : Nat × Nat × Nat → Prop} {jn : Bool} {os nd : Nat → Nat} {k w : Nat} {tb : Nat → Nat → Nat} (ho : c_oth R os k) (hn : c_ndt nd os k (tb 0)) (hr : c_rowof R jn nd w) : c_lst R jn os k tb 1 w :=
  ⟨⟨0, nd, by omega, hn, hr⟩, fun o' nd' w' ho' hn' hr' => by
    have : o' = 0 := by omega
    subst this
    exact Nat.le_of_eq (c_rowof_eq hr hr' (c_var_fix ho hn hn'))⟩
theorem c_lst_lt {R : Nat × Nat × Nat → Prop} {jn : Bool} {os nd : Nat → Nat} {k o w w2 : Nat} {tb : Nat → Nat → Nat} (ho : c_oth R os k) (h : c_lst R jn os k tb o w) (hn : c_ndt nd os k (tb o)) (hr : c_rowof R jn nd w2) (hlt : w2 < w) : c_lst R jn os k tb (o + 1) w2 := by
  refine ⟨⟨o, nd, by omega, hn, hr⟩, fun o' nd' w' ho' hn' hr' => ?_⟩
  by_cases e : o' = o
  · subst e; exact Nat.le_of_eq (c_rowof_eq hr hr' (c_var_fix ho hn hn'))
  · exact Nat.le_trans (Nat.le_of_lt hlt) (h.2 o' nd' w' (by omega) hn' hr')
theorem c_lst_ge {R : Nat × Nat × Nat → Prop} {jn : Bool} {os nd : Nat → Nat} {k o w w2 : Nat} {tb : Nat → Nat → Nat} (ho : c_oth R os k) (h : c_lst R jn os k tb o w) (hn : c_ndt nd os k (tb o)) (hr : c_rowof R jn nd w2) (hlt : ¬ w2 < w) : c_lst R jn os k tb (o + 1) w := by
  obtain ⟨⟨q, nq, hq, hnq, hrq⟩, hl⟩ := h
  refine ⟨⟨q, nq, by omega, hnq, hrq⟩, fun o' nd' w' ho' hn' hr' => ?_⟩
  by_cases e : o' = o
  · subst e
    have := c_rowof_eq hr hr' (c_var_fix ho hn hn')
    omega
  · exact hl o' nd' w' (by omega) hn' hr'
theorem c_lst_end {R : Nat × Nat × Nat → Prop} {jn : Bool} {os : Nat → Nat} {k cnt w : Nat} {tb : Nat → Nat → Nat} (hk : k ≤ 4) (ho : c_oth R os k) (hf : c_full tb k cnt) (h : c_lst R jn os k tb cnt w) : c_canR R jn w := by
  obtain ⟨⟨q, nq, hq, hnq, hrq⟩, hl⟩ := h
  refine ⟨os, k, hk, ho, ⟨nq, ⟨hnq.1, fun a ha => ?_, fun a b hab hb => ?_⟩, hrq⟩, fun nd w' hn hr => ?_⟩
  · have := (hf.1 q hq).1 a ha; rw [hnq.2 a ha]; omega
  · have := (hf.1 q hq).2 a b hab hb; rw [hnq.2 a (by omega), hnq.2 b hb]; omega
  · obtain ⟨o, hoc, he⟩ := hf.2 (fun a => nd (os a) - 2) (fun a ha => by have := hn.2.1 a ha; show _ - 2 < k; omega) (fun a b hab hb => by
      have h1 := hn.2.1 a (by omega)
      have h2 := hn.2.1 b hb
      have h3 := hn.2.2 a b hab hb
      show _ - 2 ≠ _ - 2
      omega)
    refine hl o nd w' hoc ⟨hn.1, fun a ha => ?_⟩ hr
    have h1 := hn.2.1 a ha
    have h2 := he a ha
    have h2 : tb o a = nd (os a) - 2 := h2
    omega
def c_ways (k : Nat) : Nat := if k < 2 then 1 else if k = 2 then 2 else if k = 3 then 6 else 24
def c_ordl : List Nat := [0, 1, 2, 3, 1, 0, 2, 3, 0, 2, 1, 3, 2, 0, 1, 3, 1, 2, 0, 3, 2, 1, 0, 3, 0, 1, 3, 2, 1, 0, 3, 2, 0, 2, 3, 1, 2, 0, 3, 1, 1, 2, 3, 0, 2, 1, 3, 0, 0, 3, 1, 2, 1, 3, 0, 2, 0, 3, 2, 1, 2, 3, 0, 1, 1, 3, 2, 0, 2, 3, 1, 0, 3, 0, 1, 2, 3, 1, 0, 2, 3, 0, 2, 1, 3, 2, 0, 1, 3, 1, 2, 0, 3, 2, 1, 0]
def c_ord (j : Nat) : Nat := c_ordl.getD j 0
def c_tbC (o i : Nat) : Nat := c_ord (4 * o + i)
def c_f1 (tb : Nat → Nat → Nat) (k cnt : Nat) : Bool := (List.range cnt).all fun o => (List.range k).all fun a => decide (tb o a < k) && (List.range k).all fun b => !decide (a < b) || decide (tb o a ≠ tb o b)
def c_f2 (tb : Nat → Nat → Nat) : Nat → Bool
  | 0 => true
  | 1 => (List.range (c_ways 1)).any fun o => tb o 0 == 0
  | 2 => (List.range 2).all fun x => (List.range 2).all fun y => x == y || (List.range (c_ways 2)).any fun o => tb o 0 == x && tb o 1 == y
  | 3 => (List.range 3).all fun x => (List.range 3).all fun y => x == y || (List.range 3).all fun z => x == z || y == z || (List.range (c_ways 3)).any fun o => tb o 0 == x && tb o 1 == y && tb o 2 == z
  | _ => (List.range 4).all fun x => (List.range 4).all fun y => x == y || (List.range 4).all fun z => x == z || y == z || (List.range 4).all fun u => x == u || y == u || z == u || (List.range (c_ways 4)).any fun o => tb o 0 == x && tb o 1 == y && tb o 2 == z && tb o 3 == u
theorem c_full_of {tb : Nat → Nat → Nat} {k : Nat} (hk : k ≤ 4) (h1 : c_f1 tb k (c_ways k) = true) (h2 : c_f2 tb k = true) : c_full tb k (c_ways k) := by
  refine ⟨fun o ho => ?_, fun f hf hi => ?_⟩
  · simp only [c_f1, List.all_eq_true, List.mem_range, Bool.and_eq_true, decide_eq_true_eq, Bool.or_eq_true, Bool.not_eq_true', decide_eq_false_iff_not] at h1
    exact ⟨fun a ha => (h1 o ho a ha).1, fun a b hab hb => by
      rcases (h1 o ho a (by omega)).2 b hb with h3 | h3
      · exact absurd hab h3
      · exact h3⟩
  · rcases (show k = 0 ∨ k = 1 ∨ k = 2 ∨ k = 3 ∨ k = 4 by omega) with rfl | rfl | rfl | rfl | rfl
    · exact ⟨0, by decide, fun a ha => absurd ha (Nat.not_lt_zero a)⟩
    · simp only [c_f2, List.any_eq_true, List.mem_range, beq_iff_eq] at h2
      obtain ⟨o, ho, e⟩ := h2
      refine ⟨o, ho, fun a ha => ?_⟩
      have : a = 0 := by omega
      subst this
      have := hf 0 ha
      omega
    · simp only [c_f2, List.all_eq_true, List.any_eq_true, List.mem_range, beq_iff_eq, Bool.or_eq_true, Bool.and_eq_true] at h2
      rcases h2 _ (hf 0 (by omega)) _ (hf 1 (by omega)) with h3 | ⟨o, ho, e⟩
      · exact absurd h3 (hi 0 1 (by omega) (by omega))
      · refine ⟨o, ho, fun a ha => ?_⟩
        rcases (show a = 0 ∨ a = 1 by omega) with rfl | rfl
        · exact e.1
        · exact e.2
    · simp only [c_f2, List.all_eq_true, List.any_eq_true, List.mem_range, beq_iff_eq, Bool.or_eq_true, Bool.and_eq_true] at h2
      rcases h2 _ (hf 0 (by omega)) _ (hf 1 (by omega)) with h3 | h2
      · exact absurd h3 (hi 0 1 (by omega) (by omega))
      · rcases h2 _ (hf 2 (by omega)) with (h3 | h3) | ⟨o, ho, e⟩
        · exact absurd h3 (hi 0 2 (by omega) (by omega))
        · exact absurd h3 (hi 1 2 (by omega) (by omega))
        · refine ⟨o, ho, fun a ha => ?_⟩
          rcases (show a = 0 ∨ a = 1 ∨ a = 2 by omega) with rfl | rfl | rfl
          · exact e.1.1
          · exact e.1.2
          · exact e.2
    · simp only [c_f2, List.all_eq_true, List.any_eq_true, List.mem_range, beq_iff_eq, Bool.or_eq_true, Bool.and_eq_true] at h2
      rcases h2 _ (hf 0 (by omega)) _ (hf 1 (by omega)) with h3 | h2
      · exact absurd h3 (hi 0 1 (by omega) (by omega))
      · rcases h2 _ (hf 2 (by omega)) with (h3 | h3) | h2
        · exact absurd h3 (hi 0 2 (by omega) (by omega))
        · exact absurd h3 (hi 1 2 (by omega) (by omega))
        · rcases h2 _ (hf 3 (by omega)) with ((h3 | h3) | h3) | ⟨o, ho, e⟩
          · exact absurd h3 (hi 0 3 (by omega) (by omega))
          · exact absurd h3 (hi 1 3 (by omega) (by omega))
          · exact absurd h3 (hi 2 3 (by omega) (by omega))
          · refine ⟨o, ho, fun a ha => ?_⟩
            rcases (show a = 0 ∨ a = 1 ∨ a = 2 ∨ a = 3 by omega) with rfl | rfl | rfl | rfl
            · exact e.1.1.1
            · exact e.1.1.2
            · exact e.1.2
            · exact e.2
theorem c_fullC {k : Nat} (hk : k ≤ 4) : c_full c_tbC k (c_ways k) := by
  rcases (show k = 0 ∨ k = 1 ∨ k = 2 ∨ k = 3 ∨ k = 4 by omega) with rfl | rfl | rfl | rfl | rfl <;> exact c_full_of (by decide) (by decide +kernel) (by decide +kernel)
theorem c_fullM {k : Nat} (hk : k ≤ 4) : c_full (m_prm k) k (c_ways k) := by
  rcases (show k = 0 ∨ k = 1 ∨ k = 2 ∨ k = 3 ∨ k = 4 by omega) with rfl | rfl | rfl | rfl | rfl <;> exact c_full_of (by decide) (by decide +kernel) (by decide +kernel)
theorem c_tbC_lt : ∀ j, c_ord j < 4 := by
  intro j
  rcases Nat.lt_or_ge j 96 with h | h
  · exact (show ∀ j, j < 96 → c_ord j < 4 by decide +kernel) j h
  · have e : c_ordl[j]? = none := List.getElem?_eq_none (by show 96 ≤ j; exact h)
    unfold c_ord
    rw [List.getD_eq_getElem?_getD, e]; decide
