theorem c_vok_way {hc : Nat} {jn : Bool} {w x y : Nat} (hx : c_vok hc jn x) (hy : c_vok hc jn y) : c_vok hc jn (f_way1 w x y) ∧ c_vok hc jn (f_way2 w x y) := by
  unfold f_way1 f_way2
  split
  · exact ⟨hx, hy⟩
  · exact ⟨hy, hx⟩
theorem c_aok_sort {hc : Nat} {jn : Bool} {s x : Nat} (hs : m_sok s) (hx : c_vok hc jn x) : c_aok hc jn (f_sortn s, f_sort1 s x, f_sort2 s x) := by
  unfold f_sortn f_sort1 f_sort2
  unfold m_sok at hs
  by_cases h : s < 20
  · rw [if_pos h, if_pos h, if_pos h]
    exact ⟨Or.inl ⟨by show s < 10; omega, rfl⟩, hx⟩
  · rw [if_neg h, if_neg h, if_neg h]
    have h2 := c_vok_way (w := s - 20) hx (c_vok6 hc jn)
    unfold f_wayn
    exact ⟨Or.inr ⟨by show 32 ≤ 32 + (s - 20) / 2; omega, by show 32 + (s - 20) / 2 < 40; omega, h2.2⟩, h2.1⟩
theorem c_aok_way {hc : Nat} {jn : Bool} {w x y : Nat} (hw : w < 16) (hx : c_vok hc jn x) (hy : c_vok hc jn y) : c_aok hc jn (f_wayn w, f_way1 w x y, f_way2 w x y) := by
  have h2 := c_vok_way (w := w) hx hy
  unfold f_wayn
  exact ⟨Or.inr ⟨by show 32 ≤ 32 + w / 2; omega, by show 32 + w / 2 < 40; omega, h2.2⟩, h2.1⟩
theorem c_mem_vok {hc : Nat} {jn : Bool} {s x a b : Nat} (h : c_aok hc jn (x, a, b)) (hm : f_mem s x a b ≠ 7) : c_vok hc jn (f_mem s x a b) := by
  obtain ⟨h1, h2⟩ := h
  have h2 : c_vok hc jn a := h2
  have h1 : x < 10 ∧ b = 7 ∨ 32 ≤ x ∧ x < 40 ∧ c_vok hc jn b := h1
  unfold f_mem at hm ⊢
  by_cases c1 : s < 20
  · rw [if_pos c1] at hm ⊢
    by_cases c2 : x = s
    · rw [if_pos c2] at hm ⊢; exact h2
    · rw [if_neg c2] at hm; exact absurd rfl hm
  · rw [if_neg c1] at hm ⊢
    by_cases c2 : x = 32 + (s - 20) / 2
    · rw [if_pos c2] at hm ⊢
      by_cases c3 : s % 2 = 0
      · rw [if_pos c3] at hm ⊢
        by_cases c4 : b = 6
        · rw [if_pos c4] at hm ⊢; exact h2
        · rw [if_neg c4] at hm; exact absurd rfl hm
      · rw [if_neg c3] at hm ⊢
        by_cases c4 : a = 6
        · rw [if_pos c4] at hm ⊢
          rcases h1 with h1 | h1
          · omega
          · exact h1.2.2
        · rw [if_neg c4] at hm; exact absurd rfl hm
    · rw [if_neg c2] at hm; exact absurd rfl hm
theorem c_aok_rw {hc : Nat} {jn : Bool} {k lf rg x a b : Nat} {q : Nat × Nat × Nat} (h : c_aok hc jn (x, a, b)) (hax : m_axn k lf rg) (hq : f_rw k lf rg x a b = some q) : c_aok hc jn q := by
  obtain ⟨x1, x2, x3⟩ := hax
  unfold f_rw at hq
  by_cases c1 : k = 0
  · rw [if_pos c1] at hq
    by_cases c2 : f_mem rg x a b = 7
    · rw [if_pos c2] at hq; cases hq
    · rw [if_neg c2] at hq
      cases hq
      exact c_aok_sort (x2 (by omega)).1 (c_mem_vok h c2)
  · rw [if_neg c1] at hq
    by_cases c2 : k = 1 ∧ x = 32 + rg / 2
    · rw [if_pos c2] at hq
      have h1 : x < 10 ∧ b = 7 ∨ 32 ≤ x ∧ x < 40 ∧ c_vok hc jn b := h.1
      have hb : c_vok hc jn b := by
        rcases h1 with h1 | h1
        · omega
        · exact h1.2.2
      have ha : c_vok hc jn a := h.2
      have hl := (x3 (by omega)).1
      by_cases c3 : rg % 2 = 0
      · rw [if_pos c3] at hq; cases hq; exact c_aok_way hl ha hb
      · rw [if_neg c3] at hq; cases hq; exact c_aok_way hl hb ha
    · rw [if_neg c2] at hq; cases hq
theorem c_fok_put {hc : Nat} {jn : Bool} {nm pl : Nat → Nat} {n i : Nat} {q : Nat × Nat × Nat} (hf : c_fok hc jn nm pl n) (hq : c_aok hc jn q) : c_fok hc jn (va_up nm i q.1) (f_put pl i q.2.1 q.2.2) n := by
  obtain ⟨f1, f2, f3, f4⟩ := hf
  refine ⟨f1, f2, f3, fun j hj => ?_⟩
  rw [f_at_put]
  split
  · exact hq
  · exact f4 j hj
/-! Uniting -/
theorem c_fok_pl {hc : Nat} {jn : Bool} {nm pl : Nat → Nat} {n : Nat} (hf : c_fok hc jn nm pl n) : ∀ j, j < 2 * n → c_vok hc jn (pl j) ∨ (nm (j / 2) < 10 ∧ j % 2 = 1 ∧ pl j = 7) := by
  intro j hj
  obtain ⟨h1, h2⟩ := hf.2.2.2 (j / 2) (by omega)
  have h2 : c_vok hc jn (pl (2 * (j / 2))) := h2
  have h1 : nm (j / 2) < 10 ∧ pl (2 * (j / 2) + 1) = 7 ∨ 32 ≤ nm (j / 2) ∧ nm (j / 2) < 40 ∧ c_vok hc jn (pl (2 * (j / 2) + 1)) := h1
  rcases (show j % 2 = 0 ∨ j % 2 = 1 by omega) with e | e
  · rw [show 2 * (j / 2) = j by omega] at h2; exact Or.inl h2
  · rw [show 2 * (j / 2) + 1 = j by omega] at h1
    rcases h1 with h1 | h1
    · exact Or.inr ⟨h1.1, e, h1.2⟩
    · exact Or.inl h1.2.2
theorem c_fok_of_pl {hc : Nat} {jn : Bool} {nm pl : Nat → Nat} {n : Nat} (hn : n ≤ 4) (hc2 : hc ≤ 2) (hj2 : jn = true → hc = 2) (hnm : ∀ j, j < n → nm j < 10 ∨ 32 ≤ nm j ∧ nm j < 40) (h : ∀ j, j < 2 * n → if nm (j / 2) < 10 ∧ j % 2 = 1 then pl j = 7 else c_vok hc jn (pl j)) : c_fok hc jn nm pl n := by
  refine ⟨hn, hc2, hj2, fun j hj => ?_⟩
  have h1 := h (2 * j) (by omega)
  have h2 := h (2 * j + 1) (by omega)
  rw [if_neg (by omega)] at h1
  rw [show (2 * j + 1) / 2 = j by omega] at h2
  refine ⟨?_, h1⟩
  rcases hnm j hj with h3 | h3
  · rw [if_pos ⟨h3, by omega⟩] at h2; exact Or.inl ⟨h3, h2⟩
  · rw [if_neg (by omega)] at h2; exact Or.inr ⟨h3.1, h3.2, h2⟩
theorem c_fok_to_pl {hc : Nat} {jn : Bool} {nm pl : Nat → Nat} {n : Nat} (hf : c_fok hc jn nm pl n) : (∀ j, j < n → nm j < 10 ∨ 32 ≤ nm j ∧ nm j < 40) ∧ ∀ j, j < 2 * n → if nm (j / 2) < 10 ∧ j % 2 = 1 then pl j = 7 else c_vok hc jn (pl j) := by
  constructor
  · intro j hj
    have h1 := (hf.2.2.2 j hj).1
    have h1 : nm j < 10 ∧ pl (2 * j + 1) = 7 ∨ 32 ≤ nm j ∧ nm j < 40 ∧ c_vok hc jn (pl (2 * j + 1)) := h1
    omega
  · intro j hj
    obtain ⟨h1, h2⟩ := hf.2.2.2 (j / 2) (by omega)
    have h2 : c_vok hc jn (pl (2 * (j / 2))) := h2
    have h1 : nm (j / 2) < 10 ∧ pl (2 * (j / 2) + 1) = 7 ∨ 32 ≤ nm (j / 2) ∧ nm (j / 2) < 40 ∧ c_vok hc jn (pl (2 * (j / 2) + 1)) := h1
    rcases (show j % 2 = 0 ∨ j % 2 = 1 by omega) with e | e
    · rw [show 2 * (j / 2) = j by omega] at h2
      rw [if_neg (by omega)]; exact h2
    · rw [show 2 * (j / 2) + 1 = j by omega] at h1
      rcases h1 with h1 | h1
      · rw [if_pos ⟨h1.1, e⟩]; exact h1.2
      · rw [if_neg (by omega)]; exact h1.2.2
theorem c_vok_jn {hc : Nat} {v m : Nat} {jn : Bool} (h : c_vok hc jn v) (hv : m = 1 → v ≠ 1) : c_vok hc (jn || decide (m = 1)) v := by
  obtain ⟨h1, h2, h3⟩ := h
  refine ⟨h1, h2, fun e => ⟨(h3 e).1, ?_⟩⟩
  rw [(h3 e).2]
  simp
  exact fun h => hv h e
theorem c_fok_un {hc : Nat} {jn : Bool} {nm pl : Nat → Nat} {n i k sd : Nat} (hf : c_fok hc jn nm pl n) (hi : i < n) (hk : k < n) (he : nm i = nm k) (hsd : sd < 2) : c_fok hc (f_unJ pl i k sd jn) nm (f_unP pl n i k sd) n := by
  obtain ⟨hnm, hp⟩ := c_fok_to_pl hf
  obtain ⟨f1, f2, f3, f4⟩ := hf
  have pi := hp (2 * i + sd) (by omega)
  have pk := hp (2 * k + sd) (by omega)
  rw [show (2 * i + sd) / 2 = i by omega, show (2 * i + sd) % 2 = sd by omega] at pi
  rw [show (2 * k + sd) / 2 = k by omega, show (2 * k + sd) % 2 = sd by omega, ← he] at pk
  unfold f_unP f_unJ
  by_cases c1 : pl (2 * i + sd) = 6
  · rw [if_pos c1, if_pos c1]
    refine c_fok_of_pl f1 f2 f3 hnm (fun j hj => ?_)
    by_cases hji : j = 2 * i + sd
    · rw [hji, up_s, show (2 * i + sd) / 2 = i by omega, show (2 * i + sd) % 2 = sd by omega]; exact pk
    · rw [up_n _ _ hji]; exact hp j hj
  · rw [if_neg c1, if_neg c1]
    by_cases c2 : pl (2 * k + sd) = 6
    · rw [if_pos c2, if_pos c2]
      refine c_fok_of_pl f1 f2 f3 hnm (fun j hj => ?_)
      by_cases hji : j = 2 * k + sd
      · rw [hji, up_s, show (2 * k + sd) / 2 = k by omega, show (2 * k + sd) % 2 = sd by omega, ← he]; exact pi
      · rw [up_n _ _ hji]; exact hp j hj
    · rw [if_neg c2, if_neg c2]
      by_cases c3 : pl (2 * i + sd) = pl (2 * k + sd)
      · rw [if_pos c3, if_pos c3]; exact ⟨f1, f2, f3, f4⟩
      · rw [if_neg c3, if_neg c3]
        by_cases c4 : nm i < 10 ∧ sd = 1
        · rw [if_pos c4] at pi pk; omega
        · rw [if_neg c4] at pi pk
          have hm : c_vok hc jn (min (pl (2 * i + sd)) (pl (2 * k + sd))) := by
            rcases Nat.le_total (pl (2 * i + sd)) (pl (2 * k + sd)) with h | h
            · rw [Nat.min_eq_left h]; exact pi
            · rw [Nat.min_eq_right h]; exact pk
          have hM : c_vok hc jn (max (pl (2 * i + sd)) (pl (2 * k + sd))) := by
            rcases Nat.le_total (pl (2 * i + sd)) (pl (2 * k + sd)) with h | h
            · rw [Nat.max_eq_right h]; exact pk
            · rw [Nat.max_eq_left h]; exact pi
          have hlt : min (pl (2 * i + sd)) (pl (2 * k + sd)) < max (pl (2 * i + sd)) (pl (2 * k + sd)) := by omega
          generalize min (pl (2 * i + sd)) (pl (2 * k + sd)) = lo at *
          generalize max (pl (2 * i + sd)) (pl (2 * k + sd)) = hi' at *
          refine c_fok_of_pl f1 f2 (fun h => ?_) hnm (fun j hj => ?_)
          · rw [Bool.or_eq_true, decide_eq_true_eq] at h
            rcases h with h | h
            · exact f3 h
            · exact (hM.2.2 h).1
          · have hpj := hp j hj
            unfold f_ren
            by_cases h : nm (j / 2) < 10 ∧ j % 2 = 1
            · rw [if_pos h] at hpj ⊢
              rw [if_neg (fun h2 => hM.1 (by omega))]; exact hpj
            · rw [if_neg h] at hpj ⊢
              by_cases h2 : j < 2 * n ∧ pl j = hi'
              · rw [if_pos h2]; exact c_vok_jn hm (fun e => by omega)
              · rw [if_neg h2]; exact c_vok_jn hpj (fun e e2 => h2 ⟨hj, by omega⟩)
theorem c_fok_un2 {hc : Nat} {jn : Bool} {nm pl : Nat → Nat} {n i k : Nat} (hf : c_fok hc jn nm pl n) (hi : i < n) (hk : k < n) (he : nm i = nm k) : c_fok hc (f_unK pl n i k jn 2) nm (f_unI pl n i k 2) n := c_fok_un (sd := 1) (c_fok_un (sd := 0) hf hi hk he (by omega)) hi hk he (by omega)
/-! The reference's uniting -/
def m_hj (he : Nat → Option Nat) (hc : Nat) (jn : Bool) : Prop := (0 < hc → he 0 = some 0) ∧ (1 < hc → he 1 = some (if jn = true then 0 else 1))
theorem m_hj_rn {he : Nat → Option Nat} {hc : Nat} {jn : Bool} {lo hi : Nat} (h : m_hj he hc jn) (hlt : lo < hi) (h1 : hi = 1 → hc = 2 ∧ jn = false) : m_hj (m_rnh he hc hi lo) hc (jn || decide (hi = 1)) := by
  obtain ⟨h2, h3⟩ := h
  refine ⟨fun h => ?_, fun h => ?_⟩
  · unfold m_rnh
    rw [h2 h, if_neg (fun h4 => by have := h4.2; simp at this; omega)]
  · unfold m_rnh
    rw [h3 h]
    by_cases e : hi = 1
    · subst e
      rw [(h1 rfl).2, if_pos ⟨h, rfl⟩]
      simp
      omega
    · have : (jn || decide (hi = 1)) = jn := by simp [e]
      rw [this, if_neg]
      intro h4
      have h5 := h4.2
      cases jn <;> simp at h5 <;> omega
theorem m_ren_pv {pp pa pb : Nat → Nat} {n lo hi : Nat} (h7 : hi ≠ 7) (hw : ∀ j, j < n → 32 ≤ pp j ∨ pb j = 7) : ∀ j, j < 2 * n → m_pv (f_ren pa n hi lo) (m_rnb pp pb n hi lo) j = f_ren (m_pv pa pb) (2 * n) hi lo j := by
  intro j hj
  unfold f_ren m_rnb m_pv
  by_cases h : j % 2 = 0
  · simp only [if_pos h]
    by_cases h2 : pa (j / 2) = hi
    · rw [if_pos ⟨by omega, h2⟩, if_pos ⟨hj, h2⟩]
    · rw [if_neg (fun h3 => h2 h3.2), if_neg (fun h3 => h2 h3.2)]
  · simp only [if_neg h]
    by_cases h2 : pb (j / 2) = hi
    · have h32 : 32 ≤ pp (j / 2) := by
        rcases hw (j / 2) (by omega) with h3 | h3
        · exact h3
        · omega
      rw [if_pos (show j / 2 < n ∧ 32 ≤ pp (j / 2) ∧ pb (j / 2) = hi from ⟨by omega, h32, h2⟩), if_pos (show j < 2 * n ∧ pb (j / 2) = hi from ⟨hj, h2⟩)]
    · rw [if_neg (fun h3 => h2 h3.2.2), if_neg (fun h3 => h2 h3.2)]
theorem m_pv_cg {pa pb pa' pb' : Nat → Nat} {j : Nat} (h1 : pa (j / 2) = pa' (j / 2)) (h2 : pb (j / 2) = pb' (j / 2)) : m_pv pa pb j = m_pv pa' pb' j := by
  unfold m_pv; rw [h1, h2]

theorem m_pv_at {pa pb pa' pb' : Nat → Nat} {n : Nat} (ha : ∀ q, q < n → pa q = pa' q) (hb : ∀ q, q < n → pb q = pb' q) : ∀ j, j < 2 * n → m_pv pa pb j = m_pv pa' pb' j := fun j hj => m_pv_cg (ha _ (by omega)) (hb _ (by omega))
theorem m_pv_sd (pa pb : Nat → Nat) (i : Nat) : m_pv pa pb (2 * i + 0) = pa i ∧ m_pv pa pb (2 * i + 1) = pb i := ⟨m_pv_e pa pb i, m_pv_o pa pb i⟩
theorem m_un0 {pp pa pb pa' pb' : Nat → Nat} {he he' : Nat → Option Nat} {hc n i k r : Nat} {jn : Bool} (hf : c_fok hc jn pp (m_pv pa pb) n) (hh : m_hj he hc jn) (hi : i < n) (hk : k < n) (h : m_jn pp pa pb he n hc (pa i) (pa k) r pa' pb' he') : (∀ j, j < 2 * n → m_pv (va_up (va_up pa' i r) k r) pb' j = f_unP (m_pv pa pb) n i k 0 j) ∧ m_hj he' hc (f_unJ (m_pv pa pb) i k 0 jn) := by
  obtain ⟨hnm, hp⟩ := c_fok_to_pl hf
  have hw : ∀ j, j < n → 32 ≤ pp j ∨ pb j = 7 := fun j hj => by
    rcases hnm j hj with h1 | h1
    · have := hp (2 * j + 1) (by omega)
      rw [if_pos ⟨by rw [show (2 * j + 1) / 2 = j by omega]; exact h1, by omega⟩, m_pv_o] at this
      exact Or.inr this
    · exact Or.inl h1.1
  have pi := hp (2 * i) (by omega)
  have pk := hp (2 * k) (by omega)
  rw [if_neg (by omega), m_pv_e] at pi pk
  unfold m_jn at h
  unfold f_unP f_unJ
  rw [(m_pv_sd pa pb i).1, (m_pv_sd pa pb k).1]
  by_cases c1 : pa i = 6
  · rw [if_pos (Or.inl c1), if_pos c1] at h
    obtain ⟨e1, e2, e3, e4⟩ := h
    subst e1; subst e2; subst e3; subst e4
    rw [if_pos c1, if_pos c1]
    refine ⟨fun j hj => ?_, hh⟩
    by_cases hji : j = 2 * i + 0
    · rw [hji, up_s, (m_pv_sd _ _ i).1]
      by_cases hik : i = k
      · rw [hik, up_s]
      · rw [up_n _ _ hik, up_s]
    · rw [up_n _ _ hji]
      unfold m_pv
      by_cases h0 : j % 2 = 0
      · rw [if_pos h0, if_pos h0]
        by_cases hjk : j / 2 = k
        · rw [hjk, up_s]
        · rw [up_n _ _ hjk, up_n _ _ (by omega)]
      · rw [if_neg h0, if_neg h0]
  · rw [if_neg c1, if_neg c1]
    by_cases c2 : pa k = 6
    · rw [if_pos (Or.inr (Or.inl c2)), if_neg c1] at h
      obtain ⟨e1, e2, e3, e4⟩ := h
      subst e1; subst e2; subst e3; subst e4
      rw [if_pos c2, if_pos c2]
      refine ⟨fun j hj => ?_, hh⟩
      by_cases hji : j = 2 * k + 0
      · rw [hji, up_s, (m_pv_sd _ _ k).1, up_s]
      · rw [up_n _ _ hji]
        unfold m_pv
        by_cases h0 : j % 2 = 0
        · rw [if_pos h0, if_pos h0, up_n _ _ (by omega)]
          by_cases hjk : j / 2 = i
          · rw [hjk, up_s]
          · rw [up_n _ _ hjk]
        · rw [if_neg h0, if_neg h0]
    · rw [if_neg c2, if_neg c2]
      by_cases c3 : pa i = pa k
      · rw [if_pos (Or.inr (Or.inr c3)), if_neg c1] at h
        obtain ⟨e1, e2, e3, e4⟩ := h
        subst e1; subst e2; subst e3; subst e4
        rw [if_pos c3, if_pos c3]
        refine ⟨fun j hj => m_pv_cg ?_ rfl, hh⟩
        by_cases hjk : j / 2 = k
        · rw [hjk, up_s]; exact c3
        · rw [up_n _ _ hjk]
          by_cases hji : j / 2 = i
          · rw [hji, up_s]
          · rw [up_n _ _ hji]
      · rw [if_neg (by omega)] at h
        obtain ⟨e1, e2, e3, e4⟩ := h
        subst e1; subst e2; subst e3; subst e4
        rw [if_neg c3, if_neg c3]
        have hM : c_vok hc jn (max (pa i) (pa k)) := by
          rcases Nat.le_total (pa i) (pa k) with h | h
          · rw [Nat.max_eq_right h]; exact pk
          · rw [Nat.max_eq_left h]; exact pi
        refine ⟨fun j hj => ?_, m_hj_rn hh (by omega) hM.2.2⟩
        rw [← m_ren_pv hM.1 hw j hj]
        refine m_pv_cg ?_ rfl
        have hr : ∀ q, q < n → pa q = pa i ∨ pa q = pa k → f_ren pa n (max (pa i) (pa k)) (min (pa i) (pa k)) q = min (pa i) (pa k) := fun q hq h1 => by
          unfold f_ren
          by_cases h2 : pa q = max (pa i) (pa k)
          · rw [if_pos ⟨hq, h2⟩]
          · rw [if_neg (fun h3 => h2 h3.2)]; omega
        by_cases hjk : j / 2 = k
        · rw [hjk, up_s, hr k hk (Or.inr rfl)]
        · rw [up_n _ _ hjk]
          by_cases hji : j / 2 = i
          · rw [hji, up_s, hr i hi (Or.inl rfl)]
          · rw [up_n _ _ hji]
theorem m_un1 {pp pa pb pa' pb' : Nat → Nat} {he he' : Nat → Option Nat} {hc n i k r : Nat} {jn : Bool} (hf : c_fok hc jn pp (m_pv pa pb) n) (hh : m_hj he hc jn) (hi : i < n) (hk : k < n) (h32 : 32 ≤ pp i ∧ 32 ≤ pp k) (hik : pa i = pa k) (h : m_jn pp pa pb he n hc (pb i) (pb k) r pa' pb' he') : (∀ j, j < 2 * n → m_pv (va_up pa' k (pa' i)) (va_up (va_up pb' i r) k r) j = f_unP (m_pv pa pb) n i k 1 j) ∧ m_hj he' hc (f_unJ (m_pv pa pb) i k 1 jn) := by
  obtain ⟨hnm, hp⟩ := c_fok_to_pl hf
  have hw : ∀ j, j < n → 32 ≤ pp j ∨ pb j = 7 := fun j hj => by
    rcases hnm j hj with h1 | h1
    · have := hp (2 * j + 1) (by omega)
      rw [if_pos ⟨by rw [show (2 * j + 1) / 2 = j by omega]; exact h1, by omega⟩, m_pv_o] at this
      exact Or.inr this
    · exact Or.inl h1.1
  have pi := hp (2 * i + 1) (by omega)
  have pk := hp (2 * k + 1) (by omega)
  rw [if_neg (by rw [show (2 * i + 1) / 2 = i by omega]; omega), m_pv_o] at pi
  rw [if_neg (by rw [show (2 * k + 1) / 2 = k by omega]; omega), m_pv_o] at pk
  have hup : ∀ {g : Nat → Nat}, g i = g k → va_up g k (g i) = g := fun {g} e => by
    funext q
    by_cases hq : q = k
    · rw [hq, up_s]; exact e
    · rw [up_n _ _ hq]
  unfold m_jn at h
  unfold f_unP f_unJ
  rw [(m_pv_sd pa pb i).2, (m_pv_sd pa pb k).2]
  by_cases c1 : pb i = 6
  · rw [if_pos (Or.inl c1), if_pos c1] at h
    obtain ⟨e1, e2, e3, e4⟩ := h
    subst e1; subst e2; subst e3; subst e4
    rw [if_pos c1, if_pos c1, hup hik]
    refine ⟨fun j hj => ?_, hh⟩
    by_cases hji : j = 2 * i + 1
    · rw [hji, up_s, (m_pv_sd _ _ i).2]
      by_cases hik : i = k
      · rw [hik, up_s]
      · rw [up_n _ _ hik, up_s]
    · rw [up_n _ _ hji]
      unfold m_pv
      by_cases h0 : j % 2 = 0
      · rw [if_pos h0, if_pos h0]
      · rw [if_neg h0, if_neg h0]
        by_cases hjk : j / 2 = k
        · rw [hjk, up_s]
        · rw [up_n _ _ hjk, up_n _ _ (by omega)]
  · rw [if_neg c1, if_neg c1]
    by_cases c2 : pb k = 6
    · rw [if_pos (Or.inr (Or.inl c2)), if_neg c1] at h
      obtain ⟨e1, e2, e3, e4⟩ := h
      subst e1; subst e2; subst e3; subst e4
      rw [if_pos c2, if_pos c2, hup hik]
      refine ⟨fun j hj => ?_, hh⟩
      by_cases hji : j = 2 * k + 1
      · rw [hji, up_s, (m_pv_sd _ _ k).2, up_s]
      · rw [up_n _ _ hji]
        unfold m_pv
        by_cases h0 : j % 2 = 0
        · rw [if_pos h0, if_pos h0]
        · rw [if_neg h0, if_neg h0, up_n _ _ (by omega)]
          by_cases hjk : j / 2 = i
          · rw [hjk, up_s]
          · rw [up_n _ _ hjk]
    · rw [if_neg c2, if_neg c2]
      by_cases c3 : pb i = pb k
      · rw [if_pos (Or.inr (Or.inr c3)), if_neg c1] at h
        obtain ⟨e1, e2, e3, e4⟩ := h
        subst e1; subst e2; subst e3; subst e4
        rw [if_pos c3, if_pos c3, hup hik]
        refine ⟨fun j hj => m_pv_cg rfl ?_, hh⟩
        by_cases hjk : j / 2 = k
        · rw [hjk, up_s]; exact c3
        · rw [up_n _ _ hjk]
          by_cases hji : j / 2 = i
          · rw [hji, up_s]
          · rw [up_n _ _ hji]
      · rw [if_neg (by omega)] at h
        obtain ⟨e1, e2, e3, e4⟩ := h
        subst e1; subst e2; subst e3; subst e4
        rw [if_neg c3, if_neg c3]
        have hM : c_vok hc jn (max (pb i) (pb k)) := by
          rcases Nat.le_total (pb i) (pb k) with h | h
          · rw [Nat.max_eq_right h]; exact pk
          · rw [Nat.max_eq_left h]; exact pi
        have hra : f_ren pa n (max (pb i) (pb k)) (min (pb i) (pb k)) i = f_ren pa n (max (pb i) (pb k)) (min (pb i) (pb k)) k := by
          unfold f_ren; rw [hik]
          simp only [hi, hk, true_and]
        rw [hup hra]
        refine ⟨fun j hj => ?_, m_hj_rn hh (by omega) hM.2.2⟩
        rw [← m_ren_pv hM.1 hw j hj]
        refine m_pv_cg rfl ?_
        have hr : ∀ q, q < n → 32 ≤ pp q → pb q = pb i ∨ pb q = pb k → m_rnb pp pb n (max (pb i) (pb k)) (min (pb i) (pb k)) q = min (pb i) (pb k) := fun q hq h4 h1 => by
          unfold m_rnb
          by_cases h2 : pb q = max (pb i) (pb k)
          · rw [if_pos ⟨hq, h4, h2⟩]
          · rw [if_neg (fun h3 => h2 h3.2.2)]; omega
        by_cases hjk : j / 2 = k
        · rw [hjk, up_s, hr k hk h32.2 (Or.inr rfl)]
        · rw [up_n _ _ hjk]
          by_cases hji : j / 2 = i
          · rw [hji, up_s, hr i hi h32.1 (Or.inl rfl)]
          · rw [up_n _ _ hji]
theorem f_unP_cg {pl pl' : Nat → Nat} {n i k sd : Nat} (h : ∀ j, j < 2 * n → pl j = pl' j) (hi : i < n) (hk : k < n) (hsd : sd < 2) : (∀ j, j < 2 * n → f_unP pl n i k sd j = f_unP pl' n i k sd j) ∧ ∀ jn, f_unJ pl i k sd jn = f_unJ pl' i k sd jn := by
  have e1 := h (2 * i + sd) (by omega)
  have e2 := h (2 * k + sd) (by omega)
  refine ⟨fun j hj => ?_, fun jn => ?_⟩
  · unfold f_unP
    rw [e1, e2]
    have hup : ∀ q x, va_up pl q x j = va_up pl' q x j := fun q x => by
      by_cases hq : j = q
      · rw [hq, up_s, up_s]
      · rw [up_n _ _ hq, up_n _ _ hq]; exact h j hj
    split
    · exact hup _ _
    · split
      · exact hup _ _
      · split
        · exact h j hj
        · unfold f_ren; rw [h j hj]
  · unfold f_unJ; rw [e1, e2]
theorem f_unI_cg {pl pl' : Nat → Nat} {n i k : Nat} (h : ∀ j, j < 2 * n → pl j = pl' j) (hi : i < n) (hk : k < n) : (∀ j, j < 2 * n → f_unI pl n i k 2 j = f_unI pl' n i k 2 j) ∧ ∀ jn, f_unK pl n i k jn 2 = f_unK pl' n i k jn 2 := by
  have h0 := f_unP_cg (sd := 0) h hi hk (by omega)
  have h1 := f_unP_cg (sd := 1) h0.1 hi hk (by omega)
  refine ⟨h1.1, fun jn => ?_⟩
  show f_unJ (f_unP pl n i k 0) i k 1 (f_unJ pl i k 0 jn) = f_unJ (f_unP pl' n i k 0) i k 1 (f_unJ pl' i k 0 jn)
  rw [h0.2, h1.2]
/-- the reference unites as the class does -/
theorem m_un {pp pa pb pa1 pb1 : Nat → Nat} {he he1 : Nat → Option Nat} {hc n i k : Nat} {jn b1 : Bool} (hf : c_fok hc jn pp (m_pv pa pb) n) (hh : m_hj he hc jn) (hi : i < n) (hk : k < n) (h : m_mt pp pa pb he n hc i k b1 pa1 pb1 he1) (hb : b1 = true) : pp i = pp k ∧ (∀ j, j < 2 * n → m_pv pa1 pb1 j = f_unI (m_pv pa pb) n i k 2 j) ∧ m_hj he1 hc (f_unK (m_pv pa pb) n i k jn 2) := by
  rcases h with ⟨_, h, _⟩ | ⟨hpp, _, r, pa', pb', he', hj, h⟩
  · rw [hb] at h; cases h
  · obtain ⟨g1, g2⟩ := m_un0 hf hh hi hk hj
    have hf1 := c_fok_un (sd := 0) hf hi hk hpp (by omega)
    have hup : ∀ {g : Nat → Nat}, g i = g k → va_up g k (g i) = g := fun {g} e => by
      funext q
      by_cases hq : q = k
      · rw [hq, up_s]; exact e
      · rw [up_n _ _ hq]
    have heq : va_up (va_up pa' i r) k r i = va_up (va_up pa' i r) k r k := by
      rw [up_s]
      by_cases hik : i = k
      · rw [hik, up_s]
      · rw [up_n _ _ hik, up_s]
    refine ⟨hpp, ?_⟩
    rcases h with ⟨h32, e1, e2, e3⟩ | ⟨h32, r2, pa2, pb2, he2, hj2, e1, e2, e3⟩
    · rw [hup heq] at e1
      subst e1; subst e2; subst e3
      obtain ⟨hnm, hp⟩ := c_fok_to_pl hf1
      have hn10 : pp i < 10 := by rcases hnm i hi with h1 | h1 <;> omega
      have q1 := hp (2 * i + 1) (by omega)
      have q2 := hp (2 * k + 1) (by omega)
      rw [if_pos ⟨by rw [show (2 * i + 1) / 2 = i by omega]; exact hn10, by omega⟩] at q1
      rw [if_pos ⟨by rw [show (2 * k + 1) / 2 = k by omega, ← hpp]; exact hn10, by omega⟩] at q2
      have hu : f_unP (f_unP (m_pv pa pb) n i k 0) n i k 1 = f_unP (m_pv pa pb) n i k 0 := by
        rw [f_unP, q1, q2, if_neg (by decide), if_neg (by decide), if_pos rfl]
      have hv : f_unJ (f_unP (m_pv pa pb) n i k 0) i k 1 (f_unJ (m_pv pa pb) i k 0 jn) = f_unJ (m_pv pa pb) i k 0 jn := by
        rw [f_unJ, q1, q2, if_neg (by decide), if_neg (by decide), if_pos rfl]
      refine ⟨fun j hj => ?_, ?_⟩
      · show _ = f_unP (f_unP (m_pv pa pb) n i k 0) n i k 1 j
        rw [hu]; exact g1 j hj
      · show m_hj _ _ (f_unJ (f_unP (m_pv pa pb) n i k 0) i k 1 (f_unJ (m_pv pa pb) i k 0 jn))
        rw [hv]; exact g2
    · subst e1; subst e2; subst e3
      have hc1 := f_unP_cg (sd := 1) g1 hi hk (by omega)
      have hf2 : c_fok hc (f_unJ (m_pv pa pb) i k 0 jn) pp (m_pv (va_up (va_up pa' i r) k r) pb') n := by
        obtain ⟨f1, f2, f3, f4⟩ := hf1
        refine ⟨f1, f2, f3, fun j hj => ?_⟩
        have := f4 j hj
        unfold f_at at this ⊢
        rw [g1 _ (by omega), g1 _ (by omega)]; exact this
      obtain ⟨g3, g4⟩ := m_un1 hf2 g2 hi hk ⟨h32, by omega⟩ heq hj2
      refine ⟨fun j hj => ?_, ?_⟩
      · rw [g3 j hj]; exact hc1.1 j hj
      · rw [hc1.2] at g4; exact g4
