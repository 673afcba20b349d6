/-! A search over facts, level by level -/
def g_eq (r s : Nat → Option Nat) : Prop := ∀ v, v < 8 → r v = s v
def g_rea (K : Nat → (Nat → Option Nat) → Nat → (Nat → Option Nat) → Prop) (E : (Nat → Option Nat) → Nat → Prop) (fc : Nat) : Nat → Nat → (Nat → Option Nat) → Nat → Prop
  | 0, _, r, j => E r j
  | m + 1, d, r, j => ∃ k r', k < fc ∧ K d r k r' ∧ g_rea K E fc m (d + 1) r' j
def g_kk (K : Nat → (Nat → Option Nat) → Nat → (Nat → Option Nat) → Prop) (E : (Nat → Option Nat) → Nat → Prop) (fc n e : Nat) (r : Nat → Option Nat) (k j : Nat) : Prop := ∃ r', K e r k r' ∧ g_rea K E fc (n - e - 1) (e + 1) r' j
def g_ok (K : Nat → (Nat → Option Nat) → Nat → (Nat → Option Nat) → Prop) (E : (Nat → Option Nat) → Nat → Prop) : Prop := (∀ d r k r' r'', K d r k r' → K d r k r'' → g_eq r' r'') ∧ (∀ d r s k r', g_eq r s → K d r k r' → K d s k r') ∧ (∀ r s j, g_eq r s → E r j → E s j) ∧ ∀ d r k r' s', g_eq r' s' → K d r k r' → K d r k s'
theorem g_eq_s {r s : Nat → Option Nat} (h : g_eq r s) : g_eq s r := fun v hv => (h v hv).symm
theorem g_rea_cg {K : Nat → (Nat → Option Nat) → Nat → (Nat → Option Nat) → Prop} {E : (Nat → Option Nat) → Nat → Prop} {fc : Nat} (hk : g_ok K E) {m d : Nat} {r s : Nat → Option Nat} {j : Nat} (h : g_eq r s) (hr : g_rea K E fc m d r j) : g_rea K E fc m d s j := by
  cases m with
  | zero => exact hk.2.2.1 r s j h hr
  | succ m =>
    obtain ⟨k, r', h1, h2, h3⟩ := hr
    exact ⟨k, r', h1, hk.2.1 d r s k r' h h2, h3⟩
theorem g_kk_cg {K : Nat → (Nat → Option Nat) → Nat → (Nat → Option Nat) → Prop} {E : (Nat → Option Nat) → Nat → Prop} {fc : Nat} (hk : g_ok K E) {n e : Nat} {r s : Nat → Option Nat} {k j : Nat} (h : g_eq r s) (hr : g_kk K E fc n e r k j) : g_kk K E fc n e s k j := by
  obtain ⟨r', h1, h2⟩ := hr
  exact ⟨r', hk.2.1 e r s k r' h h1, h2⟩
theorem g_kk_one {K : Nat → (Nat → Option Nat) → Nat → (Nat → Option Nat) → Prop} {E : (Nat → Option Nat) → Nat → Prop} {fc : Nat} (hk : g_ok K E) {n e : Nat} {r r' : Nat → Option Nat} {k j : Nat} (h : K e r k r') : g_kk K E fc n e r k j ↔ g_rea K E fc (n - e - 1) (e + 1) r' j :=
  ⟨fun ⟨r'', h1, h2⟩ => g_rea_cg hk (hk.1 e r k r'' r' h1 h) h2, fun h2 => ⟨r', h, h2⟩⟩
def m_row (bd : Nat → Option Nat) (d : Nat) : Nat → Option Nat := fun v => bd (8 * d + v)
/-- levels below d: what their facts before the one at work have found -/
def g_A (K : Nat → (Nat → Option Nat) → Nat → (Nat → Option Nat) → Prop) (E : (Nat → Option Nat) → Nat → Prop) (fc n : Nat) (bd : Nat → Option Nat) (nx : Nat → Nat) (d j : Nat) : Prop := ∃ e k, e < d ∧ k + 1 < nx e ∧ g_kk K E fc n e (m_row bd e) k j
def g_done (K : Nat → (Nat → Option Nat) → Nat → (Nat → Option Nat) → Prop) (E : (Nat → Option Nat) → Nat → Prop) (fc n : Nat) (bd : Nat → Option Nat) (nx : Nat → Nat) (j : Nat) : Option Nat → Prop
  | none => g_rea K E fc n 0 (fun _ => none) j
  | some d => g_A K E fc n bd nx d j ∨ (d < n ∧ ∃ k, k < nx d ∧ g_kk K E fc n d (m_row bd d) k j)
def g_chn (K : Nat → (Nat → Option Nat) → Nat → (Nat → Option Nat) → Prop) (fc n : Nat) (bd : Nat → Option Nat) (nx : Nat → Nat) : Option Nat → Prop
  | none => True
  | some d => d ≤ n ∧ (d < n → nx d ≤ fc) ∧ ∀ e, e < d → 1 ≤ nx e ∧ nx e ≤ fc ∧ K e (m_row bd e) (nx e - 1) (m_row bd (e + 1))
def g_inv (K : Nat → (Nat → Option Nat) → Nat → (Nat → Option Nat) → Prop) (E : (Nat → Option Nat) → Nat → Prop) (fc n : Nat) (f0 : Nat → Bool) (s0 : Bool) (bd : Nat → Option Nat) (nx : Nat → Nat) (fnd : Nat → Bool) (sm : Bool) (dd : Option Nat) : Prop := (∀ v, v < 8 → bd v = none) ∧ g_chn K fc n bd nx dd ∧ (∀ j, fnd j = true ↔ f0 j = true ∨ g_done K E fc n bd nx j dd) ∧ (sm = true ↔ s0 = true ∨ ∃ j, g_done K E fc n bd nx j dd)
def m_dec (d : Nat) : Option Nat := if d = 0 then none else some (d - 1)
/-- a level is left -/
theorem g_pop {K : Nat → (Nat → Option Nat) → Nat → (Nat → Option Nat) → Prop} {E : (Nat → Option Nat) → Nat → Prop} {fc n : Nat} (hk : g_ok K E) {bd : Nat → Option Nat} {nx : Nat → Nat} {d : Nat} (h0 : ∀ v, v < 8 → bd v = none) (hc : g_chn K fc n bd nx (some d)) : g_chn K fc n bd nx (m_dec d) ∧ ∀ j, g_done K E fc n bd nx j (m_dec d) ↔ g_A K E fc n bd nx d j ∨ g_rea K E fc (n - d) d (m_row bd d) j := by
  obtain ⟨h1, h2, h3⟩ := hc
  unfold m_dec
  by_cases hd : d = 0
  · subst hd
    rw [if_pos rfl]
    refine ⟨trivial, fun j => ?_⟩
    have e : g_eq (m_row bd 0) (fun _ => none) := fun v hv => by show bd (8 * 0 + v) = none; rw [Nat.mul_zero, Nat.zero_add]; exact h0 v hv
    show g_rea K E fc n 0 _ j ↔ _
    rw [Nat.sub_zero]
    refine ⟨fun h => Or.inr (g_rea_cg hk (g_eq_s e) h), fun h => ?_⟩
    rcases h with ⟨e9, k, h4, _⟩ | h
    · omega
    · exact g_rea_cg hk e h
  · rw [if_neg hd]
    have h4 := h3 (d - 1) (by omega)
    rw [show d - 1 + 1 = d by omega] at h4
    refine ⟨⟨by omega, fun _ => h4.2.1, fun e he => h3 e (by omega)⟩, fun j => ?_⟩
    have h5 := g_kk_one (n := n) (fc := fc) (j := j) hk h4.2.2
    rw [show n - (d - 1) - 1 = n - d by omega, show d - 1 + 1 = d by omega] at h5
    constructor
    · rintro (⟨e, k, g1, g2, g3⟩ | ⟨g1, k, g2, g3⟩)
      · exact Or.inl ⟨e, k, by omega, g2, g3⟩
      · by_cases hk1 : k = nx (d - 1) - 1
        · rw [hk1] at g3; exact Or.inr (h5.mp g3)
        · exact Or.inl ⟨d - 1, k, by omega, by omega, g3⟩
    · rintro (⟨e, k, g1, g2, g3⟩ | g)
      · by_cases he : e = d - 1
        · rw [he] at g2 g3; exact Or.inr ⟨by omega, k, by omega, g3⟩
        · exact Or.inl ⟨e, k, by omega, g2, g3⟩
      · exact Or.inr ⟨by omega, nx (d - 1) - 1, by omega, h5.mpr g⟩
theorem g_inv_tell {K : Nat → (Nat → Option Nat) → Nat → (Nat → Option Nat) → Prop} {E : (Nat → Option Nat) → Nat → Prop} {fc n : Nat} (hk : g_ok K E) {f0 fnd fnd1 : Nat → Bool} {s0 sm sm1 : Bool} {bd : Nat → Option Nat} {nx : Nat → Nat} (h : g_inv K E fc n f0 s0 bd nx fnd sm (some n)) (ht : ∀ j, fnd1 j = true ↔ fnd j = true ∨ E (m_row bd n) j) (hs : sm1 = true ↔ sm = true ∨ ∃ j, E (m_row bd n) j) : g_inv K E fc n f0 s0 bd nx fnd1 sm1 (m_dec n) := by
  obtain ⟨h1, h2, h3, h4⟩ := h
  obtain ⟨p1, p2⟩ := g_pop (E := E) hk h1 h2
  have e : ∀ j, g_done K E fc n bd nx j (m_dec n) ↔ g_done K E fc n bd nx j (some n) ∨ E (m_row bd n) j := fun j => by
    rw [p2 j, Nat.sub_self]
    constructor
    · rintro (g | g)
      · exact Or.inl (Or.inl g)
      · exact Or.inr g
    · rintro ((g | ⟨g, _⟩) | g)
      · exact Or.inl g
      · omega
      · exact Or.inr g
  refine ⟨h1, p1, fun j => ?_, ?_⟩
  · rw [ht j, h3 j, e j]; exact or_assoc
  · rw [hs, h4, or_assoc]
    refine or_congr Iff.rfl ?_
    constructor
    · rintro (⟨j, g⟩ | ⟨j, g⟩)
      · exact ⟨j, (e j).mpr (Or.inl g)⟩
      · exact ⟨j, (e j).mpr (Or.inr g)⟩
    · rintro ⟨j, g⟩
      rcases (e j).mp g with g | g
      · exact Or.inl ⟨j, g⟩
      · exact Or.inr ⟨j, g⟩
theorem g_inv_cg {K : Nat → (Nat → Option Nat) → Nat → (Nat → Option Nat) → Prop} {E : (Nat → Option Nat) → Nat → Prop} {fc n : Nat} {f0 fnd : Nat → Bool} {s0 sm : Bool} {bd bd1 : Nat → Option Nat} {nx nx1 : Nat → Nat} {dd dd1 : Option Nat} (h : g_inv K E fc n f0 s0 bd nx fnd sm dd) (h0 : ∀ v, v < 8 → bd1 v = none) (hc : g_chn K fc n bd1 nx1 dd1) (e : ∀ j, g_done K E fc n bd1 nx1 j dd1 ↔ g_done K E fc n bd nx j dd) : g_inv K E fc n f0 s0 bd1 nx1 fnd sm dd1 := by
  obtain ⟨h1, h2, h3, h4⟩ := h
  refine ⟨h0, hc, fun j => by rw [h3 j, e j], ?_⟩
  rw [h4]
  refine or_congr Iff.rfl (exists_congr fun j => (e j).symm)
theorem g_inv_full {K : Nat → (Nat → Option Nat) → Nat → (Nat → Option Nat) → Prop} {E : (Nat → Option Nat) → Nat → Prop} {fc n d : Nat} (hk : g_ok K E) {f0 fnd : Nat → Bool} {s0 sm : Bool} {bd : Nat → Option Nat} {nx : Nat → Nat} (h : g_inv K E fc n f0 s0 bd nx fnd sm (some d)) (hd : d ≠ n) (hx : nx d = fc) : g_inv K E fc n f0 s0 bd nx fnd sm (m_dec d) := by
  have h1 := h.1
  have h2 := h.2.1
  obtain ⟨p1, p2⟩ := g_pop (E := E) hk h1 h2
  refine g_inv_cg h h1 p1 (fun j => ?_)
  have hdn : d < n := by have := h2.1; omega
  rw [p2 j]
  refine or_congr Iff.rfl ?_
  rw [show n - d = (n - d - 1) + 1 by omega, hx]
  constructor
  · rintro ⟨k, r', g1, g2, g3⟩; exact ⟨hdn, k, g1, r', g2, g3⟩
  · rintro ⟨_, k, g1, r', g2, g3⟩; exact ⟨k, r', g1, g2, g3⟩
theorem g_A_cg {K : Nat → (Nat → Option Nat) → Nat → (Nat → Option Nat) → Prop} {E : (Nat → Option Nat) → Nat → Prop} {fc n d j : Nat} (hk : g_ok K E) {bd bd1 : Nat → Option Nat} {nx nx1 : Nat → Nat} (hb : ∀ e, e < d → g_eq (m_row bd e) (m_row bd1 e)) (hn : ∀ e, e < d → nx e = nx1 e) (h : g_A K E fc n bd nx d j) : g_A K E fc n bd1 nx1 d j := by
  obtain ⟨e, k, h1, h2, h3⟩ := h
  exact ⟨e, k, h1, by rw [← hn e h1]; exact h2, g_kk_cg hk (hb e h1) h3⟩
theorem g_lo {bd bd1 : Nat → Option Nat} {d : Nat} (h : ∀ j, j < 8 * (d + 1) → bd1 j = bd j) : ∀ e, e ≤ d → g_eq (m_row bd e) (m_row bd1 e) := fun e he v hv => (h _ (by omega)).symm
theorem g_chn_cg {K : Nat → (Nat → Option Nat) → Nat → (Nat → Option Nat) → Prop} {E : (Nat → Option Nat) → Nat → Prop} (hk : g_ok K E) {bd bd1 : Nat → Option Nat} {d e k : Nat} (hl : ∀ e, e ≤ d → g_eq (m_row bd e) (m_row bd1 e)) (he : e < d) (h : K e (m_row bd e) k (m_row bd (e + 1))) : K e (m_row bd1 e) k (m_row bd1 (e + 1)) := hk.2.2.2 e _ k _ _ (hl (e + 1) (by omega)) (hk.2.1 e _ _ k _ (hl e (by omega)) h)
/-- a fact that does not bind -/
theorem g_inv_no {K : Nat → (Nat → Option Nat) → Nat → (Nat → Option Nat) → Prop} {E : (Nat → Option Nat) → Nat → Prop} {fc n d : Nat} (hk : g_ok K E) {f0 fnd : Nat → Bool} {s0 sm : Bool} {bd bd1 : Nat → Option Nat} {nx : Nat → Nat} (h : g_inv K E fc n f0 s0 bd nx fnd sm (some d)) (hd : d ≠ n) (hx : nx d ≠ fc) (hlo : ∀ j, j < 8 * (d + 1) → bd1 j = bd j) (hno : ∀ r', ¬ K d (m_row bd d) (nx d) r') : g_inv K E fc n f0 s0 bd1 (va_up nx d (nx d + 1)) fnd sm (some d) := by
  have hl := g_lo hlo
  have hl' : ∀ e, e ≤ d → g_eq (m_row bd1 e) (m_row bd e) := fun e he => g_eq_s (hl e he)
  obtain ⟨c1, c2, c3⟩ := h.2.1
  have hdn : d < n := by omega
  have c2 := c2 hdn
  have hne : ∀ e, e < d → nx e = va_up nx d (nx d + 1) e := fun e he => by rw [up_n _ _ (show e ≠ d by omega)]
  refine g_inv_cg h (fun v hv => by rw [hlo v (by omega)]; exact h.1 v hv) ⟨c1, fun _ => by rw [up_s]; omega, fun e he => ?_⟩ (fun j => or_congr ⟨fun g => g_A_cg hk (fun e he => hl' e (by omega)) (fun e he => (hne e he).symm) g, fun g => g_A_cg hk (fun e he => hl e (by omega)) hne g⟩ ⟨fun ⟨_, k, g1, g2⟩ => ⟨hdn, ?_⟩, fun ⟨_, k, g1, g2⟩ => ⟨hdn, k, by rw [up_s]; omega, g_kk_cg hk (hl d (Nat.le_refl d)) g2⟩⟩)
  · rw [← hne e he]
    obtain ⟨a, b, c⟩ := c3 e he
    exact ⟨a, b, g_chn_cg hk hl he c⟩
  · rw [up_s] at g1
    have g2 := g_kk_cg hk (hl' d (Nat.le_refl d)) g2
    by_cases hkd : k = nx d
    · rw [hkd] at g2
      obtain ⟨r', g3, _⟩ := g2
      exact absurd g3 (hno r')
    · exact ⟨k, by omega, g2⟩
/-- a fact that binds: one level more -/
theorem g_inv_yes {K : Nat → (Nat → Option Nat) → Nat → (Nat → Option Nat) → Prop} {E : (Nat → Option Nat) → Nat → Prop} {fc n d : Nat} (hk : g_ok K E) {f0 fnd : Nat → Bool} {s0 sm : Bool} {bd bd1 : Nat → Option Nat} {nx : Nat → Nat} (h : g_inv K E fc n f0 s0 bd nx fnd sm (some d)) (hd : d ≠ n) (hx : nx d ≠ fc) (hlo : ∀ j, j < 8 * (d + 1) → bd1 j = bd j) (hy : K d (m_row bd d) (nx d) (m_row bd1 (d + 1))) : g_inv K E fc n f0 s0 bd1 (va_up (va_up nx d (nx d + 1)) (d + 1) 0) fnd sm (some (d + 1)) := by
  have hl := g_lo hlo
  have hl' : ∀ e, e ≤ d → g_eq (m_row bd1 e) (m_row bd e) := fun e he => g_eq_s (hl e he)
  obtain ⟨c1, c2, c3⟩ := h.2.1
  have hdn : d < n := by omega
  have c2 := c2 hdn
  have hne : ∀ e, e < d → nx e = va_up (va_up nx d (nx d + 1)) (d + 1) 0 e := fun e he => by rw [up_n _ _ (show e ≠ d + 1 by omega), up_n _ _ (show e ≠ d by omega)]
  have hnd : va_up (va_up nx d (nx d + 1)) (d + 1) 0 d = nx d + 1 := by rw [up_n _ _ (show d ≠ d + 1 by omega), up_s]
  refine g_inv_cg h (fun v hv => by rw [hlo v (by omega)]; exact h.1 v hv) ⟨by omega, fun _ => by rw [up_s]; omega, fun e he => ?_⟩ (fun j => ⟨?_, ?_⟩)
  · by_cases hed : e = d
    · subst hed
      rw [hnd]
      exact ⟨by omega, by omega, hk.2.1 e _ _ _ _ (hl e (Nat.le_refl e)) hy⟩
    · rw [← hne e (by omega)]
      obtain ⟨a, b, c⟩ := c3 e (by omega)
      exact ⟨a, b, g_chn_cg hk hl (by omega) c⟩
  · rintro (⟨e, k, g1, g2, g3⟩ | ⟨_, k, g1, _⟩)
    · by_cases hed : e = d
      · subst hed
        rw [hnd] at g2
        exact Or.inr ⟨hdn, k, by omega, g_kk_cg hk (hl' e (Nat.le_refl e)) g3⟩
      · rw [← hne e (by omega)] at g2
        exact Or.inl ⟨e, k, by omega, g2, g_kk_cg hk (hl' e (by omega)) g3⟩
    · rw [up_s] at g1; omega
  · rintro (⟨e, k, g1, g2, g3⟩ | ⟨_, k, g1, g2⟩)
    · exact Or.inl ⟨e, k, by omega, by rw [← hne e g1]; exact g2, g_kk_cg hk (hl e (by omega)) g3⟩
    · exact Or.inl ⟨d, k, by omega, by rw [hnd]; omega, g_kk_cg hk (hl d (Nat.le_refl d)) g2⟩
theorem g_inv_0 {K : Nat → (Nat → Option Nat) → Nat → (Nat → Option Nat) → Prop} {E : (Nat → Option Nat) → Nat → Prop} {fc n : Nat} {fnd : Nat → Bool} {sm : Bool} {bd : Nat → Option Nat} {nx : Nat → Nat} (h0 : ∀ v, v < 8 → bd v = none) (hx : nx 0 = 0) : g_inv K E fc n fnd sm bd nx fnd sm (some 0) := by
  have e : ∀ j, ¬ g_done K E fc n bd nx j (some 0) := fun j h => by
    rcases h with ⟨e, k, h1, _⟩ | ⟨_, k, h1, _⟩
    · omega
    · rw [hx] at h1; omega
  refine ⟨h0, ⟨by omega, fun _ => by rw [hx]; omega, fun e he => by omega⟩, fun j => ⟨fun h => Or.inl h, fun h => ?_⟩, ⟨fun h => Or.inl h, fun h => ?_⟩⟩
  · rcases h with h | h
    · exact h
    · exact absurd h (e j)
  · rcases h with h | ⟨j, h⟩
    · exact h
    · exact absurd h (e j)
/-- what is left to do falls -/
def g_wt (fc : Nat) : Nat → Nat
  | 0 => 0
  | m + 1 => fc * g_wt fc m + 2
def g_mus (fc n : Nat) (nx : Nat → Nat) : Nat → Nat
  | 0 => 0
  | e + 1 => g_mus fc n nx e + (fc - nx e) * g_wt fc (n - e) + 1
def g_mu (fc n : Nat) (nx : Nat → Nat) (dd : Option Nat) : Nat := match dd with
  | none => 0
  | some d => g_mus fc n nx (d + 1)
theorem g_mus_cg {fc n : Nat} {nx nx1 : Nat → Nat} : ∀ {d : Nat}, (∀ e, e < d → nx e = nx1 e) → g_mus fc n nx d = g_mus fc n nx1 d := by
  intro d
  induction d with
  | zero => intro _; rfl
  | succ d ih => intro h; simp only [g_mus]; rw [ih (fun e he => h e (by omega)), h d (by omega)]
theorem g_mu_dec (fc n : Nat) (nx : Nat → Nat) (d : Nat) : g_mu fc n nx (m_dec d) < g_mu fc n nx (some d) := by
  unfold m_dec
  split
  · rename_i h
    subst h
    show 0 < g_mus fc n nx 1
    simp only [g_mus]; omega
  · show g_mus fc n nx (d - 1 + 1) < g_mus fc n nx (d + 1)
    rw [show d - 1 + 1 = d by omega]
    simp only [g_mus]; omega
theorem g_wt_pos {fc m : Nat} (h : 0 < m) : 0 < g_wt fc m := by
  cases m with
  | zero => omega
  | succ m => simp only [g_wt]; omega
theorem g_mu_no {fc n d : Nat} {nx : Nat → Nat} (hd : d < n) (hx : nx d < fc) : g_mu fc n (va_up nx d (nx d + 1)) (some d) < g_mu fc n nx (some d) := by
  show g_mus fc n (va_up nx d (nx d + 1)) (d + 1) < g_mus fc n nx (d + 1)
  simp only [g_mus]
  rw [g_mus_cg (nx := va_up nx d (nx d + 1)) (nx1 := nx) (fun e he => up_n _ _ (by omega)), up_s]
  have h1 := g_wt_pos (fc := fc) (show 0 < n - d by omega)
  have h2 : (fc - (nx d + 1)) * g_wt fc (n - d) < (fc - nx d) * g_wt fc (n - d) := Nat.mul_lt_mul_of_pos_right (by omega) h1
  omega
theorem g_mu_yes {fc n d : Nat} {nx : Nat → Nat} (hd : d < n) (hx : nx d < fc) : g_mu fc n (va_up (va_up nx d (nx d + 1)) (d + 1) 0) (some (d + 1)) < g_mu fc n nx (some d) := by
  show g_mus fc n _ (d + 1 + 1) < g_mus fc n nx (d + 1)
  simp only [g_mus]
  rw [g_mus_cg (nx := va_up (va_up nx d (nx d + 1)) (d + 1) 0) (nx1 := nx) (fun e he => by rw [up_n _ _ (by omega), up_n _ _ (by omega)]), up_s, up_n _ _ (show d ≠ d + 1 by omega), up_s, Nat.sub_zero]
  have h2 : (fc - nx d) * g_wt fc (n - d) = (fc - (nx d + 1)) * g_wt fc (n - d) + g_wt fc (n - d) := by
    rw [show fc - nx d = (fc - (nx d + 1)) + 1 by omega, Nat.add_mul, Nat.one_mul]
  have h3 : g_wt fc (n - d) = fc * g_wt fc (n - (d + 1)) + 2 := by
    rw [show n - d = (n - (d + 1)) + 1 by omega]; rfl
  omega
/-! The reference's search -/
def m_K (cf fn fo ft : Nat → Nat) (fc d : Nat) (r : Nat → Option Nat) (k : Nat) (r' : Nat → Option Nat) : Prop := k < fc ∧ m_bn r (cf d) (fn k) (fo k) (ft k) true r'
def m_E (o0 o1 : Option Nat) (r : Nat → Option Nat) (j : Nat) : Prop := ∃ a b, m_ans r 0 o0 = some a ∧ m_ans r 0 o1 = some b ∧ j = 16 * a + b
theorem m_bn_cg {r s : Nat → Option Nat} {c x o1 o2 : Nat} {b : Bool} {r' : Nat → Option Nat} (h : g_eq r s) (hb : m_bn r c x o1 o2 b r') : m_bn s c x o1 o2 b r' := by
  have hx : c / 8 % 8 < 8 := by omega
  have hy : c % 8 < 8 := by omega
  have hcl : m_cl r (c / 8 % 8) o1 ↔ m_cl s (c / 8 % 8) o1 := by unfold m_cl; rw [h _ hx]
  have hr1 : g_eq (m_r1 r (c / 8 % 8) o1) (m_r1 s (c / 8 % 8) o1) := fun v hv => by
    unfold m_r1
    by_cases e : v = c / 8 % 8
    · rw [e, up_s, up_s]
    · rw [up_n _ _ e, up_n _ _ e]; exact h v hv
  unfold m_bn at hb ⊢
  rw [← hcl, ← hr1 _ hy]
  rcases hb with hb | hb | ⟨b1, b2, b3, b4, b5⟩ | ⟨b1, b2, b3, b4, b5⟩
  · exact Or.inl hb
  · exact Or.inr (Or.inl hb)
  · exact Or.inr (Or.inr (Or.inl ⟨b1, b2, b3, b4, fun v hv => (b5 v hv).trans (hr1 v hv)⟩))
  · refine Or.inr (Or.inr (Or.inr ⟨b1, b2, b3, b4, fun v hv => (b5 v hv).trans ?_⟩))
    by_cases e : v = c % 8
    · rw [e, up_s, up_s]
    · rw [up_n _ _ e, up_n _ _ e]; exact hr1 v hv
theorem m_bn_tg {r : Nat → Option Nat} {c x o1 o2 : Nat} {b : Bool} {r' s' : Nat → Option Nat} (h : g_eq r' s') (hb : m_bn r c x o1 o2 b r') : m_bn r c x o1 o2 b s' := by
  unfold m_bn at hb ⊢
  rcases hb with hb | hb | ⟨b1, b2, b3, b4, b5⟩ | ⟨b1, b2, b3, b4, b5⟩
  · exact Or.inl hb
  · exact Or.inr (Or.inl hb)
  · exact Or.inr (Or.inr (Or.inl ⟨b1, b2, b3, b4, fun v hv => (h v hv).symm.trans (b5 v hv)⟩))
  · exact Or.inr (Or.inr (Or.inr ⟨b1, b2, b3, b4, fun v hv => (h v hv).symm.trans (b5 v hv)⟩))
theorem m_bn_fn {r : Nat → Option Nat} {c x o1 o2 : Nat} {r' r'' : Nat → Option Nat} (h : m_bn r c x o1 o2 true r') (h2 : m_bn r c x o1 o2 true r'') : g_eq r' r'' := by
  unfold m_bn at h h2
  rcases h with ⟨_, h⟩ | ⟨_, _, h⟩ | ⟨a1, a2, a3, a4, a5⟩ | ⟨a1, a2, a3, a4, a5⟩
  · cases h
  · cases h
  · rcases h2 with ⟨_, h⟩ | ⟨_, _, h⟩ | ⟨b1, b2, b3, b4, b5⟩ | ⟨b1, b2, b3, b4, b5⟩
    · cases h
    · cases h
    · exact fun v hv => (a5 v hv).trans (b5 v hv).symm
    · omega
  · rcases h2 with ⟨_, h⟩ | ⟨_, _, h⟩ | ⟨b1, b2, b3, b4, b5⟩ | ⟨b1, b2, b3, b4, b5⟩
    · cases h
    · cases h
    · omega
    · exact fun v hv => (a5 v hv).trans (b5 v hv).symm
theorem m_bn_not {r : Nat → Option Nat} {c x o1 o2 : Nat} {r' r'' : Nat → Option Nat} (h : m_bn r c x o1 o2 false r') (h2 : m_bn r c x o1 o2 true r'') : False := by
  unfold m_bn at h h2
  rcases h with ⟨a1, _⟩ | ⟨a1, a2, _⟩ | ⟨_, _, _, h, _⟩ | ⟨a1, a2, a3, a4, a5⟩
  · rcases h2 with ⟨_, h⟩ | ⟨_, _, h⟩ | ⟨b1, _⟩ | ⟨b1, _⟩
    · cases h
    · cases h
    · exact a1 b1
    · exact a1 b1
  · rcases h2 with ⟨_, h⟩ | ⟨_, _, h⟩ | ⟨b1, b2, _⟩ | ⟨b1, b2, _⟩
    · cases h
    · cases h
    · exact b2 a2
    · exact b2 a2
  · cases h
  · rcases h2 with ⟨_, h⟩ | ⟨_, _, h⟩ | ⟨b1, b2, b3, b4, b5⟩ | ⟨b1, b2, b3, b4, b5⟩
    · cases h
    · cases h
    · omega
    · have := a4.mpr (b4.mp rfl); cases this
theorem m_ans_cg {r s : Nat → Option Nat} {o : Option Nat} (h : g_eq r s) (ho : ∀ u, o = some u → u < 8) : m_ans r 0 o = m_ans s 0 o := by
  cases o with
  | none => rfl
  | some u => show r (0 + u) = s (0 + u); rw [Nat.zero_add]; exact h u (ho u rfl)
theorem m_ans_row (bd : Nat → Option Nat) (d : Nat) (o : Option Nat) : m_ans bd (8 * d) o = m_ans (m_row bd d) 0 o := by
  cases o with
  | none => rfl
  | some u => show bd (8 * d + u) = bd (8 * d + (0 + u)); rw [Nat.zero_add]
theorem m_gok {cf fn fo ft : Nat → Nat} {fc : Nat} {o0 o1 : Option Nat} (h0 : ∀ u, o0 = some u → u < 8) (h1 : ∀ u, o1 = some u → u < 8) : g_ok (m_K cf fn fo ft fc) (m_E o0 o1) := by
  refine ⟨fun d r k r' r'' h h2 => m_bn_fn h.2 h2.2, fun d r s k r' h h2 => ⟨h2.1, m_bn_cg h h2.2⟩, fun r s j h h2 => ?_, fun d r k r' s' h h2 => ⟨h2.1, m_bn_tg h h2.2⟩⟩
  obtain ⟨a, b, e1, e2, e3⟩ := h2
  exact ⟨a, b, by rw [← m_ans_cg h h0]; exact e1, by rw [← m_ans_cg h h1]; exact e2, e3⟩
theorem m_tel_E {bd : Nat → Option Nat} {d : Nat} {o0 o1 : Option Nat} {fnd fnd1 : Nat → Bool} {sm sm1 : Bool} (h : m_tel (m_ans bd (8 * d) o0) (m_ans bd (8 * d) o1) fnd sm fnd1 sm1) : (∀ j, fnd1 j = true ↔ fnd j = true ∨ m_E o0 o1 (m_row bd d) j) ∧ (sm1 = true ↔ sm = true ∨ ∃ j, m_E o0 o1 (m_row bd d) j) := by
  rw [m_ans_row, m_ans_row] at h
  rcases h with ⟨a, b, e1, e2, e3, e4⟩ | ⟨e1, e2, e3⟩
  · have hE : ∀ j, m_E o0 o1 (m_row bd d) j ↔ j = 16 * a + b := fun j => by
      constructor
      · rintro ⟨a', b', f1, f2, f3⟩
        rw [e1] at f1; rw [e2] at f2
        cases f1; cases f2; exact f3
      · intro h; exact ⟨a, b, e1, e2, h⟩
    refine ⟨fun j => ?_, ⟨fun _ => Or.inr ⟨_, (hE _).mpr rfl⟩, fun _ => e4⟩⟩
    rw [hE j, e3]
    by_cases hj : j = 16 * a + b
    · rw [hj, up_s]; simp
    · rw [up_n _ _ hj]; simp [hj]
  · have hE : ∀ j, ¬ m_E o0 o1 (m_row bd d) j := fun j ⟨a', b', f1, f2, _⟩ => by
      rcases e1 with e1 | e1
      · rw [e1] at f1; cases f1
      · rw [e1] at f2; cases f2
    subst e2; subst e3
    refine ⟨fun j => ⟨fun h => Or.inl h, fun h => ?_⟩, ⟨fun h => Or.inl h, fun h => ?_⟩⟩
    · rcases h with h | h
      · exact h
      · exact absurd h (hE j)
    · rcases h with h | ⟨j, h⟩
      · exact h
      · exact absurd h (hE j)
