theorem m_pv_e (pa pb : Nat → Nat) (j : Nat) : m_pv pa pb (2 * j) = pa j := by
  unfold m_pv; rw [if_pos (by omega), show 2 * j / 2 = j by omega]
theorem m_pv_o (pa pb : Nat → Nat) (j : Nat) : m_pv pa pb (2 * j + 1) = pb j := by
  unfold m_pv; rw [if_neg (by omega), show (2 * j + 1) / 2 = j by omega]
theorem m_at (pp pa pb : Nat → Nat) (j : Nat) : f_at pp (m_pv pa pb) j = (pp j, pa j, pb j) := by
  unfold f_at; rw [m_pv_e, m_pv_o]
def m_hw (he : Nat → Nat) (hc v : Nat) : Prop := m_head he hc v = decide (v < 2)
/-- atoms as they stand in the reference: places by kind, and answers are the variables below 2 -/
def m_wf (he : Nat → Nat) (hc : Nat) (y : Nat × Nat × Nat) : Prop := (y.1 < 32 → y.2.2 = 7) ∧ y.2.1 ≠ 7 ∧ (32 ≤ y.1 → y.2.2 ≠ 7) ∧ m_hw he hc y.2.1 ∧ (32 ≤ y.1 → m_hw he hc y.2.2)
theorem m_wf_img {he : Nat → Nat} {hc : Nat} {S : Nat × Nat × Nat → Prop} {T : Nat → Bool} (h6 : m_hw he hc 6) (hok : c_ok T) (h : ∀ y, S y → m_wf he hc y) : ∀ y, c_img T S y → m_wf he hc y := by
  rintro y ⟨x, hx, e⟩
  obtain ⟨h1, h2, h3, h4, h5⟩ := h x hx
  subst e
  have h7 : T 7 = false := by
    cases e : T 7 with
    | false => rfl
    | true => exact absurd (hok 7 e) (by decide)
  have hf : ∀ a, c_f T a = a ∨ c_f T a = 6 := fun a => by unfold c_f; split <;> simp
  refine ⟨fun h => ?_, ?_, fun h => ?_, ?_, fun h => ?_⟩
  · show c_f T x.2.2 = 7
    rw [h1 h]; unfold c_f; rw [h7]; rfl
  · show c_f T x.2.1 ≠ 7
    rcases hf x.2.1 with e | e <;> rw [e]
    · exact h2
    · decide
  · show c_f T x.2.2 ≠ 7
    rcases hf x.2.2 with e | e <;> rw [e]
    · exact h3 h
    · decide
  · show m_hw he hc (c_f T x.2.1)
    rcases hf x.2.1 with e | e <;> rw [e]
    · exact h4
    · exact h6
  · show m_hw he hc (c_f T x.2.2)
    rcases hf x.2.2 with e | e <;> rw [e]
    · exact h5 h
    · exact h6
theorem m_stn_cnt {pp pa pb he : Nat → Nat} {hc v : Nat} (h7 : v ≠ 7) : ∀ {n : Nat}, (∀ j, j < n → m_wf he hc (pp j, pa j, pb j)) → m_stn pp pa pb v n = f_cnt (m_pv pa pb) v (2 * n) := by
  intro n
  induction n with
  | zero => intro _; rfl
  | succ n ih =>
    intro h
    rw [show 2 * (n + 1) = 2 * n + 1 + 1 by omega]
    simp only [f_cnt, m_stn]
    rw [ih (fun j hj => h j (by omega)), m_pv_e, m_pv_o]
    congr 1
    by_cases h1 : 32 ≤ pp n
    · simp [h1]
    · have h2 : pb n = 7 := (h n (by omega)).1 (by show pp n < 32; omega)
      rw [if_neg (fun h3 => h1 h3.1), if_neg (by rw [h2]; exact fun e => h7 e.symm)]
theorem m_lone_t {pp pa pb he : Nat → Nat} {md hc v : Nat} (h7 : v ≠ 7) (hw : m_hw he hc v) (hwf : ∀ j, j < md → m_wf he hc (pp j, pa j, pb j)) : m_lone pp pa pb he md hc v = true ↔ f_oth v = true ∧ f_cnt (m_pv pa pb) v (2 * md) = 1 := by
  unfold m_lone
  rw [hw, m_stn_cnt h7 hwf]
  simp only [Bool.and_eq_true, decide_eq_true_eq, Bool.not_eq_true', decide_eq_false_iff_not, f_oth]
  omega
theorem m_dl_set {pp pa pb : Nat → Nat} {md i k : Nat} (hik : i < k) (hk : k < md) (he : m_eq pp pa pb i k) : f_set pp (m_pv pa pb) md (m_dl pp k (md - 1)) (m_pv (m_dl pa k (md - 1)) (m_dl pb k (md - 1))) (md - 1) := by
  have hat : ∀ j, f_at (m_dl pp k (md - 1)) (m_pv (m_dl pa k (md - 1)) (m_dl pb k (md - 1))) j = if k ≤ j ∧ j < md - 1 then f_at pp (m_pv pa pb) (j + 1) else f_at pp (m_pv pa pb) j := by
    intro j
    rw [m_at, m_at, m_at]
    unfold m_dl
    split <;> rfl
  intro x
  constructor
  · rintro ⟨j, hj, e⟩
    by_cases h1 : j < k
    · exact ⟨j, by omega, by rw [hat, if_neg (by omega)]; exact e⟩
    · by_cases h2 : j = k
      · refine ⟨i, by omega, ?_⟩
        rw [hat, if_neg (by omega), ← e, h2, m_at, m_at, he.1, he.2.1, he.2.2]
      · refine ⟨j - 1, by omega, ?_⟩
        rw [hat, if_pos (by omega), show j - 1 + 1 = j by omega]; exact e
  · rintro ⟨j, hj, e⟩
    rw [hat] at e
    split at e
    · exact ⟨j + 1, by omega, e⟩
    · exact ⟨j, by omega, e⟩
theorem m_ndi {pp pa pb : Nat → Nat} {md : Nat} (h : m_ndp pp pa pb md) : f_ndi pp (m_pv pa pb) md md := by
  intro a c ha hac hc e
  rw [m_at, m_at] at e
  simp only [Prod.mk.injEq] at e
  exact h a c hac hc e
def m_sin (nm0 pl0 : Nat → Nat) (n0 : Nat) (pp pa pb : Nat → Nat) (md ms : Nat) : Prop := ∃ T, c_red (c_set nm0 pl0 n0) T pp (m_pv pa pb) md ∧ md + c_left pl0 T (2 * n0) ≤ ms
theorem m_sin_0 (pp pa pb : Nat → Nat) (md : Nat) : m_sin pp (m_pv pa pb) md pp pa pb md (3 * md) := ⟨_, c_red_0 _ _ _, by have := c_left_le (m_pv pa pb) (fun _ => false) (2 * md); omega⟩
theorem m_sin_wf {nm0 pl0 pp pa pb he : Nat → Nat} {n0 md ms hc : Nat} (h6 : m_hw he hc 6) (hwf : ∀ y, c_set nm0 pl0 n0 y → m_wf he hc y) (h : m_sin nm0 pl0 n0 pp pa pb md ms) : ∀ j, j < md → m_wf he hc (pp j, pa j, pb j) := by
  obtain ⟨T, h1, _⟩ := h
  intro j hj
  refine m_wf_img h6 h1.1 hwf _ ?_
  rw [← h1.2.1]; exact ⟨j, hj, m_at _ _ _ _⟩
/-- freeing the one variable v at place q -/
theorem m_free {pl pl1 : Nat → Nat} {v q m : Nat} (hc : f_cnt pl v m = 1) (hq : q < m) (e : pl q = v) (h1 : pl1 q = 6) (h2 : ∀ j, j ≠ q → pl1 j = pl j) : ∀ j, j < m → pl1 j = c_f (fun u => decide (u = v)) (pl j) := by
  intro j hj
  unfold c_f
  by_cases hjq : j = q
  · subst hjq; rw [if_pos (by simp [e]), h1]
  · rw [if_neg, h2 j hjq]
    intro h3
    have h3 : pl j = v := of_decide_eq_true h3
    rcases Nat.lt_or_gt_of_ne hjq with h4 | h4
    · have := f_cnt_two h4 hq h3 e; omega
    · have := f_cnt_two h4 hj e h3; omega
theorem m_sin_f {nm0 pl0 pp pa pb pa1 pb1 : Nat → Nat} {n0 md ms v q : Nat} (h : m_sin nm0 pl0 n0 pp pa pb md ms) (hnd : m_ndp pp pa pb md) (ho : f_oth v = true) (hc : f_cnt (m_pv pa pb) v (2 * md) = 1) (hq : q < 2 * md) (e : m_pv pa pb q = v) (h1 : m_pv pa1 pb1 q = 6) (h2 : ∀ j, j ≠ q → m_pv pa1 pb1 j = m_pv pa pb j) : ∃ ms1, ms1 < ms ∧ m_sin nm0 pl0 n0 pp pa1 pb1 md ms1 := by
  obtain ⟨T, hr, hm⟩ := h
  have hlt := c_red_left (L := fun u => decide (u = v)) hr ho (by omega) (by simp)
  refine ⟨ms - 1, by omega, c_add T (fun u => decide (u = v)), c_red_add hr (m_ndi hnd) (fun u hu => ?_) (m_free hc hq e h1 h2), by omega⟩
  have hu : u = v := of_decide_eq_true hu
  subst hu
  exact ⟨ho, hc⟩
theorem m_pv_ua (pa pb : Nat → Nat) (k x : Nat) : m_pv (va_up pa k x) pb (2 * k) = x ∧ ∀ j, j ≠ 2 * k → m_pv (va_up pa k x) pb j = m_pv pa pb j := by
  refine ⟨by rw [m_pv_e, up_s], fun j hj => ?_⟩
  unfold m_pv
  by_cases h : j % 2 = 0
  · rw [if_pos h, if_pos h, up_n _ _ (by omega)]
  · rw [if_neg h, if_neg h]
theorem m_pv_ub (pa pb : Nat → Nat) (k x : Nat) : m_pv pa (va_up pb k x) (2 * k + 1) = x ∧ ∀ j, j ≠ 2 * k + 1 → m_pv pa (va_up pb k x) j = m_pv pa pb j := by
  refine ⟨by rw [m_pv_o, up_s], fun j hj => ?_⟩
  unfold m_pv
  by_cases h : j % 2 = 0
  · rw [if_pos h, if_pos h]
  · rw [if_neg h, if_neg h, up_n _ _ (by omega)]
theorem m_sin_s {nm0 pl0 pp pa pb he pp1 pa1 pb1 : Nat → Nat} {n0 md ms hc md1 : Nat} {b1 : Bool} (h6 : m_hw he hc 6) (hwf : ∀ y, c_set nm0 pl0 n0 y → m_wf he hc y) (h : m_sin nm0 pl0 n0 pp pa pb md ms) (hl : m_less pp pa pb he md hc b1 md1 pp1 pa1 pb1) (hb : b1 = true) : ∃ ms1, ms1 < ms ∧ m_sin nm0 pl0 n0 pp1 pa1 pb1 md1 ms1 := by
  have hw := m_sin_wf h6 hwf h
  rcases hl with ⟨_, hl⟩ | ⟨h1, _⟩
  · rcases hl with ⟨i, k, hik, hk, he, e1, e2, e3, e4⟩ | ⟨hnd, k, hk, hlo, e1, e2, e3, e4⟩ | ⟨hnd, k, hk, h32, hlo, e1, e2, e3, e4⟩
    · subst e1; subst e2; subst e3; subst e4
      obtain ⟨T, hr, hm⟩ := h
      exact ⟨ms - 1, by omega, T, c_red_set hr (m_dl_set hik hk he), by omega⟩
    · subst e1; subst e2; subst e3; subst e4
      obtain ⟨w1, w2, w3, w4, w5⟩ := hw k hk
      have ht := (m_lone_t w2 w4 hw).mp hlo
      exact m_sin_f h hnd ht.1 ht.2 (show 2 * k < 2 * md1 by omega) (m_pv_e _ _ _) (m_pv_ua _ _ _ _).1 (m_pv_ua _ _ _ _).2
    · subst e1; subst e2; subst e3; subst e4
      obtain ⟨w1, w2, w3, w4, w5⟩ := hw k hk
      have ht := (m_lone_t (w3 h32) (w5 h32) hw).mp hlo
      exact m_sin_f h hnd ht.1 ht.2 (show 2 * k + 1 < 2 * md1 by omega) (m_pv_o _ _ _) (m_pv_ub _ _ _ _).1 (m_pv_ub _ _ _ _).2
  · rw [hb] at h1; cases h1
theorem m_sin_e {nm0 pl0 pp pa pb he pp1 pa1 pb1 : Nat → Nat} {n0 md ms hc md1 : Nat} {b1 : Bool} (h6 : m_hw he hc 6) (hwf : ∀ y, c_set nm0 pl0 n0 y → m_wf he hc y) (h : m_sin nm0 pl0 n0 pp pa pb md ms) (hl : m_less pp pa pb he md hc b1 md1 pp1 pa1 pb1) (hb : b1 = false) : c_rest (c_set nm0 pl0 n0) pp1 (m_pv pa1 pb1) md1 ∧ ∀ j, j < md1 → m_wf he hc (pp1 j, pa1 j, pb1 j) := by
  have hw := m_sin_wf h6 hwf h
  rcases hl with ⟨h1, _⟩ | ⟨_, e1, e2, e3, e4, hnd, hno⟩
  · rw [hb] at h1; cases h1
  · subst e1; subst e2; subst e3; subst e4
    refine ⟨?_, hw⟩
    obtain ⟨T, hr, hm⟩ := h
    refine c_rest_of hr (c_red_fin hr (m_ndi hnd) (fun v ho hc1 => ?_)) (m_ndi hnd)
    obtain ⟨j, hj, ej⟩ := c_cnt_ex (show 0 < f_cnt (m_pv pa1 pb1) v (2 * md1) by omega)
    obtain ⟨w1, w2, w3, w4, w5⟩ := hw (j / 2) (by omega)
    obtain ⟨n1, n2⟩ := hno (j / 2) (by omega)
    rcases (show j % 2 = 0 ∨ j % 2 = 1 by omega) with h3 | h3
    · have e : pa1 (j / 2) = v := by rw [← ej, m_pv, if_pos h3]
      have w2 : pa1 (j / 2) ≠ 7 := w2
      have w4 : m_hw he hc (pa1 (j / 2)) := w4
      rw [e] at w2 w4 n1
      rw [(m_lone_t w2 w4 hw).mpr ⟨ho, hc1⟩] at n1; cases n1
    · have e : pb1 (j / 2) = v := by rw [← ej, m_pv, if_neg (by omega)]
      have h32 : 32 ≤ pp1 (j / 2) := by
        rcases Nat.lt_or_ge (pp1 (j / 2)) 32 with h4 | h4
        · have h5 : pb1 (j / 2) = 7 := w1 h4
          rw [e] at h5; subst h5; exact absurd ho (by decide)
        · exact h4
      have w3 : pb1 (j / 2) ≠ 7 := w3 h32
      have w5 : m_hw he hc (pb1 (j / 2)) := w5 h32
      have n2 := n2 h32
      rw [e] at w3 w5 n2
      rw [(m_lone_t w3 w5 hw).mpr ⟨ho, hc1⟩] at n2; cases n2
theorem m_po_oth {pp pa pb he : Nat → Nat} {md hc j : Nat} (hw : ∀ j, j < md → m_wf he hc (pp j, pa j, pb j)) (hj : j < 2 * md) : m_po pp pa pb he hc j ↔ f_oth (m_pv pa pb j) = true := by
  obtain ⟨w1, w2, w3, w4, w5⟩ := hw (j / 2) (by omega)
  have w1 : pp (j / 2) < 32 → pb (j / 2) = 7 := w1
  have w2 : pa (j / 2) ≠ 7 := w2
  have w3 : 32 ≤ pp (j / 2) → pb (j / 2) ≠ 7 := w3
  have w4 : m_hw he hc (pa (j / 2)) := w4
  have w5 : 32 ≤ pp (j / 2) → m_hw he hc (pb (j / 2)) := w5
  unfold m_po m_pv
  by_cases h : j % 2 = 0
  · rw [if_pos h, w4]
    simp only [f_oth, decide_eq_true_eq, decide_eq_false_iff_not]
    omega
  · rw [if_neg h]
    by_cases h2 : 32 ≤ pp (j / 2)
    · rw [w5 h2]
      have := w3 h2
      simp only [f_oth, decide_eq_true_eq, decide_eq_false_iff_not]
      omega
    · have := w1 (by omega)
      rw [this]
      simp only [f_oth, decide_eq_true_eq]
      omega
theorem m_few_of {S : Nat × Nat × Nat → Prop} {pp pa pb he : Nat → Nat} {md hc : Nat} (hmd : md ≤ 4) (hr : c_rest S pp (m_pv pa pb) md) (hw : ∀ j, j < md → m_wf he hc (pp j, pa j, pb j)) : m_few pp pa pb he md hc := by
  intro os i k hi hg
  rcases Nat.lt_or_ge 4 k with hk | hk
  · exfalso
    obtain ⟨T, _, _, _, hl⟩ := hr
    have h6 := c_five (pl := m_pv pa pb) (os := os) (fun a b hab hb => hg.2.1 a b hab (by omega)) (2 * md)
    have h7 : ∀ a, a < 5 → 2 ≤ f_cnt (m_pv pa pb) (os a) (2 * md) := fun a ha => by
      obtain ⟨q, hq, hp, eq⟩ := hg.1 a (by omega)
      have ho := (m_po_oth hw (show q < 2 * md by omega)).mp hp
      rw [eq] at ho
      have h1 := f_cnt_pos (show q < 2 * md by omega) eq
      have := hl _ ho
      omega
    have := h7 0 (by omega)
    have := h7 1 (by omega)
    have := h7 2 (by omega)
    have := h7 3 (by omega)
    have := h7 4 (by omega)
    omega
  · exact hk
theorem m_gt_oth {pp pa pb he os : Nat → Nat} {md hc k : Nat} (hw : ∀ j, j < md → m_wf he hc (pp j, pa j, pb j)) (hg : m_gt pp pa pb he hc os (2 * md) k) : c_oth (c_set pp (m_pv pa pb) md) os k := by
  refine ⟨fun a ha => ?_, hg.2.1, fun v hv ho => ?_⟩
  · obtain ⟨q, hq, hp, eq⟩ := hg.1 a ha
    have ho := (m_po_oth hw hq).mp hp
    rw [eq] at ho
    exact ⟨ho, c_var_pl.mpr ⟨q, hq, eq⟩⟩
  · obtain ⟨j, hj, e⟩ := c_var_pl.mp hv
    obtain ⟨a, ha, ea⟩ := hg.2.2 j hj ((m_po_oth hw hj).mpr (by rw [e]; exact ho))
    exact ⟨a, ha, by rw [ea, e]⟩
/-- what heads may be -/
def m_hd (he : Nat → Nat) (hc : Nat) : Prop := hc ≤ 2 ∧ (0 < hc → he 0 = 0) ∧ (1 < hc → he 1 < 2)
theorem m_hd6 {he : Nat → Nat} {hc : Nat} (h : m_hd he hc) : m_hw he hc 6 := by
  unfold m_hw m_head
  rw [decide_eq_decide]
  obtain ⟨h1, h2, h3⟩ := h
  omega
/-- a naming as both sides have it -/
def m_fixd (nd : Nat → Nat) : Nat → Nat := fun v => if v = 7 then 7 else if v < 2 then v else nd v
theorem m_nds_n {nd fe : Nat → Nat} {n wy v : Nat} : ∀ {i : Nat}, (∀ a, a < i → fe a ≠ v) → m_nds nd fe n wy i v = nd v := by
  intro i
  induction i with
  | zero => intro _; rfl
  | succ i ih => intro h; rw [m_nds, up_n _ _ (fun e => h i (by omega) e.symm)]; exact ih (fun a ha => h a (by omega))
theorem m_nds_at {nd fe : Nat → Nat} {n wy : Nat} : ∀ {i : Nat}, (∀ a b, a < b → b < i → fe a ≠ fe b) → ∀ a, a < i → m_nds nd fe n wy i (fe a) = 2 + m_prm n wy a := by
  intro i
  induction i with
  | zero => intro _ a h; omega
  | succ i ih =>
    intro h a ha
    rw [m_nds]
    by_cases hai : a = i
    · rw [hai, up_s]
    · rw [up_n _ _ (h a i (by omega) (by omega))]; exact ih (fun a b hab hb => h a b hab (by omega)) a (by omega)
theorem m_nda_6 {nd he : Nat → Nat} {hc : Nat} (h : m_hd he hc) : m_nda nd he hc 6 = 6 := by
  obtain ⟨h1, h2, h3⟩ := h
  unfold m_nda m_nd1
  split
  · rw [up_n _ _ (by have := h2 (by omega); omega)]
    split
    · rw [up_n _ _ (by have := h3 (by omega); omega), up_s]
    · rw [up_s]
  · rw [if_neg (by omega), up_s]
theorem m_nda_lo {nd he : Nat → Nat} {hc v : Nat} (h : m_hd he hc) (hv : v < 2) (hw : m_hw he hc v) : m_nda nd he hc v = v := by
  obtain ⟨h1, h2, h3⟩ := h
  have hh : m_head he hc v = true := by rw [hw]; simp [hv]
  unfold m_head at hh
  rw [decide_eq_true_eq] at hh
  have hc0 : 0 < hc := by omega
  have e0 := h2 hc0
  unfold m_nda m_nd1
  rw [if_pos hc0]
  by_cases h0 : v = 0
  · rw [e0, h0, up_s]
  · rw [up_n _ _ (by omega), if_pos (by omega), show v = he 1 by omega, up_s]; omega
theorem m_code_fx {pp pa pb he fe nd nd1 : Nat → Nat} {md hc n wy : Nat} (hd : m_hd he hc) (hw : ∀ j, j < md → m_wf he hc (pp j, pa j, pb j)) (ho : c_oth (c_set pp (m_pv pa pb) md) fe n) (e : nd1 = m_nds (m_nda nd he hc) fe n wy n) : c_ndt (m_fixd nd1) fe n (m_prm n wy) ∧ ∀ j, j < md → m_code pp pa pb nd1 j = f_code pp (m_pv pa pb) (m_fixd nd1) j := by
  have hne : ∀ v, f_oth v = false → ∀ a, a < n → fe a ≠ v := fun v hv a ha e => by
    have := (ho.1 a ha).1; rw [e, hv] at this; cases this
  have hfx : ∀ v, v ≠ 7 → m_hw he hc v → nd1 v = m_fixd nd1 v := fun v h7 hwv => by
    unfold m_fixd
    rw [if_neg h7]
    by_cases h2 : v < 2
    · rw [if_pos h2, e, m_nds_n (hne v (by simp [f_oth]; omega)), m_nda_lo hd h2 hwv]
    · rw [if_neg h2]
  constructor
  · refine ⟨⟨rfl, rfl, ?_, rfl⟩, fun a ha => ?_⟩
    · show nd1 6 = 6
      rw [e, m_nds_n (hne 6 (by decide)), m_nda_6 hd]
    · have h1 := (ho.1 a ha).1
      simp only [f_oth, decide_eq_true_eq] at h1
      unfold m_fixd
      rw [if_neg (by omega), if_neg (by omega), e, m_nds_at ho.2.1 a ha]
  · intro j hj
    obtain ⟨w1, w2, w3, w4, w5⟩ := hw j hj
    unfold m_code f_code
    rw [m_pv_e, m_pv_o, ← hfx _ w2 w4]
    congr 1
    by_cases h : 32 ≤ pp j
    · rw [if_pos h]; exact hfx _ (w3 h) (w5 h)
    · rw [if_neg h]
      have : pb j = 7 := w1 (by show pp j < 32; omega)
      rw [this]; rfl
theorem f_srt_cg {f f' g : Nat → Nat} {n : Nat} (h : f_srt f g n) (hf : ∀ j, j < n → f j = f' j) : f_srt f' g n := ⟨h.1, fun c => by rw [h.2, f_cnt_cg hf]⟩
theorem m_rowof {pp pa pb he fe nd nd1 rq : Nat → Nat} {md hc n wy : Nat} {jn : Bool} (hmd : md ≤ 4) (hd : m_hd he hc) (hw : ∀ j, j < md → m_wf he hc (pp j, pa j, pb j)) (ho : c_oth (c_set pp (m_pv pa pb) md) fe n) (e : nd1 = m_nds (m_nda nd he hc) fe n wy n) (hnd : f_ndi pp (m_pv pa pb) md md) (hs : f_srt (m_code pp pa pb nd1) rq md) : c_ndt (m_fixd nd1) fe n (m_prm n wy) ∧ c_rowof (c_set pp (m_pv pa pb) md) jn (m_fixd nd1) (f_row jn md rq) := by
  have hx := m_code_fx hd hw ho e
  exact ⟨hx.1, c_rowof_mk hmd hnd (f_srt_cg hs hx.2)⟩
/-- rows are ordered by their codes -/
theorem f_row_lt {jn : Bool} {n k : Nat} {g g' : Nat → Nat} (hk : k < n) (hg : ∀ j, j < n → g j < 4096) (he : ∀ j, j < k → g j = g' j) (hlt : g k < g' k) : f_row jn n g < f_row jn n g' := by
  have h : ∀ i, k < i → i ≤ n → f_rowb jn n g i < f_rowb jn n g' i := by
    intro i
    induction i with
    | zero => intro h; omega
    | succ i ih =>
      intro h1 h2
      simp only [f_rowb]
      by_cases hik : i = k
      · subst hik; rw [f_rowb_cg he]; omega
      · have := ih (by omega) (by omega)
        have := hg i (by omega)
        omega
  unfold f_row
  exact Nat.mul_lt_mul_of_pos_right (h n hk (Nat.le_refl n)) (Nat.two_pow_pos _)
