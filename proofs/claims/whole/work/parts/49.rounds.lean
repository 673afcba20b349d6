def c_left (pl0 : Nat → Nat) (T : Nat → Bool) : Nat → Nat
  | 0 => 0
  | k + 1 => c_left pl0 T k + if f_oth (pl0 k) = true ∧ T (pl0 k) = false then 1 else 0
theorem c_left_le (pl0 : Nat → Nat) (T : Nat → Bool) : ∀ k, c_left pl0 T k ≤ k := by
  intro k
  induction k with
  | zero => exact Nat.le_refl 0
  | succ k ih => simp only [c_left]; split <;> omega
theorem c_left_mono {pl0 : Nat → Nat} {T T' : Nat → Bool} (h : ∀ v, T v = true → T' v = true) : ∀ k, c_left pl0 T' k ≤ c_left pl0 T k := by
  intro k
  induction k with
  | zero => exact Nat.le_refl 0
  | succ k ih =>
    simp only [c_left]
    by_cases h1 : f_oth (pl0 k) = true ∧ T (pl0 k) = false
    · rw [if_pos h1]; split <;> omega
    · rw [if_neg h1]
      rw [if_neg (fun h2 => h1 ⟨h2.1, by
        cases e : T (pl0 k) with
        | false => rfl
        | true => rw [h _ e] at h2; cases h2.2⟩)]
      omega
theorem c_left_lt {pl0 : Nat → Nat} {T T' : Nat → Bool} {v q : Nat} (h : ∀ v, T v = true → T' v = true) (hv : f_oth v = true) (h1 : T v = false) (h2 : T' v = true) (e : pl0 q = v) : ∀ {k : Nat}, q < k → c_left pl0 T' k < c_left pl0 T k := by
  intro k
  induction k with
  | zero => intro h3; omega
  | succ k ih =>
    intro h3
    simp only [c_left]
    by_cases hq : q = k
    · subst hq
      have := c_left_mono (pl0 := pl0) h q
      rw [e, if_neg (show ¬ (f_oth v = true ∧ T' v = false) from fun h4 => by rw [h2] at h4; cases h4.2), if_pos (show f_oth v = true ∧ T v = false from ⟨hv, h1⟩)]
      omega
    · have := ih (by omega)
      by_cases h4 : f_oth (pl0 k) = true ∧ T' (pl0 k) = false
      · rw [if_pos h4, if_pos ⟨h4.1, by
          cases e : T (pl0 k) with
          | false => rfl
          | true => rw [h _ e] at h4; cases h4.2⟩]
        omega
      · rw [if_neg h4]; split <;> omega
/-- nm, pl, n are the first form's atoms with T freed, and T is freed of need -/
def c_red (S : Nat × Nat × Nat → Prop) (T : Nat → Bool) (nm pl : Nat → Nat) (n : Nat) : Prop := c_ok T ∧ c_set nm pl n = c_img T S ∧ ∀ T', c_ok T' → c_clo S T' → ∀ v, T v = true → T' v = true
theorem c_phi_0 (x : Nat × Nat × Nat) : c_phi (fun _ => false) x = x := by
  unfold c_phi c_f
  simp
theorem c_red_0 (nm pl : Nat → Nat) (n : Nat) : c_red (c_set nm pl n) (fun _ => false) nm pl n := by
  refine ⟨fun v h => (by cases h), ?_, fun T' _ _ v h => (by cases h)⟩
  funext y
  refine propext ⟨fun h => ⟨y, h, c_phi_0 y⟩, fun ⟨x, h, e⟩ => by rw [c_phi_0] at e; rw [← e]; exact h⟩
theorem c_set_eq {nm pl nm1 pl1 : Nat → Nat} {n n1 : Nat} (h : f_set nm pl n nm1 pl1 n1) : c_set nm pl n = c_set nm1 pl1 n1 := funext fun y => propext (h y)
theorem c_red_set {S : Nat × Nat × Nat → Prop} {T : Nat → Bool} {nm pl nm1 pl1 : Nat → Nat} {n n1 : Nat} (h : c_red S T nm pl n) (hs : f_set nm pl n nm1 pl1 n1) : c_red S T nm1 pl1 n1 := ⟨h.1, (c_set_eq hs).symm.trans h.2.1, h.2.2⟩
theorem c_cnt_ex {pl : Nat → Nat} {v m : Nat} (h : 0 < f_cnt pl v m) : ∃ j, j < m ∧ pl j = v := by
  rcases Classical.em (∃ j, j < m ∧ pl j = v) with h1 | h1
  · exact h1
  · have : ∀ k, k ≤ m → f_cnt pl v k = 0 := by
      intro k
      induction k with
      | zero => intro _; rfl
      | succ k ih => intro hk; simp only [f_cnt]; rw [ih (by omega), if_neg (fun e => h1 ⟨k, by omega, e⟩)]
    rw [this m (Nat.le_refl m)] at h; omega
theorem c_var_pl {nm pl : Nat → Nat} {n v : Nat} : c_var (c_set nm pl n) v ↔ ∃ j, j < 2 * n ∧ pl j = v := by
  constructor
  · rintro ⟨y, ⟨j, hj, e⟩, h⟩
    rw [← e] at h
    rcases h with h | h
    · exact ⟨2 * j, by omega, h⟩
    · exact ⟨2 * j + 1, by omega, h⟩
  · rintro ⟨j, hj, e⟩
    refine ⟨f_at nm pl (j / 2), ⟨j / 2, by omega, rfl⟩, ?_⟩
    rcases (show j % 2 = 0 ∨ j % 2 = 1 by omega) with h | h
    · left; show pl (2 * (j / 2)) = v; rw [show 2 * (j / 2) = j by omega]; exact e
    · right; show pl (2 * (j / 2) + 1) = v; rw [show 2 * (j / 2) + 1 = j by omega]; exact e
theorem c_f_ne {T : Nat → Bool} {a v : Nat} (h6 : v ≠ 6) (h : c_f T a = v) : a = v ∧ T v = false := by
  unfold c_f at h
  cases e : T a with
  | true => rw [if_pos e] at h; exact absurd h.symm h6
  | false => rw [if_neg (by rw [e]; decide)] at h; rw [← h]; exact ⟨rfl, e⟩
theorem c_oth6 {v : Nat} (h : f_oth v = true) : v ≠ 6 := fun e => by rw [e] at h; exact absurd h (by decide)
/-- a variable that stands in the freed form stands in the first, and is not freed -/
theorem c_var_img {S : Nat × Nat × Nat → Prop} {T : Nat → Bool} {v : Nat} (h6 : v ≠ 6) (h : c_var (c_img T S) v) : c_var S v ∧ T v = false := by
  obtain ⟨y, ⟨x, hx, e⟩, h1⟩ := h
  rw [← e] at h1
  rcases h1 with h1 | h1
  · have := c_f_ne h6 h1; exact ⟨⟨x, hx, Or.inl this.1⟩, this.2⟩
  · have := c_f_ne h6 h1; exact ⟨⟨x, hx, Or.inr this.1⟩, this.2⟩
def c_add (T : Nat → Bool) (L : Nat → Bool) : Nat → Bool := fun v => T v || L v
theorem c_f_add {T L : Nat → Bool} (h6 : L 6 = false) (a : Nat) : c_f L (c_f T a) = c_f (c_add T L) a := by
  unfold c_f c_add
  cases e : T a with
  | true => simp [h6]
  | false => simp
/-- freeing lone variables L keeps it -/
theorem c_red_add {S : Nat × Nat × Nat → Prop} {T L : Nat → Bool} {nm pl pl1 : Nat → Nat} {n : Nat} (h : c_red S T nm pl n) (hn : f_ndi nm pl n n) (hL : ∀ v, L v = true → f_oth v = true ∧ f_cnt pl v (2 * n) = 1) (hp : ∀ j, j < 2 * n → pl1 j = c_f L (pl j)) : c_red S (c_add T L) nm pl1 n := by
  obtain ⟨h1, h2, h3⟩ := h
  have h6 : L 6 = false := by
    cases e : L 6 with
    | false => rfl
    | true => exact absurd (hL 6 e).1 (by decide)
  have hat : ∀ j, j < n → f_at nm pl1 j = c_phi L (f_at nm pl j) := fun j hj => by
    unfold f_at c_phi
    rw [hp _ (by omega), hp _ (by omega)]
  refine ⟨fun v hv => ?_, ?_, fun T' ok' clo' v hv => ?_⟩
  · unfold c_add at hv
    rw [Bool.or_eq_true] at hv
    rcases hv with hv | hv
    · exact h1 v hv
    · exact (hL v hv).1
  · have hph : ∀ x, c_phi L (c_phi T x) = c_phi (c_add T L) x := fun x => by
      unfold c_phi
      simp only [c_f_add h6]
    funext y
    refine propext ⟨fun ⟨j, hj, e⟩ => ?_, fun ⟨x, hx, e⟩ => ?_⟩
    · have h4 : c_img T S (f_at nm pl j) := by rw [← h2]; exact ⟨j, hj, rfl⟩
      obtain ⟨x, hx, ex⟩ := h4
      refine ⟨x, hx, ?_⟩
      rw [← hph, ex, ← hat j hj]; exact e
    · have h4 : c_set nm pl n (c_phi T x) := by rw [h2]; exact ⟨x, hx, rfl⟩
      obtain ⟨j, hj, ej⟩ := h4
      refine ⟨j, hj, ?_⟩
      rw [hat j hj, ej, hph]; exact e
  · unfold c_add at hv
    rw [Bool.or_eq_true] at hv
    rcases hv with hv | hv
    · exact h3 T' ok' clo' v hv
    · have hc := hL v hv
      cases e : T v with
      | true => exact h3 T' ok' clo' v e
      | false =>
        refine c_step ok' (h3 T' ok' clo') clo' hc.1 e ?_
        rw [← h2]
        exact (c_lone_cnt hn).mpr hc.2
theorem c_red_fin {S : Nat × Nat × Nat → Prop} {T : Nat → Bool} {nm pl : Nat → Nat} {n : Nat} (h : c_red S T nm pl n) (hn : f_ndi nm pl n n) (hl : ∀ v, f_oth v = true → f_cnt pl v (2 * n) ≠ 1) : c_fin S T := by
  obtain ⟨h1, h2, h3⟩ := h
  refine ⟨h1, fun v hv hT hc => ?_, h3⟩
  rw [← h2] at hc
  exact hl v hv ((c_lone_cnt hn).mp hc)
theorem c_red_left {nm0 pl0 : Nat → Nat} {n0 : Nat} {T L : Nat → Bool} {nm pl : Nat → Nat} {n v : Nat} (h : c_red (c_set nm0 pl0 n0) T nm pl n) (hv : f_oth v = true) (hc : 0 < f_cnt pl v (2 * n)) (hL : L v = true) : c_left pl0 (c_add T L) (2 * n0) < c_left pl0 T (2 * n0) := by
  obtain ⟨j, hj, e⟩ := c_cnt_ex hc
  have h4 : c_var (c_set nm pl n) v := c_var_pl.mpr ⟨j, hj, e⟩
  rw [h.2.1] at h4
  obtain ⟨h5, h6⟩ := c_var_img (c_oth6 hv) h4
  obtain ⟨q, hq, eq⟩ := c_var_pl.mp h5
  exact c_left_lt (fun u hu => by unfold c_add; rw [hu]; rfl) hv h6 (by unfold c_add; rw [hL]; simp) eq hq
/-- the class's rounds -/
def c_rnd (nm0 pl0 : Nat → Nat) (n0 : Nat) (nm pl : Nat → Nat) (n : Nat) (ch : Bool) (r : Nat) : Prop := ∃ T, c_red (c_set nm0 pl0 n0) T nm pl n ∧ (ch = true → r + c_left pl0 T (2 * n0) ≤ 8) ∧ (ch = false → c_fin (c_set nm0 pl0 n0) T ∧ f_ndi nm pl n n)
theorem c_rnd_0 {nm pl : Nat → Nat} {n : Nat} (hn : n ≤ 4) : c_rnd nm pl n nm pl n true 0 := ⟨_, c_red_0 nm pl n, fun _ => by have := c_left_le pl (fun _ => false) (2 * n); omega, fun h => by cases h⟩
theorem c_rnd_s {nm0 pl0 nm pl nm1 pl1 pl2 : Nat → Nat} {n0 n n1 r : Nat} {b : Bool} (h : c_rnd nm0 pl0 n0 nm pl n true r) (hs : f_set nm pl n nm1 pl1 n1) (hnd : f_ndi nm1 pl1 n1 n1) (hb : b = true ↔ f_anyl pl1 (2 * n1) (2 * n1)) (hf : f_frd pl1 (2 * n1) (2 * n1) pl2) : c_rnd nm0 pl0 n0 nm1 pl2 n1 b (r + 1) := by
  obtain ⟨T, h1, h2, _⟩ := h
  have h2 := h2 rfl
  have h1 := c_red_set h1 hs
  let L : Nat → Bool := fun v => f_oth v && decide (f_cnt pl1 v (2 * n1) = 1)
  have hL : ∀ v, L v = true ↔ f_oth v = true ∧ f_cnt pl1 v (2 * n1) = 1 := fun v => by
    show (f_oth v && decide (f_cnt pl1 v (2 * n1) = 1)) = true ↔ _
    rw [Bool.and_eq_true, decide_eq_true_eq]
  have hp : ∀ j, j < 2 * n1 → pl2 j = c_f L (pl1 j) := fun j hj => by
    unfold c_f
    by_cases hq : L (pl1 j) = true
    · rw [if_pos hq]; exact (hf j).1 ⟨hj, (hL _).mp hq⟩
    · rw [if_neg hq]; exact (hf j).2 (fun h3 => hq ((hL _).mpr h3.2))
  refine ⟨c_add T L, c_red_add h1 hnd (fun v hv => (hL v).mp hv) hp, fun hbt => ?_, fun hbf => ?_⟩
  · have hle : c_left pl0 (c_add T L) (2 * n0) ≤ c_left pl0 T (2 * n0) := c_left_mono (fun v hv => by unfold c_add; rw [hv]; rfl) _
    obtain ⟨j, hj, ho, hc⟩ := hb.mp hbt
    have := c_red_left (L := L) h1 ho (by omega) ((hL _).mpr ⟨ho, hc⟩)
    omega
  · have h3 : ¬ f_anyl pl1 (2 * n1) (2 * n1) := fun h4 => by rw [hb.mpr h4] at hbf; cases hbf
    have e : pl2 = pl1 := by
      funext j
      exact (hf j).2 (fun h4 => h3 ⟨j, h4⟩)
    have hn0 : ∀ v, f_oth v = true → f_cnt pl1 v (2 * n1) ≠ 1 := fun v hv hc => by
      obtain ⟨j, hj, ej⟩ := c_cnt_ex (show 0 < f_cnt pl1 v (2 * n1) by omega)
      exact h3 ⟨j, hj, by rw [ej]; exact hv, by rw [ej]; exact hc⟩
    have e2 : c_add T L = T := by
      funext v
      unfold c_add
      have : L v = false := by
        cases eL : L v with
        | false => rfl
        | true => exact absurd ((hL v).mp eL).2 (hn0 v ((hL v).mp eL).1)
      rw [this, Bool.or_false]
    rw [e2]
    subst e
    exact ⟨c_red_fin h1 hnd hn0, hnd⟩
/-- at rest: T is freed, no atom stands twice, no lone variable is left -/
def c_rest (S : Nat × Nat × Nat → Prop) (nm pl : Nat → Nat) (n : Nat) : Prop := ∃ T, c_fin S T ∧ c_set nm pl n = c_img T S ∧ f_ndi nm pl n n ∧ ∀ v, f_oth v = true → f_cnt pl v (2 * n) ≠ 1
theorem c_rest_of {S : Nat × Nat × Nat → Prop} {T : Nat → Bool} {nm pl : Nat → Nat} {n : Nat} (h : c_red S T nm pl n) (hf : c_fin S T) (hn : f_ndi nm pl n n) : c_rest S nm pl n := by
  refine ⟨T, hf, h.2.1, hn, fun v hv hc => ?_⟩
  have hl := (c_lone_cnt hn).mpr hc
  obtain ⟨j, hj, ej⟩ := c_cnt_ex (show 0 < f_cnt pl v (2 * n) by omega)
  have h4 : c_var (c_set nm pl n) v := c_var_pl.mpr ⟨j, hj, ej⟩
  rw [h.2.1] at h4 hl
  exact hf.2.1 v hv (c_var_img (c_oth6 hv) h4).2 hl
theorem c_rnd_end {nm0 pl0 nm pl : Nat → Nat} {n0 n r : Nat} {ch : Bool} (h : c_rnd nm0 pl0 n0 nm pl n ch r) (hx : ch = false ∨ 9 ≤ r) : c_rest (c_set nm0 pl0 n0) nm pl n := by
  obtain ⟨T, h1, h2, h3⟩ := h
  have hc : ch = false := by
    cases e : ch with
    | false => rfl
    | true =>
      rcases hx with hx | hx
      · rw [e] at hx; exact hx
      · have := h2 e; omega
  exact c_rest_of h1 (h3 hc).1 (h3 hc).2
/-- no five variables stand twice each in four atoms -/
theorem c_five {pl : Nat → Nat} {os : Nat → Nat} (hd : ∀ a b, a < b → b < 5 → os a ≠ os b) : ∀ m, f_cnt pl (os 0) m + f_cnt pl (os 1) m + f_cnt pl (os 2) m + f_cnt pl (os 3) m + f_cnt pl (os 4) m ≤ m := by
  intro m
  induction m with
  | zero => exact Nat.le_refl 0
  | succ m ih =>
    simp only [f_cnt]
    have h01 := hd 0 1 (by omega) (by omega)
    have h02 := hd 0 2 (by omega) (by omega)
    have h03 := hd 0 3 (by omega) (by omega)
    have h04 := hd 0 4 (by omega) (by omega)
    have h12 := hd 1 2 (by omega) (by omega)
    have h13 := hd 1 3 (by omega) (by omega)
    have h14 := hd 1 4 (by omega) (by omega)
    have h23 := hd 2 3 (by omega) (by omega)
    have h24 := hd 2 4 (by omega) (by omega)
    have h34 := hd 3 4 (by omega) (by omega)
    repeat' split
    all_goals omega
theorem c_gath {nm pl os : Nat → Nat} {n k : Nat} (hn : n ≤ 4) (hl : ∀ v, f_oth v = true → f_cnt pl v (2 * n) ≠ 1) (h : f_gath pl os (2 * n) k) : c_oth (c_set nm pl n) os k := by
  obtain ⟨h1, h2, h3, h4⟩ := h
  refine ⟨fun a ha => ⟨(h2 a ha).1, c_var_pl.mpr (h2 a ha).2⟩, h3, fun v hv ho => ?_⟩
  obtain ⟨j, hj, e⟩ := c_var_pl.mp hv
  rcases Nat.lt_or_ge k 4 with hk | hk
  · rw [← e]; exact h4 hk j hj (by rw [e]; exact ho)
  · have hk4 : k = 4 := by omega
    subst hk4
    rcases Classical.em (∃ a, a < 4 ∧ os a = v) with h5 | h5
    · exact h5
    · exfalso
      have hd : ∀ a b, a < b → b < 5 → va_up os 4 v a ≠ va_up os 4 v b := fun a b hab hb => by
        rw [up_n _ _ (show a ≠ 4 by omega)]
        by_cases hb4 : b = 4
        · rw [hb4, up_s]; exact fun e => h5 ⟨a, by omega, e⟩
        · rw [up_n _ _ hb4]; exact h3 a b hab (by omega)
      have h6 := c_five (pl := pl) hd (2 * n)
      have h7 : ∀ a, a < 4 → 2 ≤ f_cnt pl (os a) (2 * n) := fun a ha => by
        obtain ⟨q, hq, eq⟩ := (h2 a ha).2
        have := f_cnt_pos hq eq
        have := hl _ (h2 a ha).1
        omega
      have h8 := f_cnt_pos hj e
      have h9 := hl v ho
      rw [up_n _ _ (show (0 : Nat) ≠ 4 by omega), up_n _ _ (show (1 : Nat) ≠ 4 by omega), up_n _ _ (show (2 : Nat) ≠ 4 by omega), up_n _ _ (show (3 : Nat) ≠ 4 by omega), up_s] at h6
      have := h7 0 (by omega)
      have := h7 1 (by omega)
      have := h7 2 (by omega)
      have := h7 3 (by omega)
      omega
theorem c_rowof_mk {nm pl nd cd : Nat → Nat} {n : Nat} {jn : Bool} (hn : n ≤ 4) (hnd : f_ndi nm pl n n) (hs : f_srt (f_code nm pl nd) cd n) : c_rowof (c_set nm pl n) jn nd (f_row jn n cd) := ⟨n, nm, pl, cd, hn, fun _ => Iff.rfl, hnd, hs, rfl⟩
theorem c_can_of {S : Nat × Nat × Nat → Prop} {nm pl : Nat → Nat} {n w : Nat} {jn : Bool} (h : c_rest S nm pl n) (hc : c_canR (c_set nm pl n) jn w) : c_can S jn w := by
  obtain ⟨T, h1, h2, _⟩ := h
  exact ⟨T, h1, by rw [← h2]; exact hc⟩
