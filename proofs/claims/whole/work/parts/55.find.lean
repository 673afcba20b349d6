/-! What is found: things for the variables -/
def s_fact (mb tg : Nat → Nat) (x a b : Nat) : Prop := a < 12 ∧ b < 12 ∧ if x < 32 then (mb x).testBit a = true else (tg ((x - 32) * 12 + a)).testBit b = true
def s_fok (tg sr sta en : Nat → Nat) : Prop := ∀ r, r < 8 → (∀ a b, a < 12 → b < 12 → (sr (r * 12 + b)).testBit a = (tg (r * 12 + a)).testBit b) ∧ (∀ a, a < 12 → ((sta r).testBit a = true ↔ ∃ b, b < 12 ∧ (tg (r * 12 + a)).testBit b = true)) ∧ ∀ b, b < 12 → ((en r).testBit b = true ↔ ∃ a, a < 12 ∧ (tg (r * 12 + a)).testBit b = true)
theorem s_bit_pos {y : Nat} (h : y < 4096) : 0 < y ↔ ∃ a, a < 12 ∧ y.testBit a = true := by
  constructor
  · intro h0
    obtain ⟨a, ha⟩ := Nat.exists_testBit_of_ne_zero (show y ≠ 0 by omega)
    exact ⟨a, bit_lt h ha, ha⟩
  · rintro ⟨a, _, ha⟩
    rcases Nat.eq_zero_or_pos y with h1 | h1
    · rw [h1, Nat.zero_testBit] at ha; cases ha
    · exact h1
/-- each atom alone is a fact with the things that are chosen by now -/
def s_at (mb tg nm pl : Nat → Nat) (tv : Nat → Option Nat) (i : Nat) : Prop := ∃ t1 t2, s_fact mb tg (nm i) t1 t2 ∧ (∀ u, f_th tv (pl (2 * i)) = some u → u = t1) ∧ (32 ≤ nm i → ∀ u, f_th tv (pl (2 * i + 1)) = some u → u = t2)
def s_part (mb tg nm pl : Nat → Nat) (n : Nat) (tv : Nat → Option Nat) : Prop := ∀ i, i < n → s_at mb tg nm pl tv i
theorem f_th_up {tv : Nat → Option Nat} {v t w : Nat} (hv : v < 6) : f_th (va_up tv v (some t)) w = if w = v then some t else f_th tv w := by
  unfold f_th
  by_cases h : w = v
  · rw [if_pos h, if_pos (by omega), h, up_s]
  · rw [if_neg h, up_n _ _ h]
/-- a thing for a variable that has none yet fits just if each atom is still a fact -/
theorem s_fit {mb tg sr sta en nm pl : Nat → Nat} {tv : Nat → Option Nat} {v i t : Nat} (hok : s_fok tg sr sta en) (hnm : nm i < 10 ∨ 32 ≤ nm i ∧ nm i < 40) (hcl : nm i < 32 → pl (2 * i + 1) = 7) (hth : ∀ j k, tv j = some k → k < 12) (hv : v < 6) (hn : tv v = none) (ht : t < 12) (h0 : s_at mb tg nm pl tv i) : f_fit nm pl mb tg sr sta en tv v i t = true ↔ s_at mb tg nm pl (va_up tv v (some t)) i := by
  have hth2 : ∀ {w u : Nat}, f_th tv w = some u → u < 12 := fun h => f_th_lt hth h
  have hvn : f_th tv v = none := by unfold f_th; rw [if_pos hv, hn]
  unfold f_fit
  by_cases c0 : nm i < 32
  · rw [if_pos c0]
    have h7 := hcl c0
    by_cases c1 : pl (2 * i) = v
    · rw [if_pos c1]
      constructor
      · intro h
        refine ⟨t, 0, ⟨ht, by decide, by rw [if_pos c0]; exact h⟩, fun u hu => ?_, fun h1 => by omega⟩
        rw [f_th_up hv, if_pos c1] at hu; exact (Option.some.inj hu).symm
      · rintro ⟨t1, t2, ⟨_, _, hf⟩, h1, _⟩
        rw [if_pos c0] at hf
        have := h1 t (by rw [f_th_up hv, if_pos c1])
        rw [this]; exact hf
    · rw [if_neg c1]
      refine ⟨fun _ => ?_, fun _ => rfl⟩
      obtain ⟨t1, t2, hf, h1, h2⟩ := h0
      exact ⟨t1, t2, hf, fun u hu => h1 u (by rw [f_th_up hv, if_neg c1] at hu; exact hu), fun h3 => by omega⟩
  · rw [if_neg c0]
    have hr : nm i - 32 < 8 := by omega
    obtain ⟨k1, k2, k3⟩ := hok (nm i - 32) hr
    by_cases c1 : pl (2 * i) = v ∧ pl (2 * i + 1) = v
    · rw [if_pos c1]
      constructor
      · intro h
        refine ⟨t, t, ⟨ht, ht, by rw [if_neg c0]; exact h⟩, fun u hu => ?_, fun _ u hu => ?_⟩
        · rw [f_th_up hv, if_pos c1.1] at hu; exact (Option.some.inj hu).symm
        · rw [f_th_up hv, if_pos c1.2] at hu; exact (Option.some.inj hu).symm
      · rintro ⟨t1, t2, ⟨_, _, hf⟩, h1, h2⟩
        rw [if_neg c0] at hf
        have e1 := h1 t (by rw [f_th_up hv, if_pos c1.1])
        have e2 := h2 (by omega) t (by rw [f_th_up hv, if_pos c1.2])
        rw [← e1, ← e2] at hf; exact hf
    · rw [if_neg c1]
      by_cases c2 : pl (2 * i) = v
      · rw [if_pos c2]
        have c3 : pl (2 * i + 1) ≠ v := fun h => c1 ⟨c2, h⟩
        unfold f_alt
        cases e : f_th tv (pl (2 * i + 1)) with
        | none =>
          show (sta (nm i - 32)).testBit t = true ↔ _
          rw [k2 t ht]
          constructor
          · rintro ⟨b, hb, h⟩
            refine ⟨t, b, ⟨ht, hb, by rw [if_neg c0]; exact h⟩, fun u hu => ?_, fun _ u hu => ?_⟩
            · rw [f_th_up hv, if_pos c2] at hu; exact (Option.some.inj hu).symm
            · rw [f_th_up hv, if_neg c3, e] at hu; cases hu
          · rintro ⟨t1, t2, ⟨_, h12, hf⟩, h1, _⟩
            rw [if_neg c0] at hf
            have := h1 t (by rw [f_th_up hv, if_pos c2])
            exact ⟨t2, h12, by rw [this]; exact hf⟩
        | some u =>
          have hu := hth2 e
          show (sr ((nm i - 32) * 12 + u)).testBit t = true ↔ _
          rw [k1 t u ht hu]
          constructor
          · intro h
            refine ⟨t, u, ⟨ht, hu, by rw [if_neg c0]; exact h⟩, fun w hw => ?_, fun _ w hw => ?_⟩
            · rw [f_th_up hv, if_pos c2] at hw; exact (Option.some.inj hw).symm
            · rw [f_th_up hv, if_neg c3, e] at hw; exact (Option.some.inj hw).symm
          · rintro ⟨t1, t2, ⟨_, h12, hf⟩, h1, h2⟩
            rw [if_neg c0] at hf
            have e1 := h1 t (by rw [f_th_up hv, if_pos c2])
            have e2 := h2 (by omega) u (by rw [f_th_up hv, if_neg c3]; exact e)
            rw [e1, e2]; exact hf
      · rw [if_neg c2]
        by_cases c3 : pl (2 * i + 1) = v
        · rw [if_pos c3]
          unfold f_alt
          cases e : f_th tv (pl (2 * i)) with
          | none =>
            show (en (nm i - 32)).testBit t = true ↔ _
            rw [k3 t ht]
            constructor
            · rintro ⟨a, ha, h⟩
              refine ⟨a, t, ⟨ha, ht, by rw [if_neg c0]; exact h⟩, fun u hu => ?_, fun _ u hu => ?_⟩
              · rw [f_th_up hv, if_neg c2, e] at hu; cases hu
              · rw [f_th_up hv, if_pos c3] at hu; exact (Option.some.inj hu).symm
            · rintro ⟨t1, t2, ⟨h11, _, hf⟩, _, h2⟩
              rw [if_neg c0] at hf
              have := h2 (by omega) t (by rw [f_th_up hv, if_pos c3])
              exact ⟨t1, h11, by rw [this]; exact hf⟩
          | some u =>
            have hu := hth2 e
            show (tg ((nm i - 32) * 12 + u)).testBit t = true ↔ _
            constructor
            · intro h
              refine ⟨u, t, ⟨hu, ht, by rw [if_neg c0]; exact h⟩, fun w hw => ?_, fun _ w hw => ?_⟩
              · rw [f_th_up hv, if_neg c2, e] at hw; exact (Option.some.inj hw).symm
              · rw [f_th_up hv, if_pos c3] at hw; exact (Option.some.inj hw).symm
            · rintro ⟨t1, t2, ⟨_, h12, hf⟩, h1, h2⟩
              rw [if_neg c0] at hf
              have e1 := h1 u (by rw [f_th_up hv, if_neg c2]; exact e)
              have e2 := h2 (by omega) t (by rw [f_th_up hv, if_pos c3])
              rw [e1, e2]; exact hf
        · rw [if_neg c3]
          refine ⟨fun _ => ?_, fun _ => rfl⟩
          obtain ⟨t1, t2, hf, h1, h2⟩ := h0
          exact ⟨t1, t2, hf, fun u hu => h1 u (by rw [f_th_up hv, if_neg c2] at hu; exact hu), fun h3 u hu => h2 h3 u (by rw [f_th_up hv, if_neg c3] at hu; exact hu)⟩
def s_form (nm pl : Nat → Nat) (n : Nat) : Prop := n ≤ 4 ∧ (∀ i, i < n → (nm i < 10 ∨ 32 ≤ nm i ∧ nm i < 40) ∧ (nm i < 32 → pl (2 * i + 1) = 7)) ∧ (∀ j, j < 2 * n → pl j < 8) ∧ (∀ i, i < n → pl (2 * i) ≠ 7 ∧ (32 ≤ nm i → pl (2 * i + 1) ≠ 7)) ∧ ∀ u v, 2 ≤ u → u < v → v < 6 → 0 < f_cnt pl v (2 * n) → 0 < f_cnt pl u (2 * n)
theorem s_fits {mb tg sr sta en nm pl : Nat → Nat} {tv : Nat → Option Nat} {v n t : Nat} (hok : s_fok tg sr sta en) (hf : s_form nm pl n) (hth : ∀ j k, tv j = some k → k < 12) (hv : v < 6) (hn : tv v = none) (ht : t < 12) (h0 : s_part mb tg nm pl n tv) : (∀ i, i < n → f_fit nm pl mb tg sr sta en tv v i t = true) ↔ s_part mb tg nm pl n (va_up tv v (some t)) :=
  ⟨fun h i hi => (s_fit hok (hf.2.1 i hi).1 (hf.2.1 i hi).2 hth hv hn ht (h0 i hi)).mp (h i hi), fun h i hi => (s_fit hok (hf.2.1 i hi).1 (hf.2.1 i hi).2 hth hv hn ht (h0 i hi)).mpr (h i hi)⟩
/-- all atoms are facts by these things -/
def s_hold (mb tg nm pl : Nat → Nat) (n : Nat) (th : Nat → Nat) : Prop := ∀ i, i < n → ∃ t1 t2, s_fact mb tg (nm i) t1 t2 ∧ (pl (2 * i) ≠ 6 → th (pl (2 * i)) = t1) ∧ (32 ≤ nm i → pl (2 * i + 1) ≠ 6 → th (pl (2 * i + 1)) = t2)
def s_ext (tv : Nat → Option Nat) (th : Nat → Nat) : Prop := ∀ v u, v < 6 → tv v = some u → th v = u
theorem s_hold_part {mb tg nm pl : Nat → Nat} {n : Nat} {th : Nat → Nat} {tv : Nat → Option Nat} (h : s_hold mb tg nm pl n th) (he : s_ext tv th) : s_part mb tg nm pl n tv := by
  intro i hi
  obtain ⟨t1, t2, hf, h1, h2⟩ := h i hi
  have hth : ∀ w u, f_th tv w = some u → w < 6 ∧ tv w = some u := fun w u h => by
    unfold f_th at h
    split at h
    · exact ⟨by omega, h⟩
    · cases h
  refine ⟨t1, t2, hf, fun u hu => ?_, fun h3 u hu => ?_⟩
  · obtain ⟨a, b⟩ := hth _ _ hu
    rw [← he _ _ a b]; exact h1 (by omega)
  · obtain ⟨a, b⟩ := hth _ _ hu
    rw [← he _ _ a b]; exact h2 h3 (by omega)
theorem s_part_hold {mb tg nm pl : Nat → Nat} {n : Nat} {tv : Nat → Option Nat} (hf : s_form nm pl n) (h : s_part mb tg nm pl n tv) (hb : ∀ v, v < 6 → 0 < f_cnt pl v (2 * n) → tv v ≠ none) : s_hold mb tg nm pl n (fun v => (tv v).getD 0) := by
  intro i hi
  obtain ⟨t1, t2, hff, h1, h2⟩ := h i hi
  have key : ∀ j, j < 2 * n → pl j ≠ 6 → pl j ≠ 7 → f_th tv (pl j) = some ((tv (pl j)).getD 0) := fun j hj h6 h7 => by
    have h8 := hf.2.2.1 j hj
    have hlt : pl j < 6 := by omega
    have hne := hb (pl j) hlt (f_cnt_pos hj rfl)
    unfold f_th
    rw [if_pos hlt]
    cases e : tv (pl j) with
    | none => exact absurd e hne
    | some u => rfl
  have h7 := hf.2.2.2.1 i hi
  exact ⟨t1, t2, hff, fun h6 => h1 _ (key _ (by omega) h6 h7.1), fun h3 h6 => h2 h3 _ (key _ (by omega) h6 (h7.2 h3))⟩
theorem s_ext_up {tv : Nat → Option Nat} {th : Nat → Nat} {v : Nat} (h : s_ext tv th) : s_ext (va_up tv v (some (th v))) th := by
  intro w u hw e
  by_cases hwv : w = v
  · rw [hwv, up_s] at e; rw [hwv]; exact Option.some.inj e
  · rw [up_n _ _ hwv] at e; exact h w u hw e
theorem s_ext_dn {tv : Nat → Option Nat} {th : Nat → Nat} {v : Nat} {o : Option Nat} (h : s_ext (va_up tv v o) th) (hn : tv v = none) : s_ext tv th := by
  intro w u hw e
  by_cases hwv : w = v
  · rw [hwv, hn] at e; cases e
  · exact h w u hw (by rw [up_n _ _ hwv]; exact e)
theorem s_hold_lt {mb tg nm pl : Nat → Nat} {n : Nat} {th : Nat → Nat} (hf : s_form nm pl n) (h : s_hold mb tg nm pl n th) {v : Nat} (hv : v < 6) (hc : 0 < f_cnt pl v (2 * n)) : th v < 12 := by
  obtain ⟨j, hj, e⟩ := c_cnt_ex hc
  obtain ⟨t1, t2, ⟨a1, a2, _⟩, h1, h2⟩ := h (j / 2) (by omega)
  rcases (show j % 2 = 0 ∨ j % 2 = 1 by omega) with h0 | h0
  · rw [show 2 * (j / 2) = j by omega, e] at h1
    rw [h1 (by omega)]; exact a1
  · rw [show 2 * (j / 2) + 1 = j by omega, e] at h2
    have h32 : 32 ≤ nm (j / 2) := by
      rcases (hf.2.1 (j / 2) (by omega)).1 with h3 | h3
      · have := (hf.2.1 (j / 2) (by omega)).2 (by omega)
        rw [show 2 * (j / 2) + 1 = j by omega, e] at this; omega
      · exact h3.1
    rw [h2 h32 (by omega)]; exact a2
/-- what the class's search by variables finds -/
theorem s_comp {mb tg sr sta en nm pl : Nat → Nat} {n : Nat} (hok : s_fok tg sr sta en) (hf : s_form nm pl n) : ∀ (d v : Nat) (tv : Nat → Option Nat), v + d = 6 → 2 ≤ v → (∀ j k, tv j = some k → k < 12) → (∀ w, v ≤ w → tv w = none) → (∀ w, w < v → 0 < f_cnt pl w (2 * n) → tv w ≠ none) → s_part mb tg nm pl n tv → (f_comp nm pl mb tg sr sta en n d v tv ↔ ∃ th, s_ext tv th ∧ s_hold mb tg nm pl n th) := by
  intro d
  induction d with
  | zero =>
    intro v tv hv h2 hth hn hb hp
    refine ⟨fun _ => ⟨fun v => (tv v).getD 0, fun w u hw e => by show (tv w).getD 0 = u; rw [e]; rfl, s_part_hold hf hp (fun w hw => hb w (by omega))⟩, fun _ => trivial⟩
  | succ d ih =>
    intro v tv hv h2 hth hn hb hp
    simp only [f_comp]
    constructor
    · rintro (h | ⟨t, ht, hfit, hc⟩)
      · refine ⟨fun v => (tv v).getD 0, fun w u hw e => by show (tv w).getD 0 = u; rw [e]; rfl, s_part_hold hf hp (fun w hw hcw => ?_)⟩
        rcases Nat.lt_or_ge w v with h3 | h3
        · exact hb w h3 hcw
        · exfalso
          by_cases hwv : w = v
          · rw [hwv] at hcw; omega
          · have := hf.2.2.2.2 v w h2 (by omega) hw hcw; omega
      · have hp2 := (s_fits hok hf hth (by omega) (hn v (Nat.le_refl v)) ht hp).mp hfit
        obtain ⟨th, h3, h4⟩ := (ih (v + 1) (va_up tv v (some t)) (by omega) (by omega) (up_olt hth ht) (fun w hw => by rw [up_n _ _ (by omega)]; exact hn w (by omega)) (fun w hw hcw => by
          by_cases hwv : w = v
          · rw [hwv, up_s]; simp
          · rw [up_n _ _ hwv]; exact hb w (by omega) hcw) hp2).mp hc
        exact ⟨th, s_ext_dn h3 (hn v (Nat.le_refl v)), h4⟩
    · rintro ⟨th, h3, h4⟩
      by_cases hc : f_cnt pl v (2 * n) = 0
      · exact Or.inl hc
      · have ht := s_hold_lt hf h4 (show v < 6 by omega) (by omega)
        have h5 := s_ext_up (v := v) h3
        have hp2 := s_hold_part h4 h5
        refine Or.inr ⟨th v, ht, (s_fits hok hf hth (by omega) (hn v (Nat.le_refl v)) ht hp).mpr hp2, ?_⟩
        exact (ih (v + 1) (va_up tv v (some (th v))) (by omega) (by omega) (up_olt hth ht) (fun w hw => by rw [up_n _ _ (by omega)]; exact hn w (by omega)) (fun w hw hcw => by
          by_cases hwv : w = v
          · rw [hwv, up_s]; simp
          · rw [up_n _ _ hwv]; exact hb w (by omega) hcw) hp2).mpr ⟨th, h5, h4⟩
theorem s_ne {mb tg sr sta en nm pl : Nat → Nat} {n : Nat} (hmb : ∀ j, mb j < 4096) (hsta : ∀ j, sta j < 4096) (hok : s_fok tg sr sta en) (hf : s_form nm pl n) : (∀ i, i < n → f_ne nm mb sta i) ↔ s_part mb tg nm pl n (fun _ => none) := by
  have hno : ∀ w u, f_th (fun _ => none) w = some u → False := fun w u h => by
    unfold f_th at h; split at h <;> cases h
  refine ⟨fun h i hi => ?_, fun h i hi => ?_⟩
  · have h1 := h i hi
    unfold f_ne at h1
    by_cases c : nm i < 32
    · rw [if_pos c] at h1
      obtain ⟨a, ha, hb⟩ := (s_bit_pos (hmb _)).mp h1
      exact ⟨a, 0, ⟨ha, by decide, by rw [if_pos c]; exact hb⟩, fun u hu => (hno _ _ hu).elim, fun _ u hu => (hno _ _ hu).elim⟩
    · rw [if_neg c] at h1
      obtain ⟨a, ha, hb⟩ := (s_bit_pos (hsta _)).mp h1
      have hr : nm i - 32 < 8 := by have := (hf.2.1 i hi).1; omega
      obtain ⟨b, hb2, hb3⟩ := ((hok _ hr).2.1 a ha).mp hb
      exact ⟨a, b, ⟨ha, hb2, by rw [if_neg c]; exact hb3⟩, fun u hu => (hno _ _ hu).elim, fun _ u hu => (hno _ _ hu).elim⟩
  · obtain ⟨t1, t2, ⟨a1, a2, hff⟩, _, _⟩ := h i hi
    unfold f_ne
    by_cases c : nm i < 32
    · rw [if_pos c] at hff ⊢
      exact (s_bit_pos (hmb _)).mpr ⟨t1, a1, hff⟩
    · rw [if_neg c] at hff ⊢
      have hr : nm i - 32 < 8 := by have := (hf.2.1 i hi).1; omega
      exact (s_bit_pos (hsta _)).mpr ⟨t1, a1, ((hok _ hr).2.1 t1 a1).mpr ⟨t2, a2, hff⟩⟩
/-- what a form of row r finds: the meaning -/
def s_find (mb tg : Nat → Nat) (an r j : Nat) : Prop := ∃ th, s_hold mb tg (d_nm r) (d_pl r) (d_n r) th ∧ (if an = 0 then j = 0 else f_cok (d_pl r) (d_n r) an (d_j r) ∧ j = 16 * th 0 + (if an = 2 then (if d_j r = true then th 0 else th 1) else 0))
theorem s_finds {mb tg sr sta en : Nat → Nat} {an r j : Nat} (hmb : ∀ j, mb j < 4096) (hsta : ∀ j, sta j < 4096) (hok : s_fok tg sr sta en) (hf : s_form (d_nm r) (d_pl r) (d_n r)) (hv0 : an = 0 → f_cnt (d_pl r) 0 (2 * d_n r) = 0) (hv1 : ¬ (an = 2 ∧ d_j r = false) → f_cnt (d_pl r) 1 (2 * d_n r) = 0) (hj2 : d_j r = true → an = 2) : f_finds mb tg sr sta en an r j ↔ s_find mb tg an r j := by
  unfold f_finds s_find
  rw [s_ne hmb hsta hok hf]
  have hno : ∀ j k, (fun _ : Nat => (none : Option Nat)) j = some k → k < 12 := fun j k h => by cases h
  by_cases h0 : an = 0
  · rw [if_pos h0]
    simp only [if_pos h0]
    have e1 := hv0 h0
    have e2 := hv1 (by omega)
    constructor
    · rintro ⟨hp, hj, hc⟩
      obtain ⟨th, _, h4⟩ := (s_comp hok hf 4 2 (fun _ => none) rfl (by omega) hno (fun _ _ => rfl) (fun w hw hcw => by
        rcases (show w = 0 ∨ w = 1 by omega) with rfl | rfl <;> omega) hp).mp hc
      exact ⟨th, h4, hj⟩
    · rintro ⟨th, h4, hj⟩
      have hp := s_hold_part (tv := fun _ => none) h4 (fun v u _ h => by cases h)
      exact ⟨hp, hj, (s_comp hok hf 4 2 (fun _ => none) rfl (by omega) hno (fun _ _ => rfl) (fun w hw hcw => by
        rcases (show w = 0 ∨ w = 1 by omega) with rfl | rfl <;> omega) hp).mpr ⟨th, fun v u _ h => (by cases h), h4⟩⟩
  · rw [if_neg h0]
    simp only [if_neg h0]
    unfold f_col f_sec
    have hp1 : ∀ (b : Nat) (tv : Nat → Option Nat), f_cnt (d_pl r) 1 (2 * d_n r) = 0 → s_part mb tg (d_nm r) (d_pl r) (d_n r) tv → s_part mb tg (d_nm r) (d_pl r) (d_n r) (va_up tv 1 (some b)) := fun b tv hc hp i hi => by
      obtain ⟨t1, t2, hff, g1, g2⟩ := hp i hi
      have hne : ∀ j, j < 2 * d_n r → d_pl r j ≠ 1 := fun j hj e => by have := f_cnt_pos hj e; omega
      exact ⟨t1, t2, hff, fun u hu => g1 u (by rw [f_th_up (by decide), if_neg (hne _ (by omega))] at hu; exact hu), fun h3 u hu => g2 h3 u (by rw [f_th_up (by decide), if_neg (hne _ (by omega))] at hu; exact hu)⟩
    have ht2 : ∀ {a b}, a < 12 → b < 12 → ∀ j k, f_t2 a b j = some k → k < 12 := fun ha hb => f_t2_lt ha hb
    have hbd : ∀ a b w, w < 2 → 0 < f_cnt (d_pl r) w (2 * d_n r) → f_t2 a b w ≠ none := fun a b w hw _ => by
      rcases (show w = 0 ∨ w = 1 by omega) with rfl | rfl
      · rw [f_t2, up_n _ _ (by decide), f_tt, up_s]; simp
      · rw [f_t2, up_s]; simp
    constructor
    · rintro ⟨hp, ha, hb, hck, hfit, hsec, hc⟩
      have hpa := (s_fits hok hf hno (by decide) rfl ha hp).mp hfit
      have hpb : s_part mb tg (d_nm r) (d_pl r) (d_n r) (f_t2 (j / 16) (j % 16)) := by
        by_cases h2 : an = 2 ∧ d_j r = false
        · rw [if_pos h2] at hsec
          exact (s_fits hok hf (up_olt hno ha) (by decide) (up_n _ _ (by decide)) hb hpa).mp hsec
        · exact hp1 _ _ (hv1 h2) hpa
      obtain ⟨th, h3, h4⟩ := (s_comp hok hf 4 2 (f_t2 (j / 16) (j % 16)) rfl (by omega) (ht2 ha hb) (fun w hw => f_t2_n hw) (hbd _ _) hpb).mp hc
      have e0 := h3 0 (j / 16) (by decide) (by rw [f_t2, up_n _ _ (by decide), f_tt, up_s])
      have e1 := h3 1 (j % 16) (by decide) (by rw [f_t2, up_s])
      refine ⟨th, h4, hck, ?_⟩
      rw [e0, e1]
      by_cases h2 : an = 2
      · rw [if_pos h2]
        cases hjn : d_j r with
        | true =>
          rw [if_neg (by rw [hjn]; simp), hjn] at hsec
          simp only [if_true] at hsec ⊢
          omega
        | false => simp only [Bool.false_eq_true, if_false]; omega
      · rw [if_neg h2]
        rw [if_neg (by omega)] at hsec
        have : d_j r = false := by
          cases hjn : d_j r with
          | false => rfl
          | true => exact absurd (hj2 hjn) h2
        rw [this] at hsec
        simp only [Bool.false_eq_true, if_false] at hsec
        omega
    · rintro ⟨th, h4, hck, hj⟩
      have l0 := s_hold_lt hf h4 (show 0 < 6 by decide) hck.1
      obtain ⟨b, hb, hjb, hsb⟩ : ∃ b, b < 12 ∧ j = 16 * th 0 + b ∧ (if an = 2 ∧ d_j r = false then b = th 1 else b = if d_j r = true then th 0 else 0) := by
        by_cases h2 : an = 2
        · rw [if_pos h2] at hj
          cases hjn : d_j r with
          | true =>
            rw [hjn] at hj
            exact ⟨th 0, l0, by simpa using hj, by simp⟩
          | false =>
            rw [hjn] at hj
            exact ⟨th 1, s_hold_lt hf h4 (by decide) (hck.2 ⟨h2, hjn⟩), by simpa using hj, by simp [h2]⟩
        · rw [if_neg h2] at hj
          have : d_j r = false := by
            cases hjn : d_j r with
            | false => rfl
            | true => exact absurd (hj2 hjn) h2
          exact ⟨0, by decide, hj, by simp [this, h2]⟩
      have e16 : j / 16 = th 0 := by omega
      have e1 : j % 16 = b := by omega
      rw [e16, e1]
      have hp := s_hold_part (tv := fun _ => none) h4 (fun v u _ h => by cases h)
      have x0 : s_ext (f_tt (th 0)) th := s_ext_up (fun v u _ h => by cases h)
      have hpa := s_hold_part h4 x0
      have hfit := (s_fits hok hf hno (by decide) rfl l0 hp).mpr hpa
      have hpb : s_part mb tg (d_nm r) (d_pl r) (d_n r) (f_t2 (th 0) b) ∧ (if an = 2 ∧ d_j r = false then ∀ i, i < d_n r → f_fit (d_nm r) (d_pl r) mb tg sr sta en (f_tt (th 0)) 1 i b = true else b = if d_j r = true then th 0 else 0) ∧ ∃ th', s_ext (f_t2 (th 0) b) th' ∧ s_hold mb tg (d_nm r) (d_pl r) (d_n r) th' := by
        by_cases h2 : an = 2 ∧ d_j r = false
        · rw [if_pos h2] at hsb ⊢
          subst hsb
          have x1 : s_ext (f_t2 (th 0) (th 1)) th := s_ext_up x0
          have hp2 := s_hold_part h4 x1
          exact ⟨hp2, (s_fits hok hf (up_olt hno l0) (by decide) (up_n _ _ (by decide)) hb hpa).mpr hp2, th, x1, h4⟩
        · rw [if_neg h2] at hsb ⊢
          have hp2 := hp1 b _ (hv1 h2) hpa
          refine ⟨hp2, hsb, va_up th 1 b, fun w u hw e => ?_, fun i hi => ?_⟩
          · by_cases hw1 : w = 1
            · rw [hw1, f_t2, up_s] at e; rw [hw1, up_s]; exact Option.some.inj e
            · rw [f_t2, up_n _ _ hw1] at e; rw [up_n _ _ hw1]; exact x0 w u hw e
          · obtain ⟨t1, t2, hff, g1, g2⟩ := h4 i hi
            have hne : ∀ j, j < 2 * d_n r → d_pl r j ≠ 1 := fun j hj e => by have := f_cnt_pos hj e; have := hv1 h2; omega
            exact ⟨t1, t2, hff, fun h6 => by rw [up_n _ _ (hne _ (by omega))]; exact g1 h6, fun h3 h6 => by rw [up_n _ _ (hne _ (by omega))]; exact g2 h3 h6⟩
      exact ⟨hp, l0, hb, hck, hfit, hpb.2.1, (s_comp hok hf 4 2 (f_t2 (th 0) b) rfl (by omega) (ht2 l0 hb) (fun w hw => f_t2_n hw) (hbd _ _) hpb.1).mpr hpb.2.2⟩
