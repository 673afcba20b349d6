theorem d_row {jn : Bool} {n : Nat} {cd : Nat → Nat} (hn : n ≤ 4) (hc : ∀ j, j < n → cd j < 4096) : d_n (f_row jn n cd) = n ∧ d_j (f_row jn n cd) = jn ∧ (∀ i, i < n → d_cd (f_row jn n cd) i = cd i) ∧ f_row jn n cd < 2 ^ 52 := by
  have hj : ∃ h, (h = 0 ∨ h = 1) ∧ (if jn = true then 8 else 0) = 8 * h ∧ jn = decide (h = 1) := by
    cases jn with
    | true => exact ⟨1, Or.inr rfl, rfl, rfl⟩
    | false => exact ⟨0, Or.inl rfl, rfl, rfl⟩
  obtain ⟨h, hh, e1, e2⟩ := hj
  rcases (show n = 0 ∨ n = 1 ∨ n = 2 ∨ n = 3 ∨ n = 4 by omega) with rfl | rfl | rfl | rfl | rfl
  · simp only [f_row, f_rowb, e1, d_n, d_j, d_cd]
    refine ⟨by omega, ?_, fun i hi => by omega, by omega⟩
    rw [e2, decide_eq_decide]; omega
  · have h0 := hc 0 (by omega)
    simp only [f_row, f_rowb, e1, d_n, d_j, d_cd]
    refine ⟨by omega, ?_, fun i hi => ?_, by omega⟩
    · rw [e2, decide_eq_decide]; omega
    · have : i = 0 := by omega
      subst this; omega
  · have h0 := hc 0 (by omega)
    have h1 := hc 1 (by omega)
    simp only [f_row, f_rowb, e1, d_n, d_j, d_cd]
    refine ⟨by omega, ?_, fun i hi => ?_, by omega⟩
    · rw [e2, decide_eq_decide]; omega
    · rcases (show i = 0 ∨ i = 1 by omega) with rfl | rfl <;> omega
  · have h0 := hc 0 (by omega)
    have h1 := hc 1 (by omega)
    have h2 := hc 2 (by omega)
    simp only [f_row, f_rowb, e1, d_n, d_j, d_cd]
    refine ⟨by omega, ?_, fun i hi => ?_, by omega⟩
    · rw [e2, decide_eq_decide]; omega
    · rcases (show i = 0 ∨ i = 1 ∨ i = 2 by omega) with rfl | rfl | rfl <;> omega
  · have h0 := hc 0 (by omega)
    have h1 := hc 1 (by omega)
    have h2 := hc 2 (by omega)
    have h3 := hc 3 (by omega)
    simp only [f_row, f_rowb, e1, d_n, d_j, d_cd]
    refine ⟨by omega, ?_, fun i hi => ?_, by omega⟩
    · rw [e2, decide_eq_decide]; omega
    · rcases (show i = 0 ∨ i = 1 ∨ i = 2 ∨ i = 3 by omega) with rfl | rfl | rfl | rfl <;> omega
theorem d_row_sz {jn : Bool} {n : Nat} {cd : Nat → Nat} (hn : n ≤ 4) (hc : ∀ j, j < n → cd j < 4096) : f_row jn n cd / 2 ^ 48 % 8 = n := by
  have hj : ∃ h, (h = 0 ∨ h = 1) ∧ (if jn = true then 8 else 0) = 8 * h := by
    cases jn with
    | true => exact ⟨1, Or.inr rfl, rfl⟩
    | false => exact ⟨0, Or.inl rfl, rfl⟩
  obtain ⟨h, hh, e1⟩ := hj
  rcases (show n = 0 ∨ n = 1 ∨ n = 2 ∨ n = 3 ∨ n = 4 by omega) with rfl | rfl | rfl | rfl | rfl
  · simp only [f_row, f_rowb, e1]; omega
  · have h0 := hc 0 (by omega)
    simp only [f_row, f_rowb, e1]; omega
  · have h0 := hc 0 (by omega)
    have h1 := hc 1 (by omega)
    simp only [f_row, f_rowb, e1]; omega
  · have h0 := hc 0 (by omega)
    have h1 := hc 1 (by omega)
    have h2 := hc 2 (by omega)
    simp only [f_row, f_rowb, e1]; omega
  · have h0 := hc 0 (by omega)
    have h1 := hc 1 (by omega)
    have h2 := hc 2 (by omega)
    have h3 := hc 3 (by omega)
    simp only [f_row, f_rowb, e1]; omega
theorem f_row_inj {jn jn' : Bool} {n n' : Nat} {cd cd' : Nat → Nat} (hn : n ≤ 4) (hc : ∀ j, j < n → cd j < 4096) (hn' : n' ≤ 4) (hc' : ∀ j, j < n' → cd' j < 4096) : f_row jn n cd = f_row jn' n' cd' ↔ jn = jn' ∧ n = n' ∧ ∀ j, j < n → cd j = cd' j := by
  have h1 := d_row (jn := jn) hn hc
  have h2 := d_row (jn := jn') hn' hc'
  constructor
  · intro e
    rw [e] at h1
    refine ⟨h1.2.1.symm.trans h2.2.1, h1.1.symm.trans h2.1, fun j hj => ?_⟩
    have e2 : n = n' := h1.1.symm.trans h2.1
    rw [← h1.2.2.1 j hj, ← h2.2.2.1 j (by omega)]
  · rintro ⟨e1, e2, e3⟩
    subst e1; subst e2
    unfold f_row
    rw [f_rowb_cg e3]
/-- a variable that a form of a question of hc answers may have -/
def c_vok (hc : Nat) (jn : Bool) (v : Nat) : Prop := v ≠ 7 ∧ (v = 0 → 0 < hc) ∧ (v = 1 → hc = 2 ∧ jn = false)
def c_aok (hc : Nat) (jn : Bool) (y : Nat × Nat × Nat) : Prop := (y.1 < 10 ∧ y.2.2 = 7 ∨ 32 ≤ y.1 ∧ y.1 < 40 ∧ c_vok hc jn y.2.2) ∧ c_vok hc jn y.2.1
def c_fok (hc : Nat) (jn : Bool) (nm pl : Nat → Nat) (n : Nat) : Prop := n ≤ 4 ∧ hc ≤ 2 ∧ (jn = true → hc = 2) ∧ ∀ j, j < n → c_aok hc jn (f_at nm pl j)
/-- the others are named without a gap -/
def c_ctg (w : Nat) : Prop := ∀ u v, 2 ≤ u → u < v → v < 6 → 0 < f_cnt (d_pl w) v (2 * d_n w) → 0 < f_cnt (d_pl w) u (2 * d_n w)
def c_rok (hc : Nat) (w : Nat) : Prop := w < 2 ^ 52 ∧ c_fok hc (d_j w) (d_nm w) (d_pl w) (d_n w) ∧ (∀ j, j < 2 * d_n w → d_pl w j < 8) ∧ c_ctg w ∧ w / 2 ^ 48 % 8 ≤ 4
theorem c_vok6 (hc : Nat) (jn : Bool) : c_vok hc jn 6 := ⟨by decide, fun h => (by cases h), fun h => (by cases h)⟩
theorem c_vok_oth {hc : Nat} {jn : Bool} {v : Nat} (h : f_oth v = true) : c_vok hc jn v := by
  simp only [f_oth, decide_eq_true_eq] at h
  exact ⟨by omega, fun h => (by omega), fun h => (by omega)⟩
theorem c_vok_f {hc : Nat} {jn : Bool} {T : Nat → Bool} {v : Nat} (h : c_vok hc jn v) : c_vok hc jn (c_f T v) := by
  unfold c_f
  split
  · exact c_vok6 hc jn
  · exact h
theorem c_aok_phi {hc : Nat} {jn : Bool} {T : Nat → Bool} (hT : c_ok T) {y : Nat × Nat × Nat} (h : c_aok hc jn y) : c_aok hc jn (c_phi T y) := by
  obtain ⟨h1, h2⟩ := h
  refine ⟨?_, c_vok_f h2⟩
  rcases h1 with h1 | h1
  · refine Or.inl ⟨h1.1, ?_⟩
    show c_f T y.2.2 = 7
    rw [h1.2]; unfold c_f
    cases e : T 7 with
    | false => rfl
    | true => exact absurd (hT 7 e) (by decide)
  · exact Or.inr ⟨h1.1, h1.2.1, c_vok_f h1.2.2⟩
/-- a naming keeps what a variable is -/
def c_nok (nd : Nat → Nat) (v : Nat) : Prop := nd v < 8 ∧ (nd v = 0 → v = 0) ∧ (nd v = 1 → v = 1) ∧ (nd v = 7 ↔ v = 7) ∧ (nd v = 6 ↔ v = 6)
theorem c_nok_of {R : Nat × Nat × Nat → Prop} {os nd : Nat → Nat} {k v : Nat} (hk : k ≤ 4) (ho : c_oth R os k) (hn : c_nam nd os k) (hv : c_var R v) : c_nok nd v := by
  obtain ⟨⟨a0, a1, a6, a7⟩, h1, _⟩ := hn
  by_cases h : f_oth v = true
  · obtain ⟨a, ha, e⟩ := ho.2.2 v hv h
    have := h1 a ha
    rw [e] at this
    simp only [f_oth, decide_eq_true_eq] at h
    exact ⟨by omega, by omega, by omega, by omega, by omega⟩
  · have h2 : v = 0 ∨ v = 1 ∨ v = 6 ∨ v = 7 := by
      simp only [f_oth, decide_eq_true_eq] at h
      omega
    rcases h2 with rfl | rfl | rfl | rfl <;> (refine ⟨?_, ?_, ?_, ?_, ?_⟩ <;> omega)
theorem c_nok_vok {hc : Nat} {jn : Bool} {nd : Nat → Nat} {v : Nat} (h : c_nok nd v) (hv : c_vok hc jn v) : c_vok hc jn (nd v) := by
  obtain ⟨h1, h2, h3, h4, h5⟩ := h
  obtain ⟨w1, w2, w3⟩ := hv
  exact ⟨fun e => w1 (h4.mp e), fun e => w2 (h2 e), fun e => w3 (h3 e)⟩
theorem c_nam_sur {os nd : Nat → Nat} {k u : Nat} (hn : c_nam nd os k) (h2 : 2 ≤ u) (hu : u < 2 + k) : ∃ a, a < k ∧ nd (os a) = u := by
  rcases Classical.em (∃ a, a < k ∧ nd (os a) = u) with h | h
  · exact h
  · exfalso
    have hnd : (u :: cq_of (fun a => nd (os a)) k).Nodup := by
      rw [List.nodup_cons]
      exact ⟨fun hm => h (cq_mem.mp hm), cq_nd hn.2.2⟩
    have hsub : (u :: cq_of (fun a => nd (os a)) k) ⊆ cq_of (fun a => 2 + a) k := by
      intro x hx
      rw [List.mem_cons] at hx
      rcases hx with hx | hx
      · exact cq_mem.mpr ⟨u - 2, by omega, by omega⟩
      · obtain ⟨a, ha, e⟩ := cq_mem.mp hx
        have := hn.2.1 a ha
        have e : nd (os a) = x := e
        exact cq_mem.mpr ⟨x - 2, by omega, by omega⟩
    have := hnd.length_le_of_subset hsub
    rw [List.length_cons, cq_len, cq_len] at this
    omega
theorem c_srt_ex {f g : Nat → Nat} {n i : Nat} (h : f_srt f g n) (hi : i < n) : ∃ j, j < n ∧ f j = g i := by
  have h1 := f_cnt_pos (pl := g) hi rfl
  rw [h.2] at h1
  exact c_cnt_ex h1
theorem d_at {w i : Nat} : f_at (d_nm w) (d_pl w) i = (d_cd w i / 64, d_cd w i / 8 % 8, d_cd w i % 8) := by
  unfold f_at d_nm d_pl
  rw [if_pos (by omega), if_neg (by omega), show 2 * i / 2 = i by omega, show (2 * i + 1) / 2 = i by omega]
/-- the row's form is the named one -/
theorem c_code_at {hc : Nat} {jn : Bool} {nd : Nat → Nat} {y : Nat × Nat × Nat} (hy : c_aok hc jn y) (h1 : c_nok nd y.2.1) (h2 : c_nok nd y.2.2) : c_code nd y < 4096 ∧ (c_code nd y / 64, c_code nd y / 8 % 8, c_code nd y % 8) = (y.1, nd y.2.1, nd y.2.2) := by
  have := h1.1
  have := h2.1
  obtain ⟨h3, _⟩ := hy
  unfold c_code
  refine ⟨by omega, ?_⟩
  simp only [Prod.mk.injEq]
  omega
theorem c_can_rok {hc : Nat} {jn : Bool} {nm pl : Nat → Nat} {n w : Nat} (h : c_can (c_set nm pl n) jn w) (hf : c_fok hc jn nm pl n) : c_rok hc w ∧ d_j w = jn := by
  obtain ⟨T, hT, os, k, hk, ho, ⟨nd, hn, n', nm', pl', cd, hn4, hR, hnd, hs, e⟩, _⟩ := h
  obtain ⟨f1, f2, f3, f4⟩ := hf
  have ha : ∀ j, j < n' → c_aok hc jn (f_at nm' pl' j) ∧ c_nok nd (pl' (2 * j)) ∧ c_nok nd (pl' (2 * j + 1)) := by
    intro j hj
    have h1 : c_img T (c_set nm pl n) (f_at nm' pl' j) := (hR _).mpr ⟨j, hj, rfl⟩
    have h2 := h1
    obtain ⟨x, ⟨q, hq, ex⟩, e2⟩ := h1
    refine ⟨?_, c_nok_of hk ho hn ⟨_, h2, Or.inl rfl⟩, c_nok_of hk ho hn ⟨_, h2, Or.inr rfl⟩⟩
    rw [← e2, ← ex]
    exact c_aok_phi hT.1 (f4 q hq)
  have hcd : ∀ i, i < n' → ∃ j, j < n' ∧ cd i = c_code nd (f_at nm' pl' j) := fun i hi => by
    obtain ⟨j, hj, ej⟩ := c_srt_ex hs hi
    exact ⟨j, hj, ej.symm⟩
  have hlt : ∀ i, i < n' → cd i < 4096 := fun i hi => by
    obtain ⟨j, hj, ej⟩ := hcd i hi
    rw [ej]; exact (c_code_at (ha j hj).1 (ha j hj).2.1 (ha j hj).2.2).1
  obtain ⟨r1, r2, r3, r4⟩ := d_row (jn := jn) hn4 hlt
  rw [← e] at r1 r2 r3 r4
  have hat : ∀ i, i < n' → ∃ j, j < n' ∧ f_at (d_nm w) (d_pl w) i = (nm' j, nd (pl' (2 * j)), nd (pl' (2 * j + 1))) := fun i hi => by
    obtain ⟨j, hj, ej⟩ := hcd i hi
    refine ⟨j, hj, ?_⟩
    rw [d_at, r3 i hi, ej]
    exact (c_code_at (ha j hj).1 (ha j hj).2.1 (ha j hj).2.2).2
  have hbk : ∀ j, j < n' → ∃ i, i < n' ∧ f_at (d_nm w) (d_pl w) i = (nm' j, nd (pl' (2 * j)), nd (pl' (2 * j + 1))) := fun j hj => by
    have h1 := f_cnt_pos (pl := f_code nm' pl' nd) hj rfl
    rw [← hs.2] at h1
    obtain ⟨i, hi, ei⟩ := c_cnt_ex h1
    refine ⟨i, hi, ?_⟩
    rw [d_at, r3 i hi, ei]
    exact (c_code_at (ha j hj).1 (ha j hj).2.1 (ha j hj).2.2).2
  have hocc : ∀ u, 0 < f_cnt (d_pl w) u (2 * n') ↔ ∃ q, q < 2 * n' ∧ nd (pl' q) = u := fun u => by
    constructor
    · intro hu
      obtain ⟨q, hq, eq⟩ := c_cnt_ex hu
      obtain ⟨j, hj, ej⟩ := hat (q / 2) (by omega)
      unfold f_at at ej
      simp only [Prod.mk.injEq] at ej
      rcases (show q % 2 = 0 ∨ q % 2 = 1 by omega) with h0 | h0
      · rw [show 2 * (q / 2) = q by omega] at ej
        exact ⟨2 * j, by omega, by rw [← ej.2.1]; exact eq⟩
      · rw [show 2 * (q / 2) + 1 = q by omega] at ej
        exact ⟨2 * j + 1, by omega, by rw [← ej.2.2]; exact eq⟩
    · rintro ⟨q, hq, eq⟩
      obtain ⟨i, hi, ei⟩ := hbk (q / 2) (by omega)
      unfold f_at at ei
      simp only [Prod.mk.injEq] at ei
      rcases (show q % 2 = 0 ∨ q % 2 = 1 by omega) with h0 | h0
      · rw [show 2 * (q / 2) = q by omega] at ei
        exact f_cnt_pos (show 2 * i < 2 * n' by omega) (by rw [ei.2.1]; exact eq)
      · rw [show 2 * (q / 2) + 1 = q by omega] at ei
        exact f_cnt_pos (show 2 * i + 1 < 2 * n' by omega) (by rw [ei.2.2]; exact eq)
  have hRc : c_img T (c_set nm pl n) = c_set nm' pl' n' := funext fun y => propext (hR y)
  refine ⟨⟨r4, ⟨by rw [r1]; exact hn4, f2, by rw [r2]; exact f3, fun i hi => ?_⟩, fun j hj => ?_, fun u v hu huv hv hcv => ?_, by rw [e, d_row_sz hn4 hlt]; exact hn4⟩, r2⟩
  · rw [r1] at hi
    obtain ⟨j, hj, ej⟩ := hat i hi
    rw [ej, r2]
    obtain ⟨⟨g1, g2⟩, g3, g4⟩ := ha j hj
    refine ⟨?_, c_nok_vok g3 g2⟩
    rcases g1 with g1 | g1
    · exact Or.inl ⟨g1.1, g4.2.2.2.1.mpr g1.2⟩
    · exact Or.inr ⟨g1.1, g1.2.1, c_nok_vok g4 g1.2.2⟩
  · unfold d_pl; split <;> omega
  · rw [r1] at hcv ⊢
    obtain ⟨q, hq, eq⟩ := (hocc v).mp hcv
    have hvar : c_var (c_img T (c_set nm pl n)) (pl' q) := by rw [hRc]; exact c_var_pl.mpr ⟨q, hq, rfl⟩
    have ho1 : f_oth (pl' q) = true := by
      obtain ⟨⟨a0, a1, a6, a7⟩, _⟩ := hn
      cases e : f_oth (pl' q) with
      | true => rfl
      | false =>
        have h2 : pl' q = 0 ∨ pl' q = 1 ∨ pl' q = 6 ∨ pl' q = 7 := by
          simp only [f_oth, decide_eq_false_iff_not] at e
          omega
        rcases h2 with h2 | h2 | h2 | h2 <;> rw [h2] at eq <;> omega
    obtain ⟨a, ha1, ea⟩ := ho.2.2 _ hvar ho1
    have hlt := (hn.2.1 a ha1).2
    rw [ea, eq] at hlt
    obtain ⟨b, hb, eb⟩ := c_nam_sur hn hu (by omega)
    have hvb := (ho.1 b hb).2
    rw [hRc] at hvb
    obtain ⟨q2, hq2, eq2⟩ := c_var_pl.mp hvb
    exact (hocc u).mpr ⟨q2, hq2, by rw [eq2]; exact eb⟩
noncomputable def c_cn (S : Nat × Nat × Nat → Prop) (jn : Bool) : Nat := Classical.epsilon (fun w => c_can S jn w)
theorem c_cn_eq {S : Nat × Nat × Nat → Prop} {jn : Bool} {w : Nat} (h : c_can S jn w) : c_cn S jn = w := c_can_eq (Classical.epsilon_spec ⟨w, h⟩) h
theorem d_n_rok {hc r : Nat} (h : c_rok hc r) : d_n r = r / 2 ^ 48 % 8 := by
  have := h.2.2.2.2
  unfold d_n
  omega
