def cq_of {α : Type} (e : Nat → α) (n : Nat) : List α := (List.range n).map e
theorem cq_mem {α : Type} {e : Nat → α} {n : Nat} {x : α} : x ∈ cq_of e n ↔ ∃ j, j < n ∧ e j = x := by
  simp [cq_of]
theorem cq_s {α : Type} (e : Nat → α) (n : Nat) : cq_of e (n + 1) = cq_of e n ++ [e n] := by
  simp [cq_of, List.range_succ]
theorem cq_len {α : Type} (e : Nat → α) (n : Nat) : (cq_of e n).length = n := by simp [cq_of]
theorem cq_map {α β : Type} (f : α → β) (e : Nat → α) (n : Nat) : (cq_of e n).map f = cq_of (fun j => f (e j)) n := by simp [cq_of, Function.comp_def]
theorem cq_pw {α : Type} {r : α → α → Prop} {e : Nat → α} {n : Nat} (h : ∀ a b, a < b → b < n → r (e a) (e b)) : (cq_of e n).Pairwise r := by
  unfold cq_of
  rw [List.pairwise_map]
  refine List.Pairwise.imp_of_mem ?_ List.pairwise_lt_range
  intro a b ha hb hab
  exact h a b hab (List.mem_range.mp hb)
theorem cq_nd {α : Type} {e : Nat → α} {n : Nat} (h : ∀ a b, a < b → b < n → e a ≠ e b) : (cq_of e n).Nodup := cq_pw h
theorem cq_perm {α : Type} [DecidableEq α] {e e' : Nat → α} {n n' : Nat} (h : ∀ a b, a < b → b < n → e a ≠ e b) (h' : ∀ a b, a < b → b < n' → e' a ≠ e' b) (hs : ∀ x, (∃ j, j < n ∧ e j = x) ↔ ∃ j, j < n' ∧ e' j = x) : (cq_of e n).Perm (cq_of e' n') := by
  rw [List.perm_ext_iff_of_nodup (cq_nd h) (cq_nd h')]
  intro x
  rw [cq_mem, cq_mem]; exact hs x
theorem cq_cnt (g : Nat → Nat) (c : Nat) : ∀ n, f_cnt g c n = (cq_of g n).count c := by
  intro n
  induction n with
  | zero => rfl
  | succ n ih =>
    rw [cq_s, List.count_append, ← ih]
    simp only [f_cnt, List.count_singleton]
    by_cases h : g n = c
    · simp [h]
    · simp [h]
theorem cq_at {α : Type} {e e' : Nat → α} {n : Nat} (h : cq_of e n = cq_of e' n) : ∀ j, j < n → e j = e' j := by
  intro j hj
  have h2 := congrArg (fun l => l[j]?) h
  simpa [cq_of, hj] using h2
/-- sorted codes are one -/
theorem f_srt_eq {f f' g g' : Nat → Nat} {n : Nat} (h : f_srt f g n) (h' : f_srt f' g' n) (hc : ∀ c, f_cnt f c n = f_cnt f' c n) : ∀ j, j < n → g j = g' j := by
  refine cq_at ?_
  refine List.Perm.eq_of_pairwise (le := fun a b => a ≤ b) (fun a b _ _ h1 h2 => Nat.le_antisymm h1 h2) (cq_pw h.1) (cq_pw h'.1) ?_
  rw [List.perm_iff_count]
  intro c
  rw [← cq_cnt, ← cq_cnt, h.2, h'.2, hc]
theorem f_rowb_cg {jn : Bool} {n : Nat} {g g' : Nat → Nat} : ∀ {k}, (∀ j, j < k → g j = g' j) → f_rowb jn n g k = f_rowb jn n g' k := by
  intro k
  induction k with
  | zero => intro _; rfl
  | succ k ih => intro h; simp only [f_rowb]; rw [ih (fun j hj => h j (by omega)), h k (by omega)]
/-- a row's codes are its form's, named -/
def c_rowof (R : Nat × Nat × Nat → Prop) (jn : Bool) (nd : Nat → Nat) (w : Nat) : Prop := ∃ n nm pl cd, n ≤ 4 ∧ (∀ y, R y ↔ c_set nm pl n y) ∧ f_ndi nm pl n n ∧ f_srt (f_code nm pl nd) cd n ∧ w = f_row jn n cd
def c_var (R : Nat × Nat × Nat → Prop) (v : Nat) : Prop := ∃ y, R y ∧ (y.2.1 = v ∨ y.2.2 = v)
theorem f_ndi_inj {g1 g2 : Nat → Nat} {n : Nat} (h : f_ndi g1 g2 n n) : ∀ a b, a < b → b < n → f_at g1 g2 a ≠ f_at g1 g2 b := fun a b hab hb => h a b (by omega) hab hb
def c_code (nd : Nat → Nat) (y : Nat × Nat × Nat) : Nat := 64 * y.1 + 8 * nd y.2.1 + nd y.2.2
theorem c_rowof_eq {R : Nat × Nat × Nat → Prop} {jn : Bool} {nd nd' : Nat → Nat} {w w' : Nat} (h : c_rowof R jn nd w) (h' : c_rowof R jn nd' w') (hn : ∀ v, c_var R v → nd v = nd' v) : w = w' := by
  obtain ⟨n, nm, pl, cd, hn4, hR, hnd, hs, e⟩ := h
  obtain ⟨n', nm', pl', cd', hn4', hR', hnd', hs', e'⟩ := h'
  have hp : (cq_of (f_at nm pl) n).Perm (cq_of (f_at nm' pl') n') := cq_perm (f_ndi_inj hnd) (f_ndi_inj hnd') (fun x => by rw [← c_set, ← c_set, ← hR, ← hR'])
  have hl := hp.length_eq
  rw [cq_len, cq_len] at hl
  subst hl
  have hc : ∀ c, f_cnt (f_code nm pl nd) c n = f_cnt (f_code nm' pl' nd') c n := by
    intro c
    have e1 : cq_of (f_code nm pl nd) n = cq_of (f_code nm pl nd') n := by
      unfold cq_of
      refine List.map_congr_left (fun j hj => ?_)
      have hj := List.mem_range.mp hj
      have hy : R (f_at nm pl j) := (hR _).mpr ⟨j, hj, rfl⟩
      have e2 : nd (pl (2 * j)) = nd' (pl (2 * j)) := hn _ ⟨_, hy, Or.inl rfl⟩
      have e3 : nd (pl (2 * j + 1)) = nd' (pl (2 * j + 1)) := hn _ ⟨_, hy, Or.inr rfl⟩
      unfold f_code
      rw [e2, e3]
    have hq := (hp.map (c_code nd')).count_eq c
    rw [cq_map, cq_map] at hq
    rw [cq_cnt, cq_cnt, e1]
    exact hq
  have hcd := f_srt_eq hs hs' hc
  rw [e, e', f_row, f_row, f_rowb_cg hcd]
