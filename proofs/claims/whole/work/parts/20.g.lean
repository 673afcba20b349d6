def f_at (g1 g2 : Nat → Nat) (j : Nat) : Nat × Nat × Nat := (g1 j, g2 (2 * j), g2 (2 * j + 1))
theorem f_at_put (g1 g2 : Nat → Nat) (k x a b j : Nat) : f_at (va_up g1 k x) (f_put g2 k a b) j = if j = k then (x, a, b) else f_at g1 g2 j := by
  unfold f_at f_put
  by_cases h : j = k
  · subst h
    rw [if_pos rfl, up_s, up_n _ _ (show 2 * j ≠ 2 * j + 1 by omega), up_s, up_s]
  · rw [if_neg h, up_n _ _ h, up_n _ _ (show 2 * j ≠ 2 * k + 1 by omega), up_n _ _ (show 2 * j ≠ 2 * k by omega), up_n _ _ (show 2 * j + 1 ≠ 2 * k + 1 by omega), up_n _ _ (show 2 * j + 1 ≠ 2 * k by omega)]
theorem f_at_ne {g1 g2 : Nat → Nat} {i k : Nat} (h : ¬ (g1 i = g1 k ∧ g2 (2 * i) = g2 (2 * k) ∧ g2 (2 * i + 1) = g2 (2 * k + 1))) : f_at g1 g2 i ≠ f_at g1 g2 k := by
  intro e
  unfold f_at at e
  simp only [Prod.mk.injEq] at e
  exact h e
/-- the same atoms, as sets -/
def f_set (g1 g2 : Nat → Nat) (n : Nat) (h1 h2 : Nat → Nat) (k : Nat) : Prop := ∀ x, (∃ j, j < n ∧ f_at g1 g2 j = x) ↔ ∃ j, j < k ∧ f_at h1 h2 j = x
def f_ndi (g1 g2 : Nat → Nat) (i n : Nat) : Prop := ∀ a c, a < i → a < c → c < n → f_at g1 g2 a ≠ f_at g1 g2 c
theorem f_del_at {h1 h2 : Nat → Nat} {k z : Nat} (j : Nat) : f_at (va_up h1 k (h1 z)) (f_put h2 k (h2 (2 * z)) (h2 (2 * z + 1))) j = if j = k then f_at h1 h2 z else f_at h1 h2 j := f_at_put _ _ _ _ _ _ _
theorem f_del_set {g1 g2 h1 h2 : Nat → Nat} {n i k s : Nat} (h : f_set g1 g2 n h1 h2 s) (hik : i < k) (hk : k < s) (he : f_at h1 h2 i = f_at h1 h2 k) : f_set g1 g2 n (va_up h1 k (h1 (s - 1))) (f_put h2 k (h2 (2 * (s - 1))) (h2 (2 * (s - 1) + 1))) (s - 1) := by
  intro x
  rw [h x]
  constructor
  · rintro ⟨j, hj, e⟩
    by_cases hjk : j = k
    · exact ⟨i, by omega, by rw [f_del_at, if_neg (by omega), he, ← hjk]; exact e⟩
    · by_cases hjs : j = s - 1
      · exact ⟨k, by omega, by rw [f_del_at, if_pos rfl, ← hjs]; exact e⟩
      · exact ⟨j, by omega, by rw [f_del_at, if_neg hjk]; exact e⟩
  · rintro ⟨j, hj, e⟩
    rw [f_del_at] at e
    by_cases hjk : j = k
    · rw [if_pos hjk] at e; exact ⟨s - 1, by omega, e⟩
    · rw [if_neg hjk] at e; exact ⟨j, by omega, e⟩
theorem f_del_ndi {h1 h2 : Nat → Nat} {i k s : Nat} (h : f_ndi h1 h2 i s) (hik : i < k) (hk : k < s) : f_ndi (va_up h1 k (h1 (s - 1))) (f_put h2 k (h2 (2 * (s - 1))) (h2 (2 * (s - 1) + 1))) i (s - 1) := by
  intro a c ha hac hc
  rw [f_del_at, f_del_at, if_neg (show a ≠ k by omega)]
  by_cases hck : c = k
  · rw [if_pos hck]; exact h a (s - 1) ha (by omega) (by omega)
  · rw [if_neg hck]; exact h a c ha hac (by omega)
theorem f_del_i {h1 h2 : Nat → Nat} {i k s : Nat} (h : ∀ c, k < c → c < s → f_at h1 h2 i ≠ f_at h1 h2 c) (hik : i < k) (hk : k < s) : ∀ c, k - 1 < c → c < s - 1 → f_at (va_up h1 k (h1 (s - 1))) (f_put h2 k (h2 (2 * (s - 1))) (h2 (2 * (s - 1) + 1))) i ≠ f_at (va_up h1 k (h1 (s - 1))) (f_put h2 k (h2 (2 * (s - 1))) (h2 (2 * (s - 1) + 1))) c := by
  intro c hc1 hc2
  rw [f_del_at, f_del_at, if_neg (show i ≠ k by omega)]
  by_cases hck : c = k
  · rw [if_pos hck]; exact h (s - 1) (by omega) (by omega)
  · rw [if_neg hck]; exact h c (by omega) (by omega)
theorem f_keep_i {h1 h2 : Nat → Nat} {i k s : Nat} (h : ∀ c, k < c → c < s → f_at h1 h2 i ≠ f_at h1 h2 c) (hn : f_at h1 h2 i ≠ f_at h1 h2 k) (h0 : 0 < k) : ∀ c, k - 1 < c → c < s → f_at h1 h2 i ≠ f_at h1 h2 c := by
  intro c hc1 hc2
  by_cases hck : c = k
  · rw [hck]; exact hn
  · exact h c (by omega) hc2
theorem f_ndi_s {h1 h2 : Nat → Nat} {i k s : Nat} (h : f_ndi h1 h2 i s) (h3 : ∀ c, k < c → c < s → f_at h1 h2 i ≠ f_at h1 h2 c) (hk : k ≤ i) : f_ndi h1 h2 (i + 1) s := by
  intro a c ha hac hc
  by_cases hai : a = i
  · rw [hai]; exact h3 c (by omega) hc
  · exact h a c (by omega) hac hc
def f_unP (pl : Nat → Nat) (n i k sd : Nat) : Nat → Nat := if pl (2 * i + sd) = 6 then va_up pl (2 * i + sd) (pl (2 * k + sd)) else if pl (2 * k + sd) = 6 then va_up pl (2 * k + sd) (pl (2 * i + sd)) else if pl (2 * i + sd) = pl (2 * k + sd) then pl else f_ren pl (2 * n) (max (pl (2 * i + sd)) (pl (2 * k + sd))) (min (pl (2 * i + sd)) (pl (2 * k + sd)))
def f_unJ (pl : Nat → Nat) (i k sd : Nat) (jn : Bool) : Bool := if pl (2 * i + sd) = 6 then jn else if pl (2 * k + sd) = 6 then jn else if pl (2 * i + sd) = pl (2 * k + sd) then jn else (jn || decide (max (pl (2 * i + sd)) (pl (2 * k + sd)) = 1))
def f_unI (pl : Nat → Nat) (n i k : Nat) : Nat → Nat → Nat
  | 0 => pl
  | s + 1 => f_unP (f_unI pl n i k s) n i k s
def f_unK (pl : Nat → Nat) (n i k : Nat) (jn : Bool) : Nat → Bool
  | 0 => jn
  | s + 1 => f_unJ (f_unI pl n i k s) i k s (f_unK pl n i k jn s)
theorem f_ren_lt {pl : Nat → Nat} {k fr to b : Nat} (h : ∀ j, pl j < b) (ht : to < b) : ∀ j, f_ren pl k fr to j < b := by
  intro j
  unfold f_ren
  split
  · exact ht
  · exact h j
def f_oth (v : Nat) : Bool := decide (2 ≤ v ∧ v ≠ 6 ∧ v ≠ 7)
def f_lone (pl : Nat → Nat) (m j : Nat) : Prop := f_oth (pl j) = true ∧ f_cnt pl (pl j) m = 1
/-- the places with what stands once and is no answer as ANY, up to k -/
def f_frd (pl : Nat → Nat) (m k : Nat) (g : Nat → Nat) : Prop := ∀ j, (j < k ∧ f_lone pl m j → g j = 6) ∧ (¬ (j < k ∧ f_lone pl m j) → g j = pl j)
theorem f_frd_0 (pl : Nat → Nat) (m : Nat) : f_frd pl m 0 pl := fun j => ⟨fun h => by omega, fun _ => rfl⟩
theorem f_cnt_pos {pl : Nat → Nat} {v : Nat} : ∀ {m a : Nat}, a < m → pl a = v → 1 ≤ f_cnt pl v m := by
  intro m
  induction m with
  | zero => intro a h; omega
  | succ m ih =>
    intro a ha h
    simp only [f_cnt]
    by_cases hm : a = m
    · subst hm; rw [if_pos h]; omega
    · have := ih (show a < m by omega) h; omega
theorem f_cnt_two {pl : Nat → Nat} {v : Nat} : ∀ {m a b : Nat}, a < b → b < m → pl a = v → pl b = v → 2 ≤ f_cnt pl v m := by
  intro m
  induction m with
  | zero => intro a b _ h; omega
  | succ m ih =>
    intro a b hab hb ha hbv
    simp only [f_cnt]
    by_cases hm : b = m
    · subst hm; rw [if_pos hbv]; have := f_cnt_pos hab ha; omega
    · have := ih hab (show b < m by omega) ha hbv; omega
theorem f_cnt_iff {f g : Nat → Nat} {v : Nat} : ∀ {m : Nat}, (∀ j, j < m → (f j = v ↔ g j = v)) → f_cnt f v m = f_cnt g v m := by
  intro m
  induction m with
  | zero => intro _; rfl
  | succ m ih =>
    intro h
    simp only [f_cnt]
    rw [ih (fun j hj => h j (by omega))]
    by_cases hm : f m = v
    · rw [if_pos hm, if_pos ((h m (by omega)).mp hm)]
    · rw [if_neg hm, if_neg (fun h2 => hm ((h m (by omega)).mpr h2))]
theorem f_frd_cnt {pl g : Nat → Nat} {m i : Nat} (h : f_frd pl m i g) (hi : i < m) (ho : f_oth (pl i) = true) : f_cnt g (pl i) m = f_cnt pl (pl i) m := by
  refine f_cnt_iff (fun j hj => ⟨fun h1 => ?_, fun h1 => ?_⟩)
  · by_cases hq : j < i ∧ f_lone pl m j
    · rw [(h j).1 hq] at h1
      rw [← h1] at ho; exact absurd ho (by decide)
    · rw [(h j).2 hq] at h1; exact h1
  · by_cases hq : j < i ∧ f_lone pl m j
    · have h2 := f_cnt_two (m := m) hq.1 hi h1 rfl
      have h3 := hq.2.2
      rw [h1] at h3; omega
    · rw [(h j).2 hq]; exact h1
theorem f_frd_at {pl g : Nat → Nat} {m i : Nat} (h : f_frd pl m i g) : g i = pl i := (h i).2 (fun h1 => by omega)
theorem f_frd_t {pl g : Nat → Nat} {m i : Nat} (h : f_frd pl m i g) (hl : f_lone pl m i) : f_frd pl m (i + 1) (va_up g i 6) := by
  intro j
  by_cases hj : j = i
  · subst hj
    rw [up_s]
    exact ⟨fun _ => rfl, fun h1 => absurd ⟨by omega, hl⟩ h1⟩
  · rw [up_n _ _ hj]
    exact ⟨fun h1 => (h j).1 ⟨by omega, h1.2⟩, fun h1 => (h j).2 (fun h2 => h1 ⟨by omega, h2.2⟩)⟩
theorem f_frd_f {pl g : Nat → Nat} {m i : Nat} (h : f_frd pl m i g) (hl : ¬ f_lone pl m i) : f_frd pl m (i + 1) g := by
  intro j
  by_cases hj : j = i
  · subst hj
    exact ⟨fun h1 => absurd h1.2 hl, fun _ => f_frd_at h⟩
  · exact ⟨fun h1 => (h j).1 ⟨by omega, h1.2⟩, fun h1 => (h j).2 (fun h2 => h1 ⟨by omega, h2.2⟩)⟩
theorem f_frd_lt {pl g : Nat → Nat} {m i : Nat} (h : f_frd pl m i g) (hp : ∀ j, pl j < 16) : ∀ j, g j < 16 := by
  intro j
  by_cases hq : j < i ∧ f_lone pl m j
  · rw [(h j).1 hq]; decide
  · rw [(h j).2 hq]; exact hp j
theorem lt_ex {p : Nat → Prop} {i : Nat} (hn : ¬ p i) : (∃ j, j < i + 1 ∧ p j) ↔ ∃ j, j < i ∧ p j := by
  constructor
  · rintro ⟨j, h1, h2⟩
    by_cases hj : j = i
    · subst hj; exact absurd h2 hn
    · exact ⟨j, by omega, h2⟩
  · rintro ⟨j, h1, h2⟩; exact ⟨j, by omega, h2⟩
def f_anyl (pl : Nat → Nat) (m i : Nat) : Prop := ∃ j, j < i ∧ f_lone pl m j
theorem f_anyl_0 (pl : Nat → Nat) (m : Nat) : ¬ f_anyl pl m 0 := fun ⟨j, h, _⟩ => Nat.not_lt_zero j h
theorem f_anyl_f {pl : Nat → Nat} {m i : Nat} (h : ¬ f_lone pl m i) : f_anyl pl m (i + 1) ↔ f_anyl pl m i := lt_ex h
theorem f_anyl_t {pl : Nat → Nat} {m i : Nat} (h : f_lone pl m i) : f_anyl pl m (i + 1) := ⟨i, Nat.lt_succ_self i, h⟩
def f_in (os : Nat → Nat) (k v : Nat) : Prop := ∃ a, a < k ∧ os a = v
def f_gath (pl os : Nat → Nat) (i k : Nat) : Prop := k ≤ 4 ∧ (∀ a, a < k → f_oth (os a) = true ∧ ∃ j, j < i ∧ pl j = os a) ∧ (∀ a b, a < b → b < k → os a ≠ os b) ∧ (k < 4 → ∀ j, j < i → f_oth (pl j) = true → ∃ a, a < k ∧ os a = pl j)
theorem f_gath_k {pl os : Nat → Nat} {i k : Nat} (h : f_gath pl os i k) (hn : f_oth (pl i) = false ∨ f_in os k (pl i) ∨ 4 ≤ k) : f_gath pl os (i + 1) k := by
  obtain ⟨h1, h2, h3, h4⟩ := h
  refine ⟨h1, fun a ha => ⟨(h2 a ha).1, ?_⟩, h3, fun hk j hj ho => ?_⟩
  · obtain ⟨j, hj, e⟩ := (h2 a ha).2; exact ⟨j, by omega, e⟩
  · by_cases hji : j = i
    · subst hji
      rcases hn with hn | hn | hn
      · rw [hn] at ho; cases ho
      · exact hn
      · omega
    · exact h4 hk j (by omega) ho
theorem f_gath_s {pl os : Nat → Nat} {i k : Nat} (h : f_gath pl os i k) (ho : f_oth (pl i) = true) (hn : ¬ f_in os k (pl i)) (hk : k < 4) : f_gath pl (va_up os k (pl i)) (i + 1) (k + 1) := by
  obtain ⟨h1, h2, h3, h4⟩ := h
  refine ⟨by omega, fun a ha => ?_, fun a b hab hb => ?_, fun hk4 j hj hoj => ?_⟩
  · by_cases hak : a = k
    · subst hak; rw [up_s]; exact ⟨ho, i, by omega, rfl⟩
    · rw [up_n _ _ hak]
      obtain ⟨j, hj, e⟩ := (h2 a (by omega)).2
      exact ⟨(h2 a (by omega)).1, j, by omega, e⟩
  · rw [up_n _ _ (show a ≠ k by omega)]
    by_cases hbk : b = k
    · rw [hbk, up_s]; exact fun e => hn ⟨a, by omega, e⟩
    · rw [up_n _ _ hbk]; exact h3 a b hab (by omega)
  · by_cases hji : j = i
    · subst hji; exact ⟨k, by omega, up_s _ _ _⟩
    · obtain ⟨a, ha, e⟩ := h4 (by omega) j (by omega) hoj
      exact ⟨a, by omega, by rw [up_n _ _ (show a ≠ k by omega)]; exact e⟩
/-- sorted, and with what f has, up to k -/
def f_srt (f g : Nat → Nat) (k : Nat) : Prop := (∀ a b, a < b → b < k → g a ≤ g b) ∧ ∀ c, f_cnt g c k = f_cnt f c k
def f_ins (g : Nat → Nat) (k x : Nat) : Nat → Nat := fun j => if j < k then g j else if j = k then x else g (j - 1)
theorem f_cnt_ins (g : Nat → Nat) (c x : Nat) {k : Nat} : ∀ {i : Nat}, k ≤ i → f_cnt (f_ins g k x) c (i + 1) = f_cnt g c i + if x = c then 1 else 0 := by
  intro i
  induction i with
  | zero => intro hk; have : k = 0 := by omega
            subst this; simp [f_cnt, f_ins]
  | succ i ih =>
    intro hk
    by_cases hki : k = i + 1
    · have e : f_cnt (f_ins g k x) c (i + 1) = f_cnt g c (i + 1) := f_cnt_cg (fun j hj => by unfold f_ins; rw [if_pos (by omega)])
      show f_cnt (f_ins g k x) c (i + 1) + _ = _
      rw [e]
      congr 1
      unfold f_ins
      rw [if_neg (show ¬ i + 1 < k by omega), if_pos (show i + 1 = k by omega)]
    · show f_cnt (f_ins g k x) c (i + 1) + _ = _
      rw [ih (by omega)]
      have e : f_ins g k x (i + 1) = g i := by unfold f_ins; rw [if_neg (by omega), if_neg (by omega)]; rfl
      rw [e]
      simp only [f_cnt]
      omega
def f_shf (g0 g : Nat → Nat) (i k x : Nat) : Prop := k ≤ i ∧ (∀ j, j < k → g j = g0 j) ∧ (∀ j, k < j → j ≤ i → g j = g0 (j - 1)) ∧ ∀ j, k ≤ j → j < i → x < g0 j
theorem f_shf_s {g0 g : Nat → Nat} {i k x : Nat} (h : f_shf g0 g i k x) (h0 : 0 < k) (hx : x < g (k - 1)) : f_shf g0 (va_up g k (g (k - 1))) i (k - 1) x := by
  obtain ⟨h1, h2, h3, h4⟩ := h
  refine ⟨by omega, fun j hj => by rw [up_n _ _ (by omega)]; exact h2 j (by omega), fun j hj hji => ?_, fun j hj hji => ?_⟩
  · by_cases hjk : j = k
    · rw [hjk, up_s]; exact h2 (k - 1) (by omega)
    · rw [up_n _ _ hjk]; exact h3 j (by omega) hji
  · by_cases hjk : j = k - 1
    · rw [hjk, ← h2 (k - 1) (by omega)]; exact hx
    · exact h4 j (by omega) hji
theorem f_srt_s {f g0 g : Nat → Nat} {i k : Nat} (hs : f_srt f g0 i) (h : f_shf g0 g i k (f i)) (hk : k = 0 ∨ g (k - 1) ≤ f i) : f_srt f (va_up g k (f i)) (i + 1) := by
  obtain ⟨h1, h2, h3, h4⟩ := h
  have e : ∀ j, j < i + 1 → va_up g k (f i) j = f_ins g0 k (f i) j := by
    intro j hj
    unfold f_ins
    by_cases hjk : j = k
    · rw [hjk, up_s, if_neg (by omega), if_pos rfl]
    · rw [up_n _ _ hjk]
      by_cases hlt : j < k
      · rw [if_pos hlt]; exact h2 j hlt
      · rw [if_neg hlt, if_neg hjk]; exact h3 j (by omega) (by omega)
  refine ⟨fun a b hab hb => ?_, fun c => ?_⟩
  · rw [e a (by omega), e b hb]
    unfold f_ins
    by_cases hbk : b < k
    · rw [if_pos (show a < k by omega), if_pos hbk]; exact hs.1 a b hab (by omega)
    · rw [if_neg hbk]
      by_cases hbe : b = k
      · rw [if_pos (show a < k by omega), if_pos hbe]
        rcases hk with hk | hk
        · omega
        · rw [h2 (k - 1) (by omega)] at hk
          by_cases ha : a = k - 1
          · rw [ha]; exact hk
          · exact Nat.le_trans (hs.1 a (k - 1) (by omega) (by omega)) hk
      · rw [if_neg hbe]
        by_cases hak : a < k
        · rw [if_pos hak]
          by_cases hab1 : a = b - 1
          · rw [hab1]; exact Nat.le_refl _
          · exact hs.1 a (b - 1) (by omega) (by omega)
        · rw [if_neg hak]
          by_cases hae : a = k
          · rw [if_pos hae]; exact Nat.le_of_lt (h4 (b - 1) (by omega) (by omega))
          · rw [if_neg hae]; exact hs.1 (a - 1) (b - 1) (by omega) (by omega)
  · rw [f_cnt_cg e, f_cnt_ins g0 c (f i) h1, hs.2 c]
    rfl
theorem f_srt_lt {f g : Nat → Nat} {k b : Nat} (h : f_srt f g k) (hb : ∀ j, f j < b) : ∀ j, j < k → g j < b := by
  intro j hj
  have h1 := f_cnt_pos (pl := g) hj rfl
  rw [h.2 (g j)] at h1
  rcases Nat.lt_or_ge (g j) b with h2 | h2
  · exact h2
  · have : f_cnt f (g j) k = 0 := by
      have h3 : ∀ m, f_cnt f (g j) m = 0 := by
        intro m
        induction m with
        | zero => rfl
        | succ m ih => simp only [f_cnt]; rw [ih, if_neg (by have := hb m; omega)]
      exact h3 k
    omega
def f_code (nm pl nd : Nat → Nat) (i : Nat) : Nat := 64 * nm i + 8 * nd (pl (2 * i)) + nd (pl (2 * i + 1))
abbrev cX3_dropEqual : ByteArray := prog_5_method_12_code
def yX3_dropEqual : MethodName := ⟨RX3, "dropEqual", "()V"⟩
def wkX3_dropEqual : List Cond := .code yX3_dropEqual cX3_dropEqual 3 none :: qW
set_option maxRecDepth 40000 in
theorem gkX3_dropEqual : GoodIn qW wkX3_dropEqual := q_good (qw 388 rfl rfl)
set_option maxRecDepth 40000 in
theorem knX3_dropEqual : Cond.instanceMethod yX3_dropEqual ∈ qW := qw 386 rfl rfl
set_option maxRecDepth 40000 in
theorem klX3_dropEqual : Cond.selects RX3 yX3_dropEqual yX3_dropEqual ∈ qW := qw 387 rfl rfl
theorem dX3_dropEqual_0 : decode cX3_dropEqual 0 = .ok (.iconst 0, 1) := by decide +kernel
theorem dX3_dropEqual_1 : decode cX3_dropEqual 1 = .ok (.istore_n 1, 1) := by decide +kernel
theorem dX3_dropEqual_2 : decode cX3_dropEqual 2 = .ok (.iload_n 1, 1) := by decide +kernel
theorem dX3_dropEqual_3 : decode cX3_dropEqual 3 = .ok (.aload_n 0, 1) := by decide +kernel
theorem dX3_dropEqual_4 : decode cX3_dropEqual 4 = .ok (.getfield 18, 3) := by decide +kernel
theorem dX3_dropEqual_7 : decode cX3_dropEqual 7 = .ok (.if_icmp .ge 151, 3) := by decide +kernel
theorem dX3_dropEqual_10 : decode cX3_dropEqual 10 = .ok (.aload_n 0, 1) := by decide +kernel
theorem dX3_dropEqual_11 : decode cX3_dropEqual 11 = .ok (.getfield 18, 3) := by decide +kernel
theorem dX3_dropEqual_14 : decode cX3_dropEqual 14 = .ok (.iconst 1, 1) := by decide +kernel
theorem dX3_dropEqual_15 : decode cX3_dropEqual 15 = .ok (.isub, 1) := by decide +kernel
theorem dX3_dropEqual_16 : decode cX3_dropEqual 16 = .ok (.istore_n 2, 1) := by decide +kernel
theorem dX3_dropEqual_17 : decode cX3_dropEqual 17 = .ok (.iload_n 2, 1) := by decide +kernel
theorem dX3_dropEqual_18 : decode cX3_dropEqual 18 = .ok (.iload_n 1, 1) := by decide +kernel
theorem dX3_dropEqual_19 : decode cX3_dropEqual 19 = .ok (.if_icmp .le 133, 3) := by decide +kernel
theorem dX3_dropEqual_22 : decode cX3_dropEqual 22 = .ok (.aload_n 0, 1) := by decide +kernel
theorem dX3_dropEqual_23 : decode cX3_dropEqual 23 = .ok (.getfield 11, 3) := by decide +kernel
theorem dX3_dropEqual_26 : decode cX3_dropEqual 26 = .ok (.iload_n 1, 1) := by decide +kernel
theorem dX3_dropEqual_27 : decode cX3_dropEqual 27 = .ok (.iaload, 1) := by decide +kernel
theorem dX3_dropEqual_28 : decode cX3_dropEqual 28 = .ok (.aload_n 0, 1) := by decide +kernel
theorem dX3_dropEqual_29 : decode cX3_dropEqual 29 = .ok (.getfield 11, 3) := by decide +kernel
theorem dX3_dropEqual_32 : decode cX3_dropEqual 32 = .ok (.iload_n 2, 1) := by decide +kernel
theorem dX3_dropEqual_33 : decode cX3_dropEqual 33 = .ok (.iaload, 1) := by decide +kernel
theorem dX3_dropEqual_34 : decode cX3_dropEqual 34 = .ok (.if_icmp .ne 112, 3) := by decide +kernel
theorem dX3_dropEqual_37 : decode cX3_dropEqual 37 = .ok (.aload_n 0, 1) := by decide +kernel
theorem dX3_dropEqual_38 : decode cX3_dropEqual 38 = .ok (.getfield 15, 3) := by decide +kernel
theorem dX3_dropEqual_41 : decode cX3_dropEqual 41 = .ok (.iconst 2, 1) := by decide +kernel
theorem dX3_dropEqual_42 : decode cX3_dropEqual 42 = .ok (.iload_n 1, 1) := by decide +kernel
theorem dX3_dropEqual_43 : decode cX3_dropEqual 43 = .ok (.imul, 1) := by decide +kernel
theorem dX3_dropEqual_44 : decode cX3_dropEqual 44 = .ok (.iaload, 1) := by decide +kernel
theorem dX3_dropEqual_45 : decode cX3_dropEqual 45 = .ok (.aload_n 0, 1) := by decide +kernel
theorem dX3_dropEqual_46 : decode cX3_dropEqual 46 = .ok (.getfield 15, 3) := by decide +kernel
theorem dX3_dropEqual_49 : decode cX3_dropEqual 49 = .ok (.iconst 2, 1) := by decide +kernel
theorem dX3_dropEqual_50 : decode cX3_dropEqual 50 = .ok (.iload_n 2, 1) := by decide +kernel
theorem dX3_dropEqual_51 : decode cX3_dropEqual 51 = .ok (.imul, 1) := by decide +kernel
theorem dX3_dropEqual_52 : decode cX3_dropEqual 52 = .ok (.iaload, 1) := by decide +kernel
theorem dX3_dropEqual_53 : decode cX3_dropEqual 53 = .ok (.if_icmp .ne 93, 3) := by decide +kernel
theorem dX3_dropEqual_56 : decode cX3_dropEqual 56 = .ok (.aload_n 0, 1) := by decide +kernel
theorem dX3_dropEqual_57 : decode cX3_dropEqual 57 = .ok (.getfield 15, 3) := by decide +kernel
theorem dX3_dropEqual_60 : decode cX3_dropEqual 60 = .ok (.iconst 2, 1) := by decide +kernel
theorem dX3_dropEqual_61 : decode cX3_dropEqual 61 = .ok (.iload_n 1, 1) := by decide +kernel
theorem dX3_dropEqual_62 : decode cX3_dropEqual 62 = .ok (.imul, 1) := by decide +kernel
theorem dX3_dropEqual_63 : decode cX3_dropEqual 63 = .ok (.iconst 1, 1) := by decide +kernel
theorem dX3_dropEqual_64 : decode cX3_dropEqual 64 = .ok (.iadd, 1) := by decide +kernel
theorem dX3_dropEqual_65 : decode cX3_dropEqual 65 = .ok (.iaload, 1) := by decide +kernel
theorem dX3_dropEqual_66 : decode cX3_dropEqual 66 = .ok (.aload_n 0, 1) := by decide +kernel
theorem dX3_dropEqual_67 : decode cX3_dropEqual 67 = .ok (.getfield 15, 3) := by decide +kernel
theorem dX3_dropEqual_70 : decode cX3_dropEqual 70 = .ok (.iconst 2, 1) := by decide +kernel
theorem dX3_dropEqual_71 : decode cX3_dropEqual 71 = .ok (.iload_n 2, 1) := by decide +kernel
theorem dX3_dropEqual_72 : decode cX3_dropEqual 72 = .ok (.imul, 1) := by decide +kernel
theorem dX3_dropEqual_73 : decode cX3_dropEqual 73 = .ok (.iconst 1, 1) := by decide +kernel
theorem dX3_dropEqual_74 : decode cX3_dropEqual 74 = .ok (.iadd, 1) := by decide +kernel
theorem dX3_dropEqual_75 : decode cX3_dropEqual 75 = .ok (.iaload, 1) := by decide +kernel
theorem dX3_dropEqual_76 : decode cX3_dropEqual 76 = .ok (.if_icmp .ne 70, 3) := by decide +kernel
theorem dX3_dropEqual_79 : decode cX3_dropEqual 79 = .ok (.aload_n 0, 1) := by decide +kernel
theorem dX3_dropEqual_80 : decode cX3_dropEqual 80 = .ok (.dup, 1) := by decide +kernel
theorem dX3_dropEqual_81 : decode cX3_dropEqual 81 = .ok (.getfield 18, 3) := by decide +kernel
theorem dX3_dropEqual_84 : decode cX3_dropEqual 84 = .ok (.iconst 1, 1) := by decide +kernel
theorem dX3_dropEqual_85 : decode cX3_dropEqual 85 = .ok (.isub, 1) := by decide +kernel
theorem dX3_dropEqual_86 : decode cX3_dropEqual 86 = .ok (.putfield 18, 3) := by decide +kernel
theorem dX3_dropEqual_89 : decode cX3_dropEqual 89 = .ok (.aload_n 0, 1) := by decide +kernel
theorem dX3_dropEqual_90 : decode cX3_dropEqual 90 = .ok (.getfield 11, 3) := by decide +kernel
theorem dX3_dropEqual_93 : decode cX3_dropEqual 93 = .ok (.iload_n 2, 1) := by decide +kernel
theorem dX3_dropEqual_94 : decode cX3_dropEqual 94 = .ok (.aload_n 0, 1) := by decide +kernel
theorem dX3_dropEqual_95 : decode cX3_dropEqual 95 = .ok (.getfield 11, 3) := by decide +kernel
theorem dX3_dropEqual_98 : decode cX3_dropEqual 98 = .ok (.aload_n 0, 1) := by decide +kernel
theorem dX3_dropEqual_99 : decode cX3_dropEqual 99 = .ok (.getfield 18, 3) := by decide +kernel
theorem dX3_dropEqual_102 : decode cX3_dropEqual 102 = .ok (.iaload, 1) := by decide +kernel
theorem dX3_dropEqual_103 : decode cX3_dropEqual 103 = .ok (.iastore, 1) := by decide +kernel
theorem dX3_dropEqual_104 : decode cX3_dropEqual 104 = .ok (.aload_n 0, 1) := by decide +kernel
theorem dX3_dropEqual_105 : decode cX3_dropEqual 105 = .ok (.getfield 15, 3) := by decide +kernel
theorem dX3_dropEqual_108 : decode cX3_dropEqual 108 = .ok (.iconst 2, 1) := by decide +kernel
theorem dX3_dropEqual_109 : decode cX3_dropEqual 109 = .ok (.iload_n 2, 1) := by decide +kernel
theorem dX3_dropEqual_110 : decode cX3_dropEqual 110 = .ok (.imul, 1) := by decide +kernel
theorem dX3_dropEqual_111 : decode cX3_dropEqual 111 = .ok (.aload_n 0, 1) := by decide +kernel
theorem dX3_dropEqual_112 : decode cX3_dropEqual 112 = .ok (.getfield 15, 3) := by decide +kernel
theorem dX3_dropEqual_115 : decode cX3_dropEqual 115 = .ok (.iconst 2, 1) := by decide +kernel
theorem dX3_dropEqual_116 : decode cX3_dropEqual 116 = .ok (.aload_n 0, 1) := by decide +kernel
theorem dX3_dropEqual_117 : decode cX3_dropEqual 117 = .ok (.getfield 18, 3) := by decide +kernel
theorem dX3_dropEqual_120 : decode cX3_dropEqual 120 = .ok (.imul, 1) := by decide +kernel
theorem dX3_dropEqual_121 : decode cX3_dropEqual 121 = .ok (.iaload, 1) := by decide +kernel
theorem dX3_dropEqual_122 : decode cX3_dropEqual 122 = .ok (.iastore, 1) := by decide +kernel
theorem dX3_dropEqual_123 : decode cX3_dropEqual 123 = .ok (.aload_n 0, 1) := by decide +kernel
theorem dX3_dropEqual_124 : decode cX3_dropEqual 124 = .ok (.getfield 15, 3) := by decide +kernel
theorem dX3_dropEqual_127 : decode cX3_dropEqual 127 = .ok (.iconst 2, 1) := by decide +kernel
theorem dX3_dropEqual_128 : decode cX3_dropEqual 128 = .ok (.iload_n 2, 1) := by decide +kernel
theorem dX3_dropEqual_129 : decode cX3_dropEqual 129 = .ok (.imul, 1) := by decide +kernel
theorem dX3_dropEqual_130 : decode cX3_dropEqual 130 = .ok (.iconst 1, 1) := by decide +kernel
theorem dX3_dropEqual_131 : decode cX3_dropEqual 131 = .ok (.iadd, 1) := by decide +kernel
theorem dX3_dropEqual_132 : decode cX3_dropEqual 132 = .ok (.aload_n 0, 1) := by decide +kernel
theorem dX3_dropEqual_133 : decode cX3_dropEqual 133 = .ok (.getfield 15, 3) := by decide +kernel
theorem dX3_dropEqual_136 : decode cX3_dropEqual 136 = .ok (.iconst 2, 1) := by decide +kernel
theorem dX3_dropEqual_137 : decode cX3_dropEqual 137 = .ok (.aload_n 0, 1) := by decide +kernel
theorem dX3_dropEqual_138 : decode cX3_dropEqual 138 = .ok (.getfield 18, 3) := by decide +kernel
theorem dX3_dropEqual_141 : decode cX3_dropEqual 141 = .ok (.imul, 1) := by decide +kernel
theorem dX3_dropEqual_142 : decode cX3_dropEqual 142 = .ok (.iconst 1, 1) := by decide +kernel
theorem dX3_dropEqual_143 : decode cX3_dropEqual 143 = .ok (.iadd, 1) := by decide +kernel
theorem dX3_dropEqual_144 : decode cX3_dropEqual 144 = .ok (.iaload, 1) := by decide +kernel
theorem dX3_dropEqual_145 : decode cX3_dropEqual 145 = .ok (.iastore, 1) := by decide +kernel
theorem dX3_dropEqual_146 : decode cX3_dropEqual 146 = .ok (.iinc 2 (-1), 3) := by decide +kernel
theorem dX3_dropEqual_149 : decode cX3_dropEqual 149 = .ok (.goto (-132), 3) := by decide +kernel
theorem dX3_dropEqual_152 : decode cX3_dropEqual 152 = .ok (.iinc 1 1, 3) := by decide +kernel
theorem dX3_dropEqual_155 : decode cX3_dropEqual 155 = .ok (.goto (-153), 3) := by decide +kernel
theorem dX3_dropEqual_158 : decode cX3_dropEqual 158 = .ok (.return_, 1) := by decide +kernel
abbrev cX3_unite : ByteArray := prog_5_method_15_code
def yX3_unite : MethodName := ⟨RX3, "unite", "(II)V"⟩
def wkX3_unite : List Cond := .code yX3_unite cX3_unite 6 none :: qW
set_option maxRecDepth 40000 in
theorem gkX3_unite : GoodIn qW wkX3_unite := q_good (qw 467 rfl rfl)
set_option maxRecDepth 40000 in
theorem knX3_unite : Cond.instanceMethod yX3_unite ∈ qW := qw 465 rfl rfl
set_option maxRecDepth 40000 in
theorem klX3_unite : Cond.selects RX3 yX3_unite yX3_unite ∈ qW := qw 466 rfl rfl
theorem dX3_unite_0 : decode cX3_unite 0 = .ok (.iconst 0, 1) := by decide +kernel
theorem dX3_unite_1 : decode cX3_unite 1 = .ok (.istore_n 3, 1) := by decide +kernel
theorem dX3_unite_2 : decode cX3_unite 2 = .ok (.iload_n 3, 1) := by decide +kernel
theorem dX3_unite_3 : decode cX3_unite 3 = .ok (.iconst 2, 1) := by decide +kernel
theorem dX3_unite_4 : decode cX3_unite 4 = .ok (.if_icmp .ge 102, 3) := by decide +kernel
theorem dX3_unite_7 : decode cX3_unite 7 = .ok (.aload_n 0, 1) := by decide +kernel
theorem dX3_unite_8 : decode cX3_unite 8 = .ok (.getfield 15, 3) := by decide +kernel
theorem dX3_unite_11 : decode cX3_unite 11 = .ok (.iconst 2, 1) := by decide +kernel
theorem dX3_unite_12 : decode cX3_unite 12 = .ok (.iload_n 1, 1) := by decide +kernel
theorem dX3_unite_13 : decode cX3_unite 13 = .ok (.imul, 1) := by decide +kernel
theorem dX3_unite_14 : decode cX3_unite 14 = .ok (.iload_n 3, 1) := by decide +kernel
theorem dX3_unite_15 : decode cX3_unite 15 = .ok (.iadd, 1) := by decide +kernel
theorem dX3_unite_16 : decode cX3_unite 16 = .ok (.iaload, 1) := by decide +kernel
theorem dX3_unite_17 : decode cX3_unite 17 = .ok (.istore 4, 2) := by decide +kernel
theorem dX3_unite_19 : decode cX3_unite 19 = .ok (.aload_n 0, 1) := by decide +kernel
theorem dX3_unite_20 : decode cX3_unite 20 = .ok (.getfield 15, 3) := by decide +kernel
theorem dX3_unite_23 : decode cX3_unite 23 = .ok (.iconst 2, 1) := by decide +kernel
theorem dX3_unite_24 : decode cX3_unite 24 = .ok (.iload_n 2, 1) := by decide +kernel
theorem dX3_unite_25 : decode cX3_unite 25 = .ok (.imul, 1) := by decide +kernel
theorem dX3_unite_26 : decode cX3_unite 26 = .ok (.iload_n 3, 1) := by decide +kernel
theorem dX3_unite_27 : decode cX3_unite 27 = .ok (.iadd, 1) := by decide +kernel
theorem dX3_unite_28 : decode cX3_unite 28 = .ok (.iaload, 1) := by decide +kernel
theorem dX3_unite_29 : decode cX3_unite 29 = .ok (.istore 5, 2) := by decide +kernel
theorem dX3_unite_31 : decode cX3_unite 31 = .ok (.iload 4, 2) := by decide +kernel
theorem dX3_unite_33 : decode cX3_unite 33 = .ok (.bipush 6, 2) := by decide +kernel
theorem dX3_unite_35 : decode cX3_unite 35 = .ok (.if_icmp .ne 18, 3) := by decide +kernel
theorem dX3_unite_38 : decode cX3_unite 38 = .ok (.aload_n 0, 1) := by decide +kernel
theorem dX3_unite_39 : decode cX3_unite 39 = .ok (.getfield 15, 3) := by decide +kernel
theorem dX3_unite_42 : decode cX3_unite 42 = .ok (.iconst 2, 1) := by decide +kernel
theorem dX3_unite_43 : decode cX3_unite 43 = .ok (.iload_n 1, 1) := by decide +kernel
theorem dX3_unite_44 : decode cX3_unite 44 = .ok (.imul, 1) := by decide +kernel
theorem dX3_unite_45 : decode cX3_unite 45 = .ok (.iload_n 3, 1) := by decide +kernel
theorem dX3_unite_46 : decode cX3_unite 46 = .ok (.iadd, 1) := by decide +kernel
theorem dX3_unite_47 : decode cX3_unite 47 = .ok (.iload 5, 2) := by decide +kernel
theorem dX3_unite_49 : decode cX3_unite 49 = .ok (.iastore, 1) := by decide +kernel
theorem dX3_unite_50 : decode cX3_unite 50 = .ok (.goto 50, 3) := by decide +kernel
theorem dX3_unite_53 : decode cX3_unite 53 = .ok (.iload 5, 2) := by decide +kernel
theorem dX3_unite_55 : decode cX3_unite 55 = .ok (.bipush 6, 2) := by decide +kernel
theorem dX3_unite_57 : decode cX3_unite 57 = .ok (.if_icmp .ne 18, 3) := by decide +kernel
theorem dX3_unite_60 : decode cX3_unite 60 = .ok (.aload_n 0, 1) := by decide +kernel
theorem dX3_unite_61 : decode cX3_unite 61 = .ok (.getfield 15, 3) := by decide +kernel
theorem dX3_unite_64 : decode cX3_unite 64 = .ok (.iconst 2, 1) := by decide +kernel
theorem dX3_unite_65 : decode cX3_unite 65 = .ok (.iload_n 2, 1) := by decide +kernel
theorem dX3_unite_66 : decode cX3_unite 66 = .ok (.imul, 1) := by decide +kernel
theorem dX3_unite_67 : decode cX3_unite 67 = .ok (.iload_n 3, 1) := by decide +kernel
theorem dX3_unite_68 : decode cX3_unite 68 = .ok (.iadd, 1) := by decide +kernel
theorem dX3_unite_69 : decode cX3_unite 69 = .ok (.iload 4, 2) := by decide +kernel
theorem dX3_unite_71 : decode cX3_unite 71 = .ok (.iastore, 1) := by decide +kernel
theorem dX3_unite_72 : decode cX3_unite 72 = .ok (.goto 28, 3) := by decide +kernel
theorem dX3_unite_75 : decode cX3_unite 75 = .ok (.iload 4, 2) := by decide +kernel
theorem dX3_unite_77 : decode cX3_unite 77 = .ok (.iload 5, 2) := by decide +kernel
theorem dX3_unite_79 : decode cX3_unite 79 = .ok (.if_icmp .eq 21, 3) := by decide +kernel
theorem dX3_unite_82 : decode cX3_unite 82 = .ok (.aload_n 0, 1) := by decide +kernel
theorem dX3_unite_83 : decode cX3_unite 83 = .ok (.iload 4, 2) := by decide +kernel
theorem dX3_unite_85 : decode cX3_unite 85 = .ok (.iload 5, 2) := by decide +kernel
theorem dX3_unite_87 : decode cX3_unite 87 = .ok (.invokestatic 59, 3) := by decide +kernel
theorem dX3_unite_90 : decode cX3_unite 90 = .ok (.iload 4, 2) := by decide +kernel
theorem dX3_unite_92 : decode cX3_unite 92 = .ok (.iload 5, 2) := by decide +kernel
theorem dX3_unite_94 : decode cX3_unite 94 = .ok (.invokestatic 32, 3) := by decide +kernel
theorem dX3_unite_97 : decode cX3_unite 97 = .ok (.invokevirtual 62, 3) := by decide +kernel
theorem dX3_unite_100 : decode cX3_unite 100 = .ok (.iinc 3 1, 3) := by decide +kernel
theorem dX3_unite_103 : decode cX3_unite 103 = .ok (.goto (-101), 3) := by decide +kernel
theorem dX3_unite_106 : decode cX3_unite 106 = .ok (.return_, 1) := by decide +kernel
abbrev cX4_isOther : ByteArray := prog_6_method_3_code
def yX4_isOther : MethodName := ⟨RX4, "isOther", "(I)Z"⟩
def wkX4_isOther : List Cond := .code yX4_isOther cX4_isOther 1 (some .boolean) :: qW
set_option maxRecDepth 40000 in
theorem gkX4_isOther : GoodIn qW wkX4_isOther := q_good (qw 394 rfl rfl)
set_option maxRecDepth 40000 in
theorem ksX4_isOther : Cond.static yX4_isOther ∈ qW := qw 393 rfl rfl
theorem dX4_isOther_0 : decode cX4_isOther 0 = .ok (.iload_n 0, 1) := by decide +kernel
theorem dX4_isOther_1 : decode cX4_isOther 1 = .ok (.iconst 2, 1) := by decide +kernel
theorem dX4_isOther_2 : decode cX4_isOther 2 = .ok (.if_icmp .lt 19, 3) := by decide +kernel
theorem dX4_isOther_5 : decode cX4_isOther 5 = .ok (.iload_n 0, 1) := by decide +kernel
theorem dX4_isOther_6 : decode cX4_isOther 6 = .ok (.bipush 6, 2) := by decide +kernel
theorem dX4_isOther_8 : decode cX4_isOther 8 = .ok (.if_icmp .eq 13, 3) := by decide +kernel
theorem dX4_isOther_11 : decode cX4_isOther 11 = .ok (.iload_n 0, 1) := by decide +kernel
theorem dX4_isOther_12 : decode cX4_isOther 12 = .ok (.bipush 7, 2) := by decide +kernel
theorem dX4_isOther_14 : decode cX4_isOther 14 = .ok (.if_icmp .eq 7, 3) := by decide +kernel
theorem dX4_isOther_17 : decode cX4_isOther 17 = .ok (.iconst 1, 1) := by decide +kernel
theorem dX4_isOther_18 : decode cX4_isOther 18 = .ok (.goto 4, 3) := by decide +kernel
theorem dX4_isOther_21 : decode cX4_isOther 21 = .ok (.iconst 0, 1) := by decide +kernel
theorem dX4_isOther_22 : decode cX4_isOther 22 = .ok (.ireturn, 1) := by decide +kernel
abbrev cX4_freeSingle : ByteArray := prog_6_method_4_code
def yX4_freeSingle : MethodName := ⟨RX4, "freeSingle", "(LQlRewrite$Form;)Z"⟩
def wkX4_freeSingle : List Cond := .code yX4_freeSingle cX4_freeSingle 3 (some .boolean) :: qW
set_option maxRecDepth 40000 in
theorem gkX4_freeSingle : GoodIn qW wkX4_freeSingle := q_good (qw 391 rfl rfl)
set_option maxRecDepth 40000 in
theorem ksX4_freeSingle : Cond.static yX4_freeSingle ∈ qW := qw 390 rfl rfl
theorem dX4_freeSingle_0 : decode cX4_freeSingle 0 = .ok (.iconst 0, 1) := by decide +kernel
theorem dX4_freeSingle_1 : decode cX4_freeSingle 1 = .ok (.istore_n 1, 1) := by decide +kernel
theorem dX4_freeSingle_2 : decode cX4_freeSingle 2 = .ok (.iconst 0, 1) := by decide +kernel
theorem dX4_freeSingle_3 : decode cX4_freeSingle 3 = .ok (.istore_n 2, 1) := by decide +kernel
theorem dX4_freeSingle_4 : decode cX4_freeSingle 4 = .ok (.iload_n 2, 1) := by decide +kernel
theorem dX4_freeSingle_5 : decode cX4_freeSingle 5 = .ok (.iconst 2, 1) := by decide +kernel
theorem dX4_freeSingle_6 : decode cX4_freeSingle 6 = .ok (.aload_n 0, 1) := by decide +kernel
theorem dX4_freeSingle_7 : decode cX4_freeSingle 7 = .ok (.getfield 48, 3) := by decide +kernel
theorem dX4_freeSingle_10 : decode cX4_freeSingle 10 = .ok (.imul, 1) := by decide +kernel
theorem dX4_freeSingle_11 : decode cX4_freeSingle 11 = .ok (.if_icmp .ge 45, 3) := by decide +kernel
theorem dX4_freeSingle_14 : decode cX4_freeSingle 14 = .ok (.aload_n 0, 1) := by decide +kernel
theorem dX4_freeSingle_15 : decode cX4_freeSingle 15 = .ok (.getfield 52, 3) := by decide +kernel
theorem dX4_freeSingle_18 : decode cX4_freeSingle 18 = .ok (.iload_n 2, 1) := by decide +kernel
theorem dX4_freeSingle_19 : decode cX4_freeSingle 19 = .ok (.iaload, 1) := by decide +kernel
theorem dX4_freeSingle_20 : decode cX4_freeSingle 20 = .ok (.invokestatic 55, 3) := by decide +kernel
theorem dX4_freeSingle_23 : decode cX4_freeSingle 23 = .ok (.ifCond .eq 27, 3) := by decide +kernel
theorem dX4_freeSingle_26 : decode cX4_freeSingle 26 = .ok (.aload_n 0, 1) := by decide +kernel
theorem dX4_freeSingle_27 : decode cX4_freeSingle 27 = .ok (.aload_n 0, 1) := by decide +kernel
theorem dX4_freeSingle_28 : decode cX4_freeSingle 28 = .ok (.getfield 52, 3) := by decide +kernel
theorem dX4_freeSingle_31 : decode cX4_freeSingle 31 = .ok (.iload_n 2, 1) := by decide +kernel
theorem dX4_freeSingle_32 : decode cX4_freeSingle 32 = .ok (.iaload, 1) := by decide +kernel
theorem dX4_freeSingle_33 : decode cX4_freeSingle 33 = .ok (.invokevirtual 59, 3) := by decide +kernel
theorem dX4_freeSingle_36 : decode cX4_freeSingle 36 = .ok (.iconst 1, 1) := by decide +kernel
theorem dX4_freeSingle_37 : decode cX4_freeSingle 37 = .ok (.if_icmp .ne 13, 3) := by decide +kernel
theorem dX4_freeSingle_40 : decode cX4_freeSingle 40 = .ok (.aload_n 0, 1) := by decide +kernel
theorem dX4_freeSingle_41 : decode cX4_freeSingle 41 = .ok (.getfield 52, 3) := by decide +kernel
theorem dX4_freeSingle_44 : decode cX4_freeSingle 44 = .ok (.iload_n 2, 1) := by decide +kernel
theorem dX4_freeSingle_45 : decode cX4_freeSingle 45 = .ok (.bipush 6, 2) := by decide +kernel
theorem dX4_freeSingle_47 : decode cX4_freeSingle 47 = .ok (.iastore, 1) := by decide +kernel
theorem dX4_freeSingle_48 : decode cX4_freeSingle 48 = .ok (.iconst 1, 1) := by decide +kernel
theorem dX4_freeSingle_49 : decode cX4_freeSingle 49 = .ok (.istore_n 1, 1) := by decide +kernel
theorem dX4_freeSingle_50 : decode cX4_freeSingle 50 = .ok (.iinc 2 1, 3) := by decide +kernel
theorem dX4_freeSingle_53 : decode cX4_freeSingle 53 = .ok (.goto (-49), 3) := by decide +kernel
theorem dX4_freeSingle_56 : decode cX4_freeSingle 56 = .ok (.iload_n 1, 1) := by decide +kernel
theorem dX4_freeSingle_57 : decode cX4_freeSingle 57 = .ok (.ireturn, 1) := by decide +kernel
abbrev cX4_isGathered : ByteArray := prog_6_method_6_code
def yX4_isGathered : MethodName := ⟨RX4, "isGathered", "(II)Z"⟩
def wkX4_isGathered : List Cond := .code yX4_isGathered cX4_isGathered 4 (some .boolean) :: qW
set_option maxRecDepth 40000 in
theorem gkX4_isGathered : GoodIn qW wkX4_isGathered := q_good (qw 406 rfl rfl)
set_option maxRecDepth 40000 in
theorem knX4_isGathered : Cond.instanceMethod yX4_isGathered ∈ qW := qw 405 rfl rfl
set_option maxRecDepth 40000 in
theorem klX4_isGathered : Cond.selects RX4 yX4_isGathered yX4_isGathered ∈ qW := qw 3 rfl rfl
theorem dX4_isGathered_0 : decode cX4_isGathered 0 = .ok (.iconst 0, 1) := by decide +kernel
theorem dX4_isGathered_1 : decode cX4_isGathered 1 = .ok (.istore_n 3, 1) := by decide +kernel
theorem dX4_isGathered_2 : decode cX4_isGathered 2 = .ok (.iload_n 3, 1) := by decide +kernel
theorem dX4_isGathered_3 : decode cX4_isGathered 3 = .ok (.iload_n 2, 1) := by decide +kernel
theorem dX4_isGathered_4 : decode cX4_isGathered 4 = .ok (.if_icmp .ge 21, 3) := by decide +kernel
theorem dX4_isGathered_7 : decode cX4_isGathered 7 = .ok (.aload_n 0, 1) := by decide +kernel
theorem dX4_isGathered_8 : decode cX4_isGathered 8 = .ok (.getfield 15, 3) := by decide +kernel
theorem dX4_isGathered_11 : decode cX4_isGathered 11 = .ok (.iload_n 3, 1) := by decide +kernel
theorem dX4_isGathered_12 : decode cX4_isGathered 12 = .ok (.iaload, 1) := by decide +kernel
theorem dX4_isGathered_13 : decode cX4_isGathered 13 = .ok (.iload_n 1, 1) := by decide +kernel
theorem dX4_isGathered_14 : decode cX4_isGathered 14 = .ok (.if_icmp .ne 5, 3) := by decide +kernel
theorem dX4_isGathered_17 : decode cX4_isGathered 17 = .ok (.iconst 1, 1) := by decide +kernel
theorem dX4_isGathered_18 : decode cX4_isGathered 18 = .ok (.ireturn, 1) := by decide +kernel
theorem dX4_isGathered_19 : decode cX4_isGathered 19 = .ok (.iinc 3 1, 3) := by decide +kernel
theorem dX4_isGathered_22 : decode cX4_isGathered 22 = .ok (.goto (-20), 3) := by decide +kernel
theorem dX4_isGathered_25 : decode cX4_isGathered 25 = .ok (.iconst 0, 1) := by decide +kernel
theorem dX4_isGathered_26 : decode cX4_isGathered 26 = .ok (.ireturn, 1) := by decide +kernel
abbrev cX4_gatherOthers : ByteArray := prog_6_method_5_code
def yX4_gatherOthers : MethodName := ⟨RX4, "gatherOthers", "(LQlRewrite$Form;)I"⟩
def wkX4_gatherOthers : List Cond := .code yX4_gatherOthers cX4_gatherOthers 4 (some .int) :: qW
set_option maxRecDepth 40000 in
theorem gkX4_gatherOthers : GoodIn qW wkX4_gatherOthers := q_good (qw 402 rfl rfl)
set_option maxRecDepth 40000 in
theorem knX4_gatherOthers : Cond.instanceMethod yX4_gatherOthers ∈ qW := qw 401 rfl rfl
set_option maxRecDepth 40000 in
theorem klX4_gatherOthers : Cond.selects RX4 yX4_gatherOthers yX4_gatherOthers ∈ qW := qw 2 rfl rfl
theorem dX4_gatherOthers_0 : decode cX4_gatherOthers 0 = .ok (.iconst 0, 1) := by decide +kernel
theorem dX4_gatherOthers_1 : decode cX4_gatherOthers 1 = .ok (.istore_n 2, 1) := by decide +kernel
theorem dX4_gatherOthers_2 : decode cX4_gatherOthers 2 = .ok (.iconst 0, 1) := by decide +kernel
theorem dX4_gatherOthers_3 : decode cX4_gatherOthers 3 = .ok (.istore_n 3, 1) := by decide +kernel
theorem dX4_gatherOthers_4 : decode cX4_gatherOthers 4 = .ok (.iload_n 3, 1) := by decide +kernel
theorem dX4_gatherOthers_5 : decode cX4_gatherOthers 5 = .ok (.iconst 2, 1) := by decide +kernel
theorem dX4_gatherOthers_6 : decode cX4_gatherOthers 6 = .ok (.aload_n 1, 1) := by decide +kernel
theorem dX4_gatherOthers_7 : decode cX4_gatherOthers 7 = .ok (.getfield 48, 3) := by decide +kernel
theorem dX4_gatherOthers_10 : decode cX4_gatherOthers 10 = .ok (.imul, 1) := by decide +kernel
theorem dX4_gatherOthers_11 : decode cX4_gatherOthers 11 = .ok (.if_icmp .ge 55, 3) := by decide +kernel
theorem dX4_gatherOthers_14 : decode cX4_gatherOthers 14 = .ok (.aload_n 1, 1) := by decide +kernel
theorem dX4_gatherOthers_15 : decode cX4_gatherOthers 15 = .ok (.getfield 52, 3) := by decide +kernel
theorem dX4_gatherOthers_18 : decode cX4_gatherOthers 18 = .ok (.iload_n 3, 1) := by decide +kernel
theorem dX4_gatherOthers_19 : decode cX4_gatherOthers 19 = .ok (.iaload, 1) := by decide +kernel
theorem dX4_gatherOthers_20 : decode cX4_gatherOthers 20 = .ok (.invokestatic 55, 3) := by decide +kernel
theorem dX4_gatherOthers_23 : decode cX4_gatherOthers 23 = .ok (.ifCond .eq 37, 3) := by decide +kernel
theorem dX4_gatherOthers_26 : decode cX4_gatherOthers 26 = .ok (.aload_n 0, 1) := by decide +kernel
theorem dX4_gatherOthers_27 : decode cX4_gatherOthers 27 = .ok (.aload_n 1, 1) := by decide +kernel
theorem dX4_gatherOthers_28 : decode cX4_gatherOthers 28 = .ok (.getfield 52, 3) := by decide +kernel
theorem dX4_gatherOthers_31 : decode cX4_gatherOthers 31 = .ok (.iload_n 3, 1) := by decide +kernel
theorem dX4_gatherOthers_32 : decode cX4_gatherOthers 32 = .ok (.iaload, 1) := by decide +kernel
theorem dX4_gatherOthers_33 : decode cX4_gatherOthers 33 = .ok (.iload_n 2, 1) := by decide +kernel
theorem dX4_gatherOthers_34 : decode cX4_gatherOthers 34 = .ok (.invokevirtual 63, 3) := by decide +kernel
theorem dX4_gatherOthers_37 : decode cX4_gatherOthers 37 = .ok (.ifCond .ne 23, 3) := by decide +kernel
theorem dX4_gatherOthers_40 : decode cX4_gatherOthers 40 = .ok (.iload_n 2, 1) := by decide +kernel
theorem dX4_gatherOthers_41 : decode cX4_gatherOthers 41 = .ok (.iconst 4, 1) := by decide +kernel
theorem dX4_gatherOthers_42 : decode cX4_gatherOthers 42 = .ok (.if_icmp .ge 18, 3) := by decide +kernel
theorem dX4_gatherOthers_45 : decode cX4_gatherOthers 45 = .ok (.aload_n 0, 1) := by decide +kernel
theorem dX4_gatherOthers_46 : decode cX4_gatherOthers 46 = .ok (.getfield 15, 3) := by decide +kernel
theorem dX4_gatherOthers_49 : decode cX4_gatherOthers 49 = .ok (.iload_n 2, 1) := by decide +kernel
theorem dX4_gatherOthers_50 : decode cX4_gatherOthers 50 = .ok (.aload_n 1, 1) := by decide +kernel
theorem dX4_gatherOthers_51 : decode cX4_gatherOthers 51 = .ok (.getfield 52, 3) := by decide +kernel
theorem dX4_gatherOthers_54 : decode cX4_gatherOthers 54 = .ok (.iload_n 3, 1) := by decide +kernel
theorem dX4_gatherOthers_55 : decode cX4_gatherOthers 55 = .ok (.iaload, 1) := by decide +kernel
theorem dX4_gatherOthers_56 : decode cX4_gatherOthers 56 = .ok (.iastore, 1) := by decide +kernel
theorem dX4_gatherOthers_57 : decode cX4_gatherOthers 57 = .ok (.iinc 2 1, 3) := by decide +kernel
theorem dX4_gatherOthers_60 : decode cX4_gatherOthers 60 = .ok (.iinc 3 1, 3) := by decide +kernel
theorem dX4_gatherOthers_63 : decode cX4_gatherOthers 63 = .ok (.goto (-59), 3) := by decide +kernel
theorem dX4_gatherOthers_66 : decode cX4_gatherOthers 66 = .ok (.iload_n 2, 1) := by decide +kernel
theorem dX4_gatherOthers_67 : decode cX4_gatherOthers 67 = .ok (.ireturn, 1) := by decide +kernel
abbrev cX4_sortCodes : ByteArray := prog_6_method_7_code
def yX4_sortCodes : MethodName := ⟨RX4, "sortCodes", "(LQlRewrite$Form;)V"⟩
def wkX4_sortCodes : List Cond := .code yX4_sortCodes cX4_sortCodes 7 none :: qW
set_option maxRecDepth 40000 in
theorem gkX4_sortCodes : GoodIn qW wkX4_sortCodes := q_good (qw 414 rfl rfl)
set_option maxRecDepth 40000 in
theorem knX4_sortCodes : Cond.instanceMethod yX4_sortCodes ∈ qW := qw 413 rfl rfl
set_option maxRecDepth 40000 in
theorem klX4_sortCodes : Cond.selects RX4 yX4_sortCodes yX4_sortCodes ∈ qW := qw 4 rfl rfl
theorem dX4_sortCodes_0 : decode cX4_sortCodes 0 = .ok (.iconst 0, 1) := by decide +kernel
theorem dX4_sortCodes_1 : decode cX4_sortCodes 1 = .ok (.istore_n 2, 1) := by decide +kernel
theorem dX4_sortCodes_2 : decode cX4_sortCodes 2 = .ok (.iload_n 2, 1) := by decide +kernel
theorem dX4_sortCodes_3 : decode cX4_sortCodes 3 = .ok (.aload_n 1, 1) := by decide +kernel
theorem dX4_sortCodes_4 : decode cX4_sortCodes 4 = .ok (.getfield 48, 3) := by decide +kernel
theorem dX4_sortCodes_7 : decode cX4_sortCodes 7 = .ok (.if_icmp .ge 112, 3) := by decide +kernel
theorem dX4_sortCodes_10 : decode cX4_sortCodes 10 = .ok (.aload_n 0, 1) := by decide +kernel
theorem dX4_sortCodes_11 : decode cX4_sortCodes 11 = .ok (.getfield 9, 3) := by decide +kernel
theorem dX4_sortCodes_14 : decode cX4_sortCodes 14 = .ok (.aload_n 1, 1) := by decide +kernel
theorem dX4_sortCodes_15 : decode cX4_sortCodes 15 = .ok (.getfield 52, 3) := by decide +kernel
theorem dX4_sortCodes_18 : decode cX4_sortCodes 18 = .ok (.iconst 2, 1) := by decide +kernel
theorem dX4_sortCodes_19 : decode cX4_sortCodes 19 = .ok (.iload_n 2, 1) := by decide +kernel
theorem dX4_sortCodes_20 : decode cX4_sortCodes 20 = .ok (.imul, 1) := by decide +kernel
theorem dX4_sortCodes_21 : decode cX4_sortCodes 21 = .ok (.iaload, 1) := by decide +kernel
theorem dX4_sortCodes_22 : decode cX4_sortCodes 22 = .ok (.iaload, 1) := by decide +kernel
theorem dX4_sortCodes_23 : decode cX4_sortCodes 23 = .ok (.istore_n 3, 1) := by decide +kernel
theorem dX4_sortCodes_24 : decode cX4_sortCodes 24 = .ok (.aload_n 0, 1) := by decide +kernel
theorem dX4_sortCodes_25 : decode cX4_sortCodes 25 = .ok (.getfield 9, 3) := by decide +kernel
theorem dX4_sortCodes_28 : decode cX4_sortCodes 28 = .ok (.aload_n 1, 1) := by decide +kernel
theorem dX4_sortCodes_29 : decode cX4_sortCodes 29 = .ok (.getfield 52, 3) := by decide +kernel
theorem dX4_sortCodes_32 : decode cX4_sortCodes 32 = .ok (.iconst 2, 1) := by decide +kernel
theorem dX4_sortCodes_33 : decode cX4_sortCodes 33 = .ok (.iload_n 2, 1) := by decide +kernel
theorem dX4_sortCodes_34 : decode cX4_sortCodes 34 = .ok (.imul, 1) := by decide +kernel
theorem dX4_sortCodes_35 : decode cX4_sortCodes 35 = .ok (.iconst 1, 1) := by decide +kernel
theorem dX4_sortCodes_36 : decode cX4_sortCodes 36 = .ok (.iadd, 1) := by decide +kernel
theorem dX4_sortCodes_37 : decode cX4_sortCodes 37 = .ok (.iaload, 1) := by decide +kernel
theorem dX4_sortCodes_38 : decode cX4_sortCodes 38 = .ok (.iaload, 1) := by decide +kernel
theorem dX4_sortCodes_39 : decode cX4_sortCodes 39 = .ok (.istore 4, 2) := by decide +kernel
theorem dX4_sortCodes_41 : decode cX4_sortCodes 41 = .ok (.bipush 64, 2) := by decide +kernel
theorem dX4_sortCodes_43 : decode cX4_sortCodes 43 = .ok (.aload_n 1, 1) := by decide +kernel
theorem dX4_sortCodes_44 : decode cX4_sortCodes 44 = .ok (.getfield 67, 3) := by decide +kernel
theorem dX4_sortCodes_47 : decode cX4_sortCodes 47 = .ok (.iload_n 2, 1) := by decide +kernel
theorem dX4_sortCodes_48 : decode cX4_sortCodes 48 = .ok (.iaload, 1) := by decide +kernel
theorem dX4_sortCodes_49 : decode cX4_sortCodes 49 = .ok (.imul, 1) := by decide +kernel
theorem dX4_sortCodes_50 : decode cX4_sortCodes 50 = .ok (.bipush 8, 2) := by decide +kernel
theorem dX4_sortCodes_52 : decode cX4_sortCodes 52 = .ok (.iload_n 3, 1) := by decide +kernel
theorem dX4_sortCodes_53 : decode cX4_sortCodes 53 = .ok (.imul, 1) := by decide +kernel
theorem dX4_sortCodes_54 : decode cX4_sortCodes 54 = .ok (.iadd, 1) := by decide +kernel
theorem dX4_sortCodes_55 : decode cX4_sortCodes 55 = .ok (.iload 4, 2) := by decide +kernel
theorem dX4_sortCodes_57 : decode cX4_sortCodes 57 = .ok (.iadd, 1) := by decide +kernel
theorem dX4_sortCodes_58 : decode cX4_sortCodes 58 = .ok (.istore 5, 2) := by decide +kernel
theorem dX4_sortCodes_60 : decode cX4_sortCodes 60 = .ok (.iload_n 2, 1) := by decide +kernel
theorem dX4_sortCodes_61 : decode cX4_sortCodes 61 = .ok (.istore 6, 2) := by decide +kernel
theorem dX4_sortCodes_63 : decode cX4_sortCodes 63 = .ok (.iload 6, 2) := by decide +kernel
theorem dX4_sortCodes_65 : decode cX4_sortCodes 65 = .ok (.ifCond .le 39, 3) := by decide +kernel
theorem dX4_sortCodes_68 : decode cX4_sortCodes 68 = .ok (.aload_n 0, 1) := by decide +kernel
theorem dX4_sortCodes_69 : decode cX4_sortCodes 69 = .ok (.getfield 18, 3) := by decide +kernel
theorem dX4_sortCodes_72 : decode cX4_sortCodes 72 = .ok (.iload 6, 2) := by decide +kernel
theorem dX4_sortCodes_74 : decode cX4_sortCodes 74 = .ok (.iconst 1, 1) := by decide +kernel
theorem dX4_sortCodes_75 : decode cX4_sortCodes 75 = .ok (.isub, 1) := by decide +kernel
theorem dX4_sortCodes_76 : decode cX4_sortCodes 76 = .ok (.iaload, 1) := by decide +kernel
theorem dX4_sortCodes_77 : decode cX4_sortCodes 77 = .ok (.iload 5, 2) := by decide +kernel
theorem dX4_sortCodes_79 : decode cX4_sortCodes 79 = .ok (.if_icmp .le 25, 3) := by decide +kernel
theorem dX4_sortCodes_82 : decode cX4_sortCodes 82 = .ok (.aload_n 0, 1) := by decide +kernel
theorem dX4_sortCodes_83 : decode cX4_sortCodes 83 = .ok (.getfield 18, 3) := by decide +kernel
theorem dX4_sortCodes_86 : decode cX4_sortCodes 86 = .ok (.iload 6, 2) := by decide +kernel
theorem dX4_sortCodes_88 : decode cX4_sortCodes 88 = .ok (.aload_n 0, 1) := by decide +kernel
theorem dX4_sortCodes_89 : decode cX4_sortCodes 89 = .ok (.getfield 18, 3) := by decide +kernel
theorem dX4_sortCodes_92 : decode cX4_sortCodes 92 = .ok (.iload 6, 2) := by decide +kernel
theorem dX4_sortCodes_94 : decode cX4_sortCodes 94 = .ok (.iconst 1, 1) := by decide +kernel
theorem dX4_sortCodes_95 : decode cX4_sortCodes 95 = .ok (.isub, 1) := by decide +kernel
theorem dX4_sortCodes_96 : decode cX4_sortCodes 96 = .ok (.iaload, 1) := by decide +kernel
theorem dX4_sortCodes_97 : decode cX4_sortCodes 97 = .ok (.iastore, 1) := by decide +kernel
theorem dX4_sortCodes_98 : decode cX4_sortCodes 98 = .ok (.iinc 6 (-1), 3) := by decide +kernel
theorem dX4_sortCodes_101 : decode cX4_sortCodes 101 = .ok (.goto (-38), 3) := by decide +kernel
theorem dX4_sortCodes_104 : decode cX4_sortCodes 104 = .ok (.aload_n 0, 1) := by decide +kernel
theorem dX4_sortCodes_105 : decode cX4_sortCodes 105 = .ok (.getfield 18, 3) := by decide +kernel
theorem dX4_sortCodes_108 : decode cX4_sortCodes 108 = .ok (.iload 6, 2) := by decide +kernel
theorem dX4_sortCodes_110 : decode cX4_sortCodes 110 = .ok (.iload 5, 2) := by decide +kernel
theorem dX4_sortCodes_112 : decode cX4_sortCodes 112 = .ok (.iastore, 1) := by decide +kernel
theorem dX4_sortCodes_113 : decode cX4_sortCodes 113 = .ok (.iinc 2 1, 3) := by decide +kernel
theorem dX4_sortCodes_116 : decode cX4_sortCodes 116 = .ok (.goto (-114), 3) := by decide +kernel
theorem dX4_sortCodes_119 : decode cX4_sortCodes 119 = .ok (.return_, 1) := by decide +kernel
set_option maxRecDepth 40000 in
theorem kmX3_59 : Cond.methodLink RX3 59 Lib.Math.max.name ∈ qW := qw 468 rfl rfl
set_option maxRecDepth 40000 in
theorem k_mmax_s : Cond.static Lib.Math.max.name ∈ qW := qw 469 rfl rfl
set_option maxRecDepth 40000 in
theorem k_mmax_c : Cond.code Lib.Math.max.name Lib.Math.max.code 2 (some .int) ∈ qW := qw 470 rfl rfl
set_option maxRecDepth 40000 in
theorem kmX3_62 : Cond.methodLink RX3 62 yX3_rename ∈ qW := qw 471 rfl rfl
set_option maxRecDepth 40000 in
theorem kfX4_48 : Cond.fieldLink RX4 48 "QlRewrite$Form" "size" "I" ∈ qW := qw 143 rfl rfl
set_option maxRecDepth 40000 in
theorem kfX4_52 : Cond.fieldLink RX4 52 "QlRewrite$Form" "places" "[I" ∈ qW := qw 136 rfl rfl
set_option maxRecDepth 40000 in
theorem kmX4_55 : Cond.methodLink RX4 55 yX4_isOther ∈ qW := qw 392 rfl rfl
set_option maxRecDepth 40000 in
theorem kmX4_59 : Cond.methodLink RX4 59 yX3_timesOf ∈ qW := qw 395 rfl rfl
set_option maxRecDepth 40000 in
theorem kfX4_15 : Cond.fieldLink RX4 15 "QlRewrite$Namer" "others" "[I" ∈ qW := qw 215 rfl rfl
set_option maxRecDepth 40000 in
theorem kmX4_63 : Cond.methodLink RX4 63 yX4_isGathered ∈ qW := qw 403 rfl rfl
set_option maxRecDepth 40000 in
theorem kfX4_9 : Cond.fieldLink RX4 9 "QlRewrite$Namer" "named" "[I" ∈ qW := qw 214 rfl rfl
set_option maxRecDepth 40000 in
theorem kfX4_67 : Cond.fieldLink RX4 67 "QlRewrite$Form" "names" "[I" ∈ qW := qw 134 rfl rfl
set_option maxRecDepth 40000 in
theorem kfX4_18 : Cond.fieldLink RX4 18 "QlRewrite$Namer" "codes" "[I" ∈ qW := qw 216 rfl rfl
abbrev rm_c_Form_dropEqual : Room := { frames := 0, cells := 0, slots := 0, locals := 0 }
set_option maxHeartbeats 4000000 in
set_option maxRecDepth 100000 in
theorem c_Form_dropEqual (l : Launch) (dC : Nat → ClassId) (dI : Nat → Nat → Nat) (cI cL cQ cZ : ClassId) (h0 : Nat) (a1 : Nat) (a2 : Nat) (n : Nat) (jn : Bool) (nm : Nat → Nat) (pl : Nat → Nat) (hn : n ≤ 4) (hnm : ∀ j, nm j < 64) (hpl : ∀ j, pl j < 16) : Met l yX3_dropEqual wkX3_dropEqual rm_c_Form_dropEqual (q_W (dC, dI) qCl (qT cI cL cQ cZ) [(h0, .inr (3, [.ref a1, .ref a2, .int (nI (n)), .int (bI (jn))])), (a1, .inl (cI, 4, .inl (nF nm))), (a2, .inl (cI, 8, .inl (nF pl)))] [.ref h0]) (va_Qv (fun (u : Nat × (Nat → Nat) × (Nat → Nat)) => (u.1 ≤ n) ∧ (∀ j, u.2.1 j < 64) ∧ (∀ j, u.2.2 j < 16) ∧ (f_set nm pl n u.2.1 u.2.2 u.1) ∧ (f_ndi u.2.1 u.2.2 u.1 u.1)) (fun (u : Nat × (Nat → Nat) × (Nat → Nat)) t => va_P (dC, dI) qCl [(h0, .inr (3, [.ref a1, .ref a2, .int (nI (u.1)), .int (bI (jn))])), (a1, .inl (cI, 4, .inl (nF u.2.1))), (a2, .inl (cI, 8, .inl (nF u.2.2)))] t.heap) (q_A [(h0, .inr (3, [.ref a1, .ref a2, .int (nI (n)), .int (bI (jn))])), (a1, .inl (cI, 4, .inl (nF nm))), (a2, .inl (cI, 8, .inl (nF pl)))])) 0 0 (q_A [(h0, .inr (3, [.ref a1, .ref a2, .int (nI (n)), .int (bI (jn))])), (a1, .inl (cI, 4, .inl (nF nm))), (a2, .inl (cI, 8, .inl (nF pl)))]) := by
  refine Met.ofW (cc := cX3_dropEqual) (maxL := 3) (ret := none) (by decide) rfl ?_
  intro p e s m args below meth c s₁ B hml hv
  obtain ⟨hargs, hP, hK, hD0⟩ := hv
  have hx := B.exec
  have hb := B.bytes
  have hr := B.returns
  have hts : ∀ w ∈ qW, w.before args s = true := fun w h => atoms_spec (ws := wkX3_dropEqual) B.pre w (List.mem_cons_of_mem _ h)
  have hown : s.vm.findClass RX3 = some m.cls := findClass_of_methodNamed B.named
  have hlocks := B.notSynchronized
  refine q_named (fun Q hQ => ?_)
  have hD : va_D (q_A [(h0, .inr (3, [.ref a1, .ref a2, .int (nI (n)), .int (bI (jn))])), (a1, .inl (cI, 4, .inl (nF nm))), (a2, .inl (cI, 8, .inl (nF pl)))]) [(h0, .inr (3, [.ref a1, .ref a2, .int (nI (n)), .int (bI (jn))])), (a1, .inl (cI, 4, .inl (nF nm))), (a2, .inl (cI, 8, .inl (nF pl)))] := ⟨hD0.1, fun k q h => ⟨k, q.2, h⟩⟩
  generalize hAe : q_A [(h0, .inr (3, [.ref a1, .ref a2, .int (nI (n)), .int (bI (jn))])), (a1, .inl (cI, 4, .inl (nF nm))), (a2, .inl (cI, 8, .inl (nF pl)))] = A at hD
  have hS : va_S A s.heap s.heap [] := va_S.rf
  refine q_entry hargs (Nat.le_of_ble_eq_true rfl) (fun ls hl => ?_)
  have hl : lv_has ls 3 [(0, .ref h0)] := hl
  obtain ⟨H, locs, eH, eL⟩ : ∃ (H : Heap) (locs : List Loc), s.heap = H ∧ ([] : List Loc) = locs := ⟨_, _, rfl, rfl⟩
  have hS : va_S A s.heap H locs := by rw [← eH, ← eL]; exact hS
  have hP : va_P (dC, dI) qCl [(h0, .inr (3, [.ref a1, .ref a2, .int (nI (n)), .int (bI (jn))])), (a1, .inl (cI, 4, .inl (nF nm))), (a2, .inl (cI, 8, .inl (nF pl)))] H := by rw [← eH]; exact hP
  refine W_at eH eL ?_
  refine lv_iconst (v := (nI (0))) hx hb dX3_dropEqual_0 (by decide) ?_
  refine lv_istore_n (lv' := [(1, .int (nI (0))), (0, .ref h0)]) hx hb dX3_dropEqual_1 rfl hl (by decide) rfl (fun ls hl => ?_)
  have L2 : ∀ (fu : Nat) (g1 : Nat → Nat) (g2 : Nat → Nat) (sz : Nat) (i : Nat) (ls : Array Slot) (H : Heap) (locs : List Loc), n - i < fu → (∀ j, g1 j < 64) → (∀ j, g2 j < 16) → (sz ≤ n ∧ i ≤ n) → (f_set nm pl n g1 g2 sz) → (f_ndi g1 g2 i sz) → lv_has ls 3 [(1, .int (nI (i))), (0, .ref h0)] → va_P (dC, dI) qCl [(h0, .inr (3, [.ref a1, .ref a2, .int (nI (sz)), .int (bI (jn))])), (a1, .inl (cI, 4, .inl (nF g1))), (a2, .inl (cI, 8, .inl (nF g2)))] H → va_D A [(h0, .inr (3, [.ref a1, .ref a2, .int (nI (sz)), .int (bI (jn))])), (a1, .inl (cI, 4, .inl (nF g1))), (a2, .inl (cI, 8, .inl (nF g2)))] → va_S A s.heap H locs → W p l e (headSpec wkX3_dropEqual rm_c_Form_dropEqual).room s m args below meth c H locs 0 0 Q (F0 m 2 ls []) := by
    intro fu
    induction fu with
    | zero => intro g1 g2 sz i ls H locs hmu; exact absurd hmu (Nat.not_lt_zero _)
    | succ fu ih2 =>
      intro g1 g2 sz i ls H locs hmu hg1 hg2 hsz hset hnd hl hP hD hS
      refine lv_iload_n hx hb dX3_dropEqual_2 rfl (lv_at hl 0 rfl) ?_
      refine lv_aload_n hx hb dX3_dropEqual_3 rfl (lv_at hl 1 rfl) ?_
      refine va_get (D := (dC, dI)) (ci := 3) (v := .int (nI (sz))) (C := RX3) (T := TX3) (N := 4) hx hb hts uX3 hown hK hP 0 rfl rfl 2 (by decide) (hts _ kfX3_18) (fun _ h9 => h9) rfl dX3_dropEqual_4 ?_
      refine q_icmp_ge (x := i) (y := sz) (tgt := 158) hx hb dX3_dropEqual_7 (by decide) (by omega) (by omega) (fun c7_1 => ?_) (fun c7_1 => ?_)
      · subst hQ
        subst hAe
        have hP9 := hP.sub (ws' := [(h0, .inr (3, [.ref a1, .ref a2, .int (nI (sz)), .int (bI (jn))])), (a1, .inl (cI, 4, .inl (nF g1))), (a2, .inl (cI, 8, .inl (nF g2)))]) [0, 1, 2] rfl
        exact W.vret hx hb hr (fun t9 h9 _ => ⟨⟨(sz, g1, g2), rfl, ⟨(show sz ≤ n from by (omega)), (show ∀ j, g1 j < 64 from by (exact hg1)), (show ∀ j, g2 j < 16 from by (exact hg2)), (show f_set nm pl n g1 g2 sz from by (exact hset)), (show f_ndi g1 g2 sz sz from by (intro a c ha hac hc; exact hnd a c (by omega) hac hc))⟩, by show va_P _ _ _ t9.heap; rw [h9]; exact hP9⟩, hS.F h9⟩) hS.2.2 dX3_dropEqual_158
      · refine lv_aload_n hx hb dX3_dropEqual_10 rfl (lv_at hl 1 rfl) ?_
        refine va_get (D := (dC, dI)) (ci := 3) (v := .int (nI (sz))) (C := RX3) (T := TX3) (N := 4) hx hb hts uX3 hown hK hP 0 rfl rfl 2 (by decide) (hts _ kfX3_18) (fun _ h9 => h9) rfl dX3_dropEqual_11 ?_
        refine lv_iconst (v := (nI (1))) hx hb dX3_dropEqual_14 (by decide) ?_
        refine q_isub (x := sz) (y := 1) hx hb (by omega) dX3_dropEqual_15 ?_
        refine lv_istore_n (lv' := [(2, .int (nI (sz - 1))), (1, .int (nI (i))), (0, .ref h0)]) hx hb dX3_dropEqual_16 rfl hl (by decide) rfl (fun ls hl => ?_)
        have L17 : ∀ (fu : Nat) (h1 : Nat → Nat) (h2 : Nat → Nat) (s2 : Nat) (k : Nat) (ls : Array Slot) (H : Heap) (locs : List Loc), k < fu → (∀ j, h1 j < 64) → (∀ j, h2 j < 16) → (s2 ≤ n ∧ i < s2 ∧ k < s2) → (f_set nm pl n h1 h2 s2) → (f_ndi h1 h2 i s2) → (∀ c7, k < c7 → c7 < s2 → f_at h1 h2 i ≠ f_at h1 h2 c7) → lv_has ls 3 [(2, .int (nI (k))), (1, .int (nI (i))), (0, .ref h0)] → va_P (dC, dI) qCl [(h0, .inr (3, [.ref a1, .ref a2, .int (nI (s2)), .int (bI (jn))])), (a1, .inl (cI, 4, .inl (nF h1))), (a2, .inl (cI, 8, .inl (nF h2)))] H → va_D A [(h0, .inr (3, [.ref a1, .ref a2, .int (nI (s2)), .int (bI (jn))])), (a1, .inl (cI, 4, .inl (nF h1))), (a2, .inl (cI, 8, .inl (nF h2)))] → va_S A s.heap H locs → W p l e (headSpec wkX3_dropEqual rm_c_Form_dropEqual).room s m args below meth c H locs 0 0 Q (F0 m 17 ls []) := by
          intro fu
          induction fu with
          | zero => intro h1 h2 s2 k ls H locs hmu; exact absurd hmu (Nat.not_lt_zero _)
          | succ fu ih17 =>
            intro h1 h2 s2 k ls H locs hmu hh1 hh2 hs2 hset2 hnd2 hin hl hP hD hS
            refine lv_iload_n hx hb dX3_dropEqual_17 rfl (lv_at hl 0 rfl) ?_
            refine lv_iload_n hx hb dX3_dropEqual_18 rfl (lv_at hl 1 rfl) ?_
            refine q_icmp_le (x := k) (y := i) (tgt := 152) hx hb dX3_dropEqual_19 (by decide) (by omega) (by omega) (fun c19_2 => ?_) (fun c19_2 => ?_)
            · refine lv_iinc (v := (nI (i + 1))) (lv' := [(1, .int (nI (i + 1))), (2, .int (nI (k))), (0, .ref h0)]) hx hb dX3_dropEqual_152 hl (k := 1) rfl (q_inc _) (by decide) rfl (fun ls hl => ?_)
              refine lv_goto (tgt := 2) hx hb dX3_dropEqual_155 (by decide) ?_
              exact ih2 h1 h2 s2 (i + 1) ls _ _ (by omega) (show ∀ j, h1 j < 64 from by (exact hh1)) (show ∀ j, h2 j < 16 from by (exact hh2)) (show s2 ≤ n ∧ (i + 1) ≤ n from by omega) (show f_set nm pl n h1 h2 s2 from by (exact hset2)) (show f_ndi h1 h2 (i + 1) s2 from by (exact f_ndi_s hnd2 hin (by omega))) (lv_sub hl [0, 2] rfl) (hP.sub [0, 1, 2] rfl) (hD.sub [0, 1, 2] (by decide) rfl) hS
            · refine lv_aload_n hx hb dX3_dropEqual_22 rfl (lv_at hl 2 rfl) ?_
              refine va_get (D := (dC, dI)) (ci := 3) (v := .ref a1) (C := RX3) (T := TX3) (N := 4) hx hb hts uX3 hown hK hP 0 rfl rfl 0 (by decide) (hts _ kfX3_11) (fun _ h9 => h9) rfl dX3_dropEqual_23 ?_
              refine lv_iload_n hx hb dX3_dropEqual_26 rfl (lv_at hl 1 rfl) ?_
              refine q_ialdN hx hb hK hP 1 0 rfl rfl (j := i) (by omega) (by omega) dX3_dropEqual_27 ?_
              have bd3 := hh1 i
              refine lv_aload_n hx hb dX3_dropEqual_28 rfl (lv_at hl 2 rfl) ?_
              refine va_get (D := (dC, dI)) (ci := 3) (v := .ref a1) (C := RX3) (T := TX3) (N := 4) hx hb hts uX3 hown hK hP 0 rfl rfl 0 (by decide) (hts _ kfX3_11) (fun _ h9 => h9) rfl dX3_dropEqual_29 ?_
              refine lv_iload_n hx hb dX3_dropEqual_32 rfl (lv_at hl 0 rfl) ?_
              refine q_ialdN hx hb hK hP 1 0 rfl rfl (j := k) (by omega) (by omega) dX3_dropEqual_33 ?_
              have bd4 := hh1 k
              refine q_icmp_ne (x := h1 i) (y := h1 k) (tgt := 146) hx hb dX3_dropEqual_34 (by decide) (by omega) (by omega) (fun c34_5 => ?_) (fun c34_5 => ?_)
              · refine lv_iinc (v := (nI (k - 1))) (lv' := [(2, .int (nI (k - 1))), (1, .int (nI (i))), (0, .ref h0)]) hx hb dX3_dropEqual_146 hl (k := 0) rfl (q_dec (by omega)) (by decide) rfl (fun ls hl => ?_)
                refine lv_goto (tgt := 17) hx hb dX3_dropEqual_149 (by decide) ?_
                exact ih17 h1 h2 s2 (k - 1) ls _ _ (by omega) (show ∀ j, h1 j < 64 from by (first | exact hh1 | exact up_lt hh1 (hh1 _))) (show ∀ j, h2 j < 16 from by (first | exact hh2 | exact up_lt (up_lt hh2 (hh2 _)) (hh2 _))) (show s2 ≤ n ∧ i < s2 ∧ (k - 1) < s2 from by omega) (show f_set nm pl n h1 h2 s2 from by (first | exact hset2 | (exact f_del_set hset2 (by omega) (by omega) (by unfold f_at; simp only [Prod.mk.injEq]; omega)))) (show f_ndi h1 h2 i s2 from by (first | exact hnd2 | exact f_del_ndi hnd2 (by omega) (by omega))) (show ∀ c7, (k - 1) < c7 → c7 < s2 → f_at h1 h2 i ≠ f_at h1 h2 c7 from by (first | (exact f_keep_i hin (f_at_ne (by omega)) (by omega)) | (exact f_del_i hin (by omega) (by omega)))) (lv_sub hl [0, 1, 2] rfl) (hP.sub [0, 1, 2] rfl) (hD.sub [0, 1, 2] (by decide) rfl) hS
              · refine lv_aload_n hx hb dX3_dropEqual_37 rfl (lv_at hl 2 rfl) ?_
                refine va_get (D := (dC, dI)) (ci := 3) (v := .ref a2) (C := RX3) (T := TX3) (N := 4) hx hb hts uX3 hown hK hP 0 rfl rfl 1 (by decide) (hts _ kfX3_15) (fun _ h9 => h9) rfl dX3_dropEqual_38 ?_
                refine lv_iconst (v := (nI (2))) hx hb dX3_dropEqual_41 (by decide) ?_
                refine lv_iload_n hx hb dX3_dropEqual_42 rfl (lv_at hl 1 rfl) ?_
                refine q_imul (x := 2) (y := i) hx hb dX3_dropEqual_43 ?_
                refine q_ialdN hx hb hK hP 2 0 rfl rfl (j := 2 * i) (by omega) (by omega) dX3_dropEqual_44 ?_
                have bd6 := hh2 (2 * i)
                refine lv_aload_n hx hb dX3_dropEqual_45 rfl (lv_at hl 2 rfl) ?_
                refine va_get (D := (dC, dI)) (ci := 3) (v := .ref a2) (C := RX3) (T := TX3) (N := 4) hx hb hts uX3 hown hK hP 0 rfl rfl 1 (by decide) (hts _ kfX3_15) (fun _ h9 => h9) rfl dX3_dropEqual_46 ?_
                refine lv_iconst (v := (nI (2))) hx hb dX3_dropEqual_49 (by decide) ?_
                refine lv_iload_n hx hb dX3_dropEqual_50 rfl (lv_at hl 0 rfl) ?_
                refine q_imul (x := 2) (y := k) hx hb dX3_dropEqual_51 ?_
                refine q_ialdN hx hb hK hP 2 0 rfl rfl (j := 2 * k) (by omega) (by omega) dX3_dropEqual_52 ?_
                have bd7 := hh2 (2 * k)
                refine q_icmp_ne (x := h2 (2 * i)) (y := h2 (2 * k)) (tgt := 146) hx hb dX3_dropEqual_53 (by decide) (by omega) (by omega) (fun c53_8 => ?_) (fun c53_8 => ?_)
                · refine lv_iinc (v := (nI (k - 1))) (lv' := [(2, .int (nI (k - 1))), (1, .int (nI (i))), (0, .ref h0)]) hx hb dX3_dropEqual_146 hl (k := 0) rfl (q_dec (by omega)) (by decide) rfl (fun ls hl => ?_)
                  refine lv_goto (tgt := 17) hx hb dX3_dropEqual_149 (by decide) ?_
                  exact ih17 h1 h2 s2 (k - 1) ls _ _ (by omega) (show ∀ j, h1 j < 64 from by (first | exact hh1 | exact up_lt hh1 (hh1 _))) (show ∀ j, h2 j < 16 from by (first | exact hh2 | exact up_lt (up_lt hh2 (hh2 _)) (hh2 _))) (show s2 ≤ n ∧ i < s2 ∧ (k - 1) < s2 from by omega) (show f_set nm pl n h1 h2 s2 from by (first | exact hset2 | (exact f_del_set hset2 (by omega) (by omega) (by unfold f_at; simp only [Prod.mk.injEq]; omega)))) (show f_ndi h1 h2 i s2 from by (first | exact hnd2 | exact f_del_ndi hnd2 (by omega) (by omega))) (show ∀ c7, (k - 1) < c7 → c7 < s2 → f_at h1 h2 i ≠ f_at h1 h2 c7 from by (first | (exact f_keep_i hin (f_at_ne (by omega)) (by omega)) | (exact f_del_i hin (by omega) (by omega)))) (lv_sub hl [0, 1, 2] rfl) (hP.sub [0, 1, 2] rfl) (hD.sub [0, 1, 2] (by decide) rfl) hS
                · refine lv_aload_n hx hb dX3_dropEqual_56 rfl (lv_at hl 2 rfl) ?_
                  refine va_get (D := (dC, dI)) (ci := 3) (v := .ref a2) (C := RX3) (T := TX3) (N := 4) hx hb hts uX3 hown hK hP 0 rfl rfl 1 (by decide) (hts _ kfX3_15) (fun _ h9 => h9) rfl dX3_dropEqual_57 ?_
                  refine lv_iconst (v := (nI (2))) hx hb dX3_dropEqual_60 (by decide) ?_
                  refine lv_iload_n hx hb dX3_dropEqual_61 rfl (lv_at hl 1 rfl) ?_
                  refine q_imul (x := 2) (y := i) hx hb dX3_dropEqual_62 ?_
                  refine lv_iconst (v := (nI (1))) hx hb dX3_dropEqual_63 (by decide) ?_
                  refine q_iadd (x := 2 * i) (y := 1) hx hb dX3_dropEqual_64 ?_
                  refine q_ialdN hx hb hK hP 2 0 rfl rfl (j := (2 * i) + 1) (by omega) (by omega) dX3_dropEqual_65 ?_
                  have bd9 := hh2 ((2 * i) + 1)
                  refine lv_aload_n hx hb dX3_dropEqual_66 rfl (lv_at hl 2 rfl) ?_
                  refine va_get (D := (dC, dI)) (ci := 3) (v := .ref a2) (C := RX3) (T := TX3) (N := 4) hx hb hts uX3 hown hK hP 0 rfl rfl 1 (by decide) (hts _ kfX3_15) (fun _ h9 => h9) rfl dX3_dropEqual_67 ?_
                  refine lv_iconst (v := (nI (2))) hx hb dX3_dropEqual_70 (by decide) ?_
                  refine lv_iload_n hx hb dX3_dropEqual_71 rfl (lv_at hl 0 rfl) ?_
                  refine q_imul (x := 2) (y := k) hx hb dX3_dropEqual_72 ?_
                  refine lv_iconst (v := (nI (1))) hx hb dX3_dropEqual_73 (by decide) ?_
                  refine q_iadd (x := 2 * k) (y := 1) hx hb dX3_dropEqual_74 ?_
                  refine q_ialdN hx hb hK hP 2 0 rfl rfl (j := (2 * k) + 1) (by omega) (by omega) dX3_dropEqual_75 ?_
                  have bd10 := hh2 ((2 * k) + 1)
                  refine q_icmp_ne (x := h2 ((2 * i) + 1)) (y := h2 ((2 * k) + 1)) (tgt := 146) hx hb dX3_dropEqual_76 (by decide) (by omega) (by omega) (fun c76_11 => ?_) (fun c76_11 => ?_)
                  · refine lv_iinc (v := (nI (k - 1))) (lv' := [(2, .int (nI (k - 1))), (1, .int (nI (i))), (0, .ref h0)]) hx hb dX3_dropEqual_146 hl (k := 0) rfl (q_dec (by omega)) (by decide) rfl (fun ls hl => ?_)
                    refine lv_goto (tgt := 17) hx hb dX3_dropEqual_149 (by decide) ?_
                    exact ih17 h1 h2 s2 (k - 1) ls _ _ (by omega) (show ∀ j, h1 j < 64 from by (first | exact hh1 | exact up_lt hh1 (hh1 _))) (show ∀ j, h2 j < 16 from by (first | exact hh2 | exact up_lt (up_lt hh2 (hh2 _)) (hh2 _))) (show s2 ≤ n ∧ i < s2 ∧ (k - 1) < s2 from by omega) (show f_set nm pl n h1 h2 s2 from by (first | exact hset2 | (exact f_del_set hset2 (by omega) (by omega) (by unfold f_at; simp only [Prod.mk.injEq]; omega)))) (show f_ndi h1 h2 i s2 from by (first | exact hnd2 | exact f_del_ndi hnd2 (by omega) (by omega))) (show ∀ c7, (k - 1) < c7 → c7 < s2 → f_at h1 h2 i ≠ f_at h1 h2 c7 from by (first | (exact f_keep_i hin (f_at_ne (by omega)) (by omega)) | (exact f_del_i hin (by omega) (by omega)))) (lv_sub hl [0, 1, 2] rfl) (hP.sub [0, 1, 2] rfl) (hD.sub [0, 1, 2] (by decide) rfl) hS
                  · refine lv_aload_n hx hb dX3_dropEqual_79 rfl (lv_at hl 2 rfl) ?_
                    refine lv_dup hx hb dX3_dropEqual_80 rfl ?_
                    refine va_get (D := (dC, dI)) (ci := 3) (v := .int (nI (s2))) (C := RX3) (T := TX3) (N := 4) hx hb hts uX3 hown hK hP 0 rfl rfl 2 (by decide) (hts _ kfX3_18) (fun _ h9 => h9) rfl dX3_dropEqual_81 ?_
                    refine lv_iconst (v := (nI (1))) hx hb dX3_dropEqual_84 (by decide) ?_
                    refine q_isub (x := s2) (y := 1) hx hb (by omega) dX3_dropEqual_85 ?_
                    refine va_put (D := (dC, dI)) (ci := 3) (v := .int (nI (s2 - 1))) (ty := .int) (C := RX3) (T := TX3) (N := 4) hx hb hts uX3 tyX3 tyX3_ok nmX3 hown hK hP hD hS 0 rfl rfl 2 (by decide) (hts _ kfX3_18) (fun _ h9 => h9) rfl (by decide +kernel) (rfl) (rfl) (Nat.le_of_ble_eq_true rfl) dX3_dropEqual_86 (fun H locs hP hD hS => ?_)
                    have hP : va_P (dC, dI) qCl [(h0, .inr (3, [.ref a1, .ref a2, .int (nI (s2 - 1)), .int (bI (jn))])), (a1, .inl (cI, 4, .inl (nF h1))), (a2, .inl (cI, 8, .inl (nF h2)))] H := hP
                    have hD : va_D A [(h0, .inr (3, [.ref a1, .ref a2, .int (nI (s2 - 1)), .int (bI (jn))])), (a1, .inl (cI, 4, .inl (nF h1))), (a2, .inl (cI, 8, .inl (nF h2)))] := hD
                    refine lv_aload_n hx hb dX3_dropEqual_89 rfl (lv_at hl 2 rfl) ?_
                    refine va_get (D := (dC, dI)) (ci := 3) (v := .ref a1) (C := RX3) (T := TX3) (N := 4) hx hb hts uX3 hown hK hP 0 rfl rfl 0 (by decide) (hts _ kfX3_11) (fun _ h9 => h9) rfl dX3_dropEqual_90 ?_
                    refine lv_iload_n hx hb dX3_dropEqual_93 rfl (lv_at hl 0 rfl) ?_
                    refine lv_aload_n hx hb dX3_dropEqual_94 rfl (lv_at hl 2 rfl) ?_
                    refine va_get (D := (dC, dI)) (ci := 3) (v := .ref a1) (C := RX3) (T := TX3) (N := 4) hx hb hts uX3 hown hK hP 0 rfl rfl 0 (by decide) (hts _ kfX3_11) (fun _ h9 => h9) rfl dX3_dropEqual_95 ?_
                    refine lv_aload_n hx hb dX3_dropEqual_98 rfl (lv_at hl 2 rfl) ?_
                    refine va_get (D := (dC, dI)) (ci := 3) (v := .int (nI (s2 - 1))) (C := RX3) (T := TX3) (N := 4) hx hb hts uX3 hown hK hP 0 rfl rfl 2 (by decide) (hts _ kfX3_18) (fun _ h9 => h9) rfl dX3_dropEqual_99 ?_
                    refine q_ialdN hx hb hK hP 1 0 rfl rfl (j := s2 - 1) (by omega) (by omega) dX3_dropEqual_102 ?_
                    have bd12 := hh1 (s2 - 1)
                    refine q_iastN hx hb hK hP hD hS 1 0 rfl rfl (j := k) (x := h1 (s2 - 1)) (by omega) (by omega) dX3_dropEqual_103 (fun H locs hP hD hS => ?_)
                    have hP : va_P (dC, dI) qCl [(h0, .inr (3, [.ref a1, .ref a2, .int (nI (s2 - 1)), .int (bI (jn))])), (a1, .inl (cI, 4, .inl (nF (va_up h1 k (h1 (s2 - 1)))))), (a2, .inl (cI, 8, .inl (nF h2)))] H := hP
                    have hD : va_D A [(h0, .inr (3, [.ref a1, .ref a2, .int (nI (s2 - 1)), .int (bI (jn))])), (a1, .inl (cI, 4, .inl (nF (va_up h1 k (h1 (s2 - 1)))))), (a2, .inl (cI, 8, .inl (nF h2)))] := hD
                    refine lv_aload_n hx hb dX3_dropEqual_104 rfl (lv_at hl 2 rfl) ?_
                    refine va_get (D := (dC, dI)) (ci := 3) (v := .ref a2) (C := RX3) (T := TX3) (N := 4) hx hb hts uX3 hown hK hP 0 rfl rfl 1 (by decide) (hts _ kfX3_15) (fun _ h9 => h9) rfl dX3_dropEqual_105 ?_
                    refine lv_iconst (v := (nI (2))) hx hb dX3_dropEqual_108 (by decide) ?_
                    refine lv_iload_n hx hb dX3_dropEqual_109 rfl (lv_at hl 0 rfl) ?_
                    refine q_imul (x := 2) (y := k) hx hb dX3_dropEqual_110 ?_
                    refine lv_aload_n hx hb dX3_dropEqual_111 rfl (lv_at hl 2 rfl) ?_
                    refine va_get (D := (dC, dI)) (ci := 3) (v := .ref a2) (C := RX3) (T := TX3) (N := 4) hx hb hts uX3 hown hK hP 0 rfl rfl 1 (by decide) (hts _ kfX3_15) (fun _ h9 => h9) rfl dX3_dropEqual_112 ?_
                    refine lv_iconst (v := (nI (2))) hx hb dX3_dropEqual_115 (by decide) ?_
                    refine lv_aload_n hx hb dX3_dropEqual_116 rfl (lv_at hl 2 rfl) ?_
                    refine va_get (D := (dC, dI)) (ci := 3) (v := .int (nI (s2 - 1))) (C := RX3) (T := TX3) (N := 4) hx hb hts uX3 hown hK hP 0 rfl rfl 2 (by decide) (hts _ kfX3_18) (fun _ h9 => h9) rfl dX3_dropEqual_117 ?_
                    refine q_imul (x := 2) (y := s2 - 1) hx hb dX3_dropEqual_120 ?_
                    refine q_ialdN hx hb hK hP 2 0 rfl rfl (j := 2 * (s2 - 1)) (by omega) (by omega) dX3_dropEqual_121 ?_
                    have bd13 := hh2 (2 * (s2 - 1))
                    refine q_iastN hx hb hK hP hD hS 2 0 rfl rfl (j := 2 * k) (x := h2 (2 * (s2 - 1))) (by omega) (by omega) dX3_dropEqual_122 (fun H locs hP hD hS => ?_)
                    have hP : va_P (dC, dI) qCl [(h0, .inr (3, [.ref a1, .ref a2, .int (nI (s2 - 1)), .int (bI (jn))])), (a1, .inl (cI, 4, .inl (nF (va_up h1 k (h1 (s2 - 1)))))), (a2, .inl (cI, 8, .inl (nF (va_up h2 (2 * k) (h2 (2 * (s2 - 1)))))))] H := hP
                    have hD : va_D A [(h0, .inr (3, [.ref a1, .ref a2, .int (nI (s2 - 1)), .int (bI (jn))])), (a1, .inl (cI, 4, .inl (nF (va_up h1 k (h1 (s2 - 1)))))), (a2, .inl (cI, 8, .inl (nF (va_up h2 (2 * k) (h2 (2 * (s2 - 1)))))))] := hD
                    refine lv_aload_n hx hb dX3_dropEqual_123 rfl (lv_at hl 2 rfl) ?_
                    refine va_get (D := (dC, dI)) (ci := 3) (v := .ref a2) (C := RX3) (T := TX3) (N := 4) hx hb hts uX3 hown hK hP 0 rfl rfl 1 (by decide) (hts _ kfX3_15) (fun _ h9 => h9) rfl dX3_dropEqual_124 ?_
                    refine lv_iconst (v := (nI (2))) hx hb dX3_dropEqual_127 (by decide) ?_
                    refine lv_iload_n hx hb dX3_dropEqual_128 rfl (lv_at hl 0 rfl) ?_
                    refine q_imul (x := 2) (y := k) hx hb dX3_dropEqual_129 ?_
                    refine lv_iconst (v := (nI (1))) hx hb dX3_dropEqual_130 (by decide) ?_
                    refine q_iadd (x := 2 * k) (y := 1) hx hb dX3_dropEqual_131 ?_
                    refine lv_aload_n hx hb dX3_dropEqual_132 rfl (lv_at hl 2 rfl) ?_
                    refine va_get (D := (dC, dI)) (ci := 3) (v := .ref a2) (C := RX3) (T := TX3) (N := 4) hx hb hts uX3 hown hK hP 0 rfl rfl 1 (by decide) (hts _ kfX3_15) (fun _ h9 => h9) rfl dX3_dropEqual_133 ?_
                    refine lv_iconst (v := (nI (2))) hx hb dX3_dropEqual_136 (by decide) ?_
                    refine lv_aload_n hx hb dX3_dropEqual_137 rfl (lv_at hl 2 rfl) ?_
                    refine va_get (D := (dC, dI)) (ci := 3) (v := .int (nI (s2 - 1))) (C := RX3) (T := TX3) (N := 4) hx hb hts uX3 hown hK hP 0 rfl rfl 2 (by decide) (hts _ kfX3_18) (fun _ h9 => h9) rfl dX3_dropEqual_138 ?_
                    refine q_imul (x := 2) (y := s2 - 1) hx hb dX3_dropEqual_141 ?_
                    refine lv_iconst (v := (nI (1))) hx hb dX3_dropEqual_142 (by decide) ?_
                    refine q_iadd (x := 2 * (s2 - 1)) (y := 1) hx hb dX3_dropEqual_143 ?_
                    refine q_ialdN hx hb hK hP 2 0 rfl rfl (j := (2 * (s2 - 1)) + 1) (by omega) (by omega) dX3_dropEqual_144 ?_
                    refine q_top (show (nI ((va_up h2 (2 * k) (h2 (2 * (s2 - 1)))) ((2 * (s2 - 1)) + 1))) = (nI (h2 (2 * (s2 - 1) + 1))) from (congrArg nI (up_n _ _ (by omega)))) ?_
                    refine q_iastN hx hb hK hP hD hS 2 0 rfl rfl (j := (2 * k) + 1) (x := h2 (2 * (s2 - 1) + 1)) (by omega) (by omega) dX3_dropEqual_145 (fun H locs hP hD hS => ?_)
                    have hP : va_P (dC, dI) qCl [(h0, .inr (3, [.ref a1, .ref a2, .int (nI (s2 - 1)), .int (bI (jn))])), (a1, .inl (cI, 4, .inl (nF (va_up h1 k (h1 (s2 - 1)))))), (a2, .inl (cI, 8, .inl (nF (va_up (va_up h2 (2 * k) (h2 (2 * (s2 - 1)))) ((2 * k) + 1) (h2 (2 * (s2 - 1) + 1))))))] H := hP
                    have hD : va_D A [(h0, .inr (3, [.ref a1, .ref a2, .int (nI (s2 - 1)), .int (bI (jn))])), (a1, .inl (cI, 4, .inl (nF (va_up h1 k (h1 (s2 - 1)))))), (a2, .inl (cI, 8, .inl (nF (va_up (va_up h2 (2 * k) (h2 (2 * (s2 - 1)))) ((2 * k) + 1) (h2 (2 * (s2 - 1) + 1))))))] := hD
                    have hP : va_P (dC, dI) qCl [(h0, .inr (3, [.ref a1, .ref a2, .int (nI (s2 - 1)), .int (bI (jn))])), (a1, .inl (cI, 4, .inl (nF (va_up h1 k (h1 (s2 - 1)))))), (a2, .inl (cI, 8, .inl (nF (f_put h2 k (h2 (2 * (s2 - 1))) (h2 (2 * (s2 - 1) + 1))))))] H := hP
                    have hD : va_D A [(h0, .inr (3, [.ref a1, .ref a2, .int (nI (s2 - 1)), .int (bI (jn))])), (a1, .inl (cI, 4, .inl (nF (va_up h1 k (h1 (s2 - 1)))))), (a2, .inl (cI, 8, .inl (nF (f_put h2 k (h2 (2 * (s2 - 1))) (h2 (2 * (s2 - 1) + 1))))))] := hD
                    refine lv_iinc (v := (nI (k - 1))) (lv' := [(2, .int (nI (k - 1))), (1, .int (nI (i))), (0, .ref h0)]) hx hb dX3_dropEqual_146 hl (k := 0) rfl (q_dec (by omega)) (by decide) rfl (fun ls hl => ?_)
                    refine lv_goto (tgt := 17) hx hb dX3_dropEqual_149 (by decide) ?_
                    exact ih17 (va_up h1 k (h1 (s2 - 1))) (f_put h2 k (h2 (2 * (s2 - 1))) (h2 (2 * (s2 - 1) + 1))) (s2 - 1) (k - 1) ls _ _ (by omega) (show ∀ j, (va_up h1 k (h1 (s2 - 1))) j < 64 from by (first | exact hh1 | exact up_lt hh1 (hh1 _))) (show ∀ j, (f_put h2 k (h2 (2 * (s2 - 1))) (h2 (2 * (s2 - 1) + 1))) j < 16 from by (first | exact hh2 | exact up_lt (up_lt hh2 (hh2 _)) (hh2 _))) (show (s2 - 1) ≤ n ∧ i < (s2 - 1) ∧ (k - 1) < (s2 - 1) from by omega) (show f_set nm pl n (va_up h1 k (h1 (s2 - 1))) (f_put h2 k (h2 (2 * (s2 - 1))) (h2 (2 * (s2 - 1) + 1))) (s2 - 1) from by (first | exact hset2 | (exact f_del_set hset2 (by omega) (by omega) (by unfold f_at; simp only [Prod.mk.injEq]; omega)))) (show f_ndi (va_up h1 k (h1 (s2 - 1))) (f_put h2 k (h2 (2 * (s2 - 1))) (h2 (2 * (s2 - 1) + 1))) i (s2 - 1) from by (first | exact hnd2 | exact f_del_ndi hnd2 (by omega) (by omega))) (show ∀ c7, (k - 1) < c7 → c7 < (s2 - 1) → f_at (va_up h1 k (h1 (s2 - 1))) (f_put h2 k (h2 (2 * (s2 - 1))) (h2 (2 * (s2 - 1) + 1))) i ≠ f_at (va_up h1 k (h1 (s2 - 1))) (f_put h2 k (h2 (2 * (s2 - 1))) (h2 (2 * (s2 - 1) + 1))) c7 from by (first | (exact f_keep_i hin (f_at_ne (by omega)) (by omega)) | (exact f_del_i hin (by omega) (by omega)))) (lv_sub hl [0, 1, 2] rfl) (hP.sub [0, 1, 2] rfl) (hD.sub [0, 1, 2] (by decide) rfl) hS
        exact L17 _ g1 g2 sz (sz - 1) ls _ _ (by exact Nat.lt_succ_self _) (show ∀ j, g1 j < 64 from by (exact hg1)) (show ∀ j, g2 j < 16 from by (exact hg2)) (show sz ≤ n ∧ i < sz ∧ (sz - 1) < sz from by omega) (show f_set nm pl n g1 g2 sz from by (exact hset)) (show f_ndi g1 g2 i sz from by (exact hnd)) (show ∀ c7, (sz - 1) < c7 → c7 < sz → f_at g1 g2 i ≠ f_at g1 g2 c7 from by (intro c7 _ _; omega)) (lv_sub hl [0, 1, 2] rfl) (hP.sub [0, 1, 2] rfl) (hD.sub [0, 1, 2] (by decide) rfl) hS
  exact L2 _ nm pl n 0 ls _ _ (by exact Nat.lt_succ_self _) (show ∀ j, nm j < 64 from by (exact hnm)) (show ∀ j, pl j < 16 from by (exact hpl)) (show n ≤ n ∧ 0 ≤ n from by omega) (show f_set nm pl n nm pl n from by (exact fun x => Iff.rfl)) (show f_ndi nm pl 0 n from by (intro a c ha; omega)) (lv_sub hl [0, 1] rfl) (hP.sub [0, 1, 2] rfl) (hD.sub [0, 1, 2] (by decide) rfl) hS
abbrev rm_c_Form_unite : Room := { frames := 1, cells := 0, slots := 0, locals := 40 }
set_option maxHeartbeats 4000000 in
set_option maxRecDepth 100000 in
theorem c_Form_unite (l : Launch) (dC : Nat → ClassId) (dI : Nat → Nat → Nat) (cI cL cQ cZ : ClassId) (h0 : Nat) (a1 : Nat) (a2 : Nat) (n : Nat) (jn : Bool) (nm : Nat → Nat) (pl : Nat → Nat) (i : Nat) (k : Nat) (hn : n ≤ 4) (hpl : ∀ j, pl j < 16) (hi : i < 4) (hk : k < 4) : Met l yX3_unite wkX3_unite rm_c_Form_unite (q_W (dC, dI) qCl (qT cI cL cQ cZ) [(h0, .inr (3, [.ref a1, .ref a2, .int (nI (n)), .int (bI (jn))])), (a1, .inl (cI, 4, .inl (nF nm))), (a2, .inl (cI, 8, .inl (nF pl)))] [.ref h0, .int (nI (i)), .int (nI (k))]) (va_Qv (fun (u : Unit) => True) (fun (u : Unit) t => va_P (dC, dI) qCl [(h0, .inr (3, [.ref a1, .ref a2, .int (nI (n)), .int (bI (f_unK pl n i k jn 2))])), (a1, .inl (cI, 4, .inl (nF nm))), (a2, .inl (cI, 8, .inl (nF (f_unI pl n i k 2))))] t.heap) (q_A [(h0, .inr (3, [.ref a1, .ref a2, .int (nI (n)), .int (bI (jn))])), (a1, .inl (cI, 4, .inl (nF nm))), (a2, .inl (cI, 8, .inl (nF pl)))])) 0 0 (q_A [(h0, .inr (3, [.ref a1, .ref a2, .int (nI (n)), .int (bI (jn))])), (a1, .inl (cI, 4, .inl (nF nm))), (a2, .inl (cI, 8, .inl (nF pl)))]) := by
  refine Met.ofW (cc := cX3_unite) (maxL := 6) (ret := none) (by decide) rfl ?_
  intro p e s m args below meth c s₁ B hml hv
  obtain ⟨hargs, hP, hK, hD0⟩ := hv
  have hx := B.exec
  have hb := B.bytes
  have hr := B.returns
  have hts : ∀ w ∈ qW, w.before args s = true := fun w h => atoms_spec (ws := wkX3_unite) B.pre w (List.mem_cons_of_mem _ h)
  have hown : s.vm.findClass RX3 = some m.cls := findClass_of_methodNamed B.named
  have hlocks := B.notSynchronized
  refine q_named (fun Q hQ => ?_)
  have hD : va_D (q_A [(h0, .inr (3, [.ref a1, .ref a2, .int (nI (n)), .int (bI (jn))])), (a1, .inl (cI, 4, .inl (nF nm))), (a2, .inl (cI, 8, .inl (nF pl)))]) [(h0, .inr (3, [.ref a1, .ref a2, .int (nI (n)), .int (bI (jn))])), (a1, .inl (cI, 4, .inl (nF nm))), (a2, .inl (cI, 8, .inl (nF pl)))] := ⟨hD0.1, fun k q h => ⟨k, q.2, h⟩⟩
  generalize hAe : q_A [(h0, .inr (3, [.ref a1, .ref a2, .int (nI (n)), .int (bI (jn))])), (a1, .inl (cI, 4, .inl (nF nm))), (a2, .inl (cI, 8, .inl (nF pl)))] = A at hD
  have hS : va_S A s.heap s.heap [] := va_S.rf
  refine q_entry hargs (Nat.le_of_ble_eq_true rfl) (fun ls hl => ?_)
  have hl : lv_has ls 6 [(0, .ref h0), (1, .int (nI (i))), (2, .int (nI (k)))] := hl
  obtain ⟨H, locs, eH, eL⟩ : ∃ (H : Heap) (locs : List Loc), s.heap = H ∧ ([] : List Loc) = locs := ⟨_, _, rfl, rfl⟩
  have hS : va_S A s.heap H locs := by rw [← eH, ← eL]; exact hS
  have hP : va_P (dC, dI) qCl [(h0, .inr (3, [.ref a1, .ref a2, .int (nI (n)), .int (bI (jn))])), (a1, .inl (cI, 4, .inl (nF nm))), (a2, .inl (cI, 8, .inl (nF pl)))] H := by rw [← eH]; exact hP
  refine W_at eH eL ?_
  refine lv_iconst (v := (nI (0))) hx hb dX3_unite_0 (by decide) ?_
  refine lv_istore_n (lv' := [(3, .int (nI (0))), (0, .ref h0), (1, .int (nI (i))), (2, .int (nI (k)))]) hx hb dX3_unite_1 rfl hl (by decide) rfl (fun ls hl => ?_)
  have L2 : ∀ (fu : Nat) (g : Nat → Nat) (jj : Bool) (sd : Nat) (ls : Array Slot) (H : Heap) (locs : List Loc), 2 - sd < fu → (sd ≤ 2) → (g = f_unI pl n i k sd) → (jj = f_unK pl n i k jn sd) → (∀ j, g j < 16) → lv_has ls 6 [(3, .int (nI (sd))), (0, .ref h0), (1, .int (nI (i))), (2, .int (nI (k)))] → va_P (dC, dI) qCl [(h0, .inr (3, [.ref a1, .ref a2, .int (nI (n)), .int (bI (jj))])), (a1, .inl (cI, 4, .inl (nF nm))), (a2, .inl (cI, 8, .inl (nF g)))] H → va_D A [(h0, .inr (3, [.ref a1, .ref a2, .int (nI (n)), .int (bI (jj))])), (a1, .inl (cI, 4, .inl (nF nm))), (a2, .inl (cI, 8, .inl (nF g)))] → va_S A s.heap H locs → W p l e (headSpec wkX3_unite rm_c_Form_unite).room s m args below meth c H locs 0 0 Q (F0 m 2 ls []) := by
    intro fu
    induction fu with
    | zero => intro g jj sd ls H locs hmu; exact absurd hmu (Nat.not_lt_zero _)
    | succ fu ih2 =>
      intro g jj sd ls H locs hmu hsd hg hj hgb hl hP hD hS
      refine lv_iload_n hx hb dX3_unite_2 rfl (lv_at hl 0 rfl) ?_
      refine lv_iconst (v := (nI (2))) hx hb dX3_unite_3 (by decide) ?_
      refine q_icmp_ge (x := sd) (y := 2) (tgt := 106) hx hb dX3_unite_4 (by decide) (by omega) (by omega) (fun c4_1 => ?_) (fun c4_1 => ?_)
      · have ea2 : (g) = f_unI pl n i k 2 := by (rw [hg, show sd = 2 by omega])
        rw [ea2] at hP hD
        have hP : va_P (dC, dI) qCl [(h0, .inr (3, [.ref a1, .ref a2, .int (nI (n)), .int (bI (jj))])), (a1, .inl (cI, 4, .inl (nF nm))), (a2, .inl (cI, 8, .inl (nF (f_unI pl n i k 2))))] H := hP
        have hD : va_D A [(h0, .inr (3, [.ref a1, .ref a2, .int (nI (n)), .int (bI (jj))])), (a1, .inl (cI, 4, .inl (nF nm))), (a2, .inl (cI, 8, .inl (nF (f_unI pl n i k 2))))] := hD
        have ef3 : (.int (bI (jj)) : Value) = .int (bI (f_unK pl n i k jn 2)) := by (rw [hj, show sd = 2 by omega])
        rw [ef3] at hP hD
        have hP : va_P (dC, dI) qCl [(h0, .inr (3, [.ref a1, .ref a2, .int (nI (n)), .int (bI (f_unK pl n i k jn 2))])), (a1, .inl (cI, 4, .inl (nF nm))), (a2, .inl (cI, 8, .inl (nF (f_unI pl n i k 2))))] H := hP
        have hD : va_D A [(h0, .inr (3, [.ref a1, .ref a2, .int (nI (n)), .int (bI (f_unK pl n i k jn 2))])), (a1, .inl (cI, 4, .inl (nF nm))), (a2, .inl (cI, 8, .inl (nF (f_unI pl n i k 2))))] := hD
        subst hQ
        subst hAe
        have hP9 := hP.sub (ws' := [(h0, .inr (3, [.ref a1, .ref a2, .int (nI (n)), .int (bI (f_unK pl n i k jn 2))])), (a1, .inl (cI, 4, .inl (nF nm))), (a2, .inl (cI, 8, .inl (nF (f_unI pl n i k 2))))]) [0, 1, 2] rfl
        exact W.vret hx hb hr (fun t9 h9 _ => ⟨⟨(), rfl, trivial, by show va_P _ _ _ t9.heap; rw [h9]; exact hP9⟩, hS.F h9⟩) hS.2.2 dX3_unite_106
      · refine lv_aload_n hx hb dX3_unite_7 rfl (lv_at hl 1 rfl) ?_
        refine va_get (D := (dC, dI)) (ci := 3) (v := .ref a2) (C := RX3) (T := TX3) (N := 4) hx hb hts uX3 hown hK hP 0 rfl rfl 1 (by decide) (hts _ kfX3_15) (fun _ h9 => h9) rfl dX3_unite_8 ?_
        refine lv_iconst (v := (nI (2))) hx hb dX3_unite_11 (by decide) ?_
        refine lv_iload_n hx hb dX3_unite_12 rfl (lv_at hl 2 rfl) ?_
        refine q_imul (x := 2) (y := i) hx hb dX3_unite_13 ?_
        refine lv_iload_n hx hb dX3_unite_14 rfl (lv_at hl 0 rfl) ?_
        refine q_iadd (x := 2 * i) (y := sd) hx hb dX3_unite_15 ?_
        refine q_ialdN hx hb hK hP 2 0 rfl rfl (j := (2 * i) + sd) (by omega) (by omega) dX3_unite_16 ?_
        have bd4 := hgb ((2 * i) + sd)
        refine lv_istore (lv' := [(4, .int (nI (g ((2 * i) + sd)))), (3, .int (nI (sd))), (0, .ref h0), (1, .int (nI (i))), (2, .int (nI (k)))]) hx hb dX3_unite_17 hl (by decide) rfl (fun ls hl => ?_)
        refine lv_aload_n hx hb dX3_unite_19 rfl (lv_at hl 2 rfl) ?_
        refine va_get (D := (dC, dI)) (ci := 3) (v := .ref a2) (C := RX3) (T := TX3) (N := 4) hx hb hts uX3 hown hK hP 0 rfl rfl 1 (by decide) (hts _ kfX3_15) (fun _ h9 => h9) rfl dX3_unite_20 ?_
        refine lv_iconst (v := (nI (2))) hx hb dX3_unite_23 (by decide) ?_
        refine lv_iload_n hx hb dX3_unite_24 rfl (lv_at hl 4 rfl) ?_
        refine q_imul (x := 2) (y := k) hx hb dX3_unite_25 ?_
        refine lv_iload_n hx hb dX3_unite_26 rfl (lv_at hl 1 rfl) ?_
        refine q_iadd (x := 2 * k) (y := sd) hx hb dX3_unite_27 ?_
        refine q_ialdN hx hb hK hP 2 0 rfl rfl (j := (2 * k) + sd) (by omega) (by omega) dX3_unite_28 ?_
        have bd5 := hgb ((2 * k) + sd)
        refine lv_istore (lv' := [(5, .int (nI (g ((2 * k) + sd)))), (4, .int (nI (g ((2 * i) + sd)))), (3, .int (nI (sd))), (0, .ref h0), (1, .int (nI (i))), (2, .int (nI (k)))]) hx hb dX3_unite_29 hl (by decide) rfl (fun ls hl => ?_)
        refine lv_iload hx hb dX3_unite_31 (lv_at hl 1 rfl) ?_
        refine lv_bipush (v := (nI (6))) hx hb dX3_unite_33 (by decide) ?_
        refine q_icmp_ne (x := g ((2 * i) + sd)) (y := 6) (tgt := 53) hx hb dX3_unite_35 (by decide) (by omega) (by omega) (fun c35_6 => ?_) (fun c35_6 => ?_)
        · refine lv_iload hx hb dX3_unite_53 (lv_at hl 0 rfl) ?_
          refine lv_bipush (v := (nI (6))) hx hb dX3_unite_55 (by decide) ?_
          refine q_icmp_ne (x := g ((2 * k) + sd)) (y := 6) (tgt := 75) hx hb dX3_unite_57 (by decide) (by omega) (by omega) (fun c57_7 => ?_) (fun c57_7 => ?_)
          · refine lv_iload hx hb dX3_unite_75 (lv_at hl 1 rfl) ?_
            refine lv_iload hx hb dX3_unite_77 (lv_at hl 0 rfl) ?_
            refine q_icmp_eq (x := g ((2 * i) + sd)) (y := g ((2 * k) + sd)) (tgt := 100) hx hb dX3_unite_79 (by decide) (by omega) (by omega) (fun c79_8 => ?_) (fun c79_8 => ?_)
            · refine lv_iinc (v := (nI (sd + 1))) (lv' := [(3, .int (nI (sd + 1))), (5, .int (nI (g ((2 * k) + sd)))), (4, .int (nI (g ((2 * i) + sd)))), (0, .ref h0), (1, .int (nI (i))), (2, .int (nI (k)))]) hx hb dX3_unite_100 hl (k := 2) rfl (q_inc _) (by decide) rfl (fun ls hl => ?_)
              refine lv_goto (tgt := 2) hx hb dX3_unite_103 (by decide) ?_
              exact ih2 g jj (sd + 1) ls _ _ (by omega) (show (sd + 1) ≤ 2 from by omega) (show g = f_unI pl n i k (sd + 1) from by (first | (rw [f_unI, ← hg, f_unP, if_pos (by omega)]) | (rw [f_unI, ← hg, f_unP, if_neg (by omega), if_pos (by omega)]) | (rw [f_unI, ← hg, f_unP, if_neg (by omega), if_neg (by omega), if_pos (by omega)]) | (rw [f_unI, ← hg, f_unP, if_neg (by omega), if_neg (by omega), if_neg (by omega)]))) (show jj = f_unK pl n i k jn (sd + 1) from by (first | (rw [f_unK, ← hg, ← hj, f_unJ, if_pos (by omega)]) | (rw [f_unK, ← hg, ← hj, f_unJ, if_neg (by omega), if_pos (by omega)]) | (rw [f_unK, ← hg, ← hj, f_unJ, if_neg (by omega), if_neg (by omega), if_pos (by omega)]) | (rw [f_unK, ← hg, ← hj, f_unJ, if_neg (by omega), if_neg (by omega), if_neg (by omega)]))) (show ∀ j, g j < 16 from by (first | exact hgb | exact up_lt hgb (hgb _) | (exact f_ren_lt hgb (by omega)))) (lv_sub hl [0, 3, 4, 5] rfl) (hP.sub [0, 1, 2] rfl) (hD.sub [0, 1, 2] (by decide) rfl) hS
            · refine lv_aload_n hx hb dX3_unite_82 rfl (lv_at hl 3 rfl) ?_
              refine lv_iload hx hb dX3_unite_83 (lv_at hl 1 rfl) ?_
              refine lv_iload hx hb dX3_unite_85 (lv_at hl 0 rfl) ?_
              refine q_mmax (x := g ((2 * i) + sd)) (y := g ((2 * k) + sd)) hx hb (hml.trans hl.1.symm) hown (hts _ kmX3_59) (hts _ k_mmax_s) (hts _ k_m_i) (hts _ k_mmax_c) (Nat.le_of_ble_eq_true rfl) (Nat.le_of_ble_eq_true rfl) (Nat.zero_le _) (Nat.zero_le _) (by omega) (by omega) dX3_unite_87 ?_
              refine lv_iload hx hb dX3_unite_90 (lv_at hl 1 rfl) ?_
              refine lv_iload hx hb dX3_unite_92 (lv_at hl 0 rfl) ?_
              refine q_mmin (x := g ((2 * i) + sd)) (y := g ((2 * k) + sd)) hx hb (hml.trans hl.1.symm) hown (hts _ kmX3_32) (hts _ k_mmin_s) (hts _ k_m_i) (hts _ k_mmin_c) (Nat.le_of_ble_eq_true rfl) (Nat.le_of_ble_eq_true rfl) (Nat.zero_le _) (Nat.zero_le _) (by omega) (by omega) dX3_unite_94 ?_
              refine q_joinv (wr := []) (va_runV (As := [.int (nI (max (g ((2 * i) + sd)) (g ((2 * k) + sd)))), .int (nI (min (g ((2 * i) + sd)) (g ((2 * k) + sd))))]) (rest := []) ⟨hx, hb, hml, hown, hts⟩ (c_Form_rename l dC dI cI cL cQ cZ h0 a1 a2 n jj nm g (max (g ((2 * i) + sd)) (g ((2 * k) + sd))) (min (g ((2 * i) + sd)) (g ((2 * k) + sd))) (show n ≤ 4 from by first | assumption | omega) (show ∀ j, g j < 16 from by first | assumption | omega) (show (max (g ((2 * i) + sd)) (g ((2 * k) + sd))) < 16 from by first | assumption | omega)) (q_cwV 2 hts gkX3_rename kmX3_62 knX3_rename klX3_rename kiX3 rfl rfl rfl (by decide +kernel) ⟨Nat.le_of_ble_eq_true rfl, Nat.le_of_ble_eq_true rfl⟩) (q_preVW hK hP hD [0, 1, 2] rfl (by decide) 0 (ci := 3) (r := (RX3, TX3, 4)) rfl rfl) rfl rfl hl.1 rfl (lv_room (Nat.le_of_ble_eq_true rfl)) dX3_unite_97 ⟨Nat.zero_le _, Nat.zero_le _⟩) hP hD hS [0, 1, 2] [] rfl rfl (by decide) (fun _ => rfl) (fun _ H locs hq10 hP hD hS => ?_)
              have hP : va_P (dC, dI) qCl [(h0, .inr (3, [.ref a1, .ref a2, .int (nI (n)), .int (bI (jj || decide ((max (g ((2 * i) + sd)) (g ((2 * k) + sd))) = 1)))])), (a1, .inl (cI, 4, .inl (nF nm))), (a2, .inl (cI, 8, .inl (nF (f_ren g (2 * n) (max (g ((2 * i) + sd)) (g ((2 * k) + sd))) (min (g ((2 * i) + sd)) (g ((2 * k) + sd)))))))] H := hP
              have hD : va_D A [(h0, .inr (3, [.ref a1, .ref a2, .int (nI (n)), .int (bI (jj || decide ((max (g ((2 * i) + sd)) (g ((2 * k) + sd))) = 1)))])), (a1, .inl (cI, 4, .inl (nF nm))), (a2, .inl (cI, 8, .inl (nF (f_ren g (2 * n) (max (g ((2 * i) + sd)) (g ((2 * k) + sd))) (min (g ((2 * i) + sd)) (g ((2 * k) + sd)))))))] := hD
              refine lv_iinc (v := (nI (sd + 1))) (lv' := [(3, .int (nI (sd + 1))), (5, .int (nI (g ((2 * k) + sd)))), (4, .int (nI (g ((2 * i) + sd)))), (0, .ref h0), (1, .int (nI (i))), (2, .int (nI (k)))]) hx hb dX3_unite_100 hl (k := 2) rfl (q_inc _) (by decide) rfl (fun ls hl => ?_)
              refine lv_goto (tgt := 2) hx hb dX3_unite_103 (by decide) ?_
              exact ih2 (f_ren g (2 * n) (max (g ((2 * i) + sd)) (g ((2 * k) + sd))) (min (g ((2 * i) + sd)) (g ((2 * k) + sd)))) (jj || decide ((max (g ((2 * i) + sd)) (g ((2 * k) + sd))) = 1)) (sd + 1) ls _ _ (by omega) (show (sd + 1) ≤ 2 from by omega) (show (f_ren g (2 * n) (max (g ((2 * i) + sd)) (g ((2 * k) + sd))) (min (g ((2 * i) + sd)) (g ((2 * k) + sd)))) = f_unI pl n i k (sd + 1) from by (first | (rw [f_unI, ← hg, f_unP, if_pos (by omega)]) | (rw [f_unI, ← hg, f_unP, if_neg (by omega), if_pos (by omega)]) | (rw [f_unI, ← hg, f_unP, if_neg (by omega), if_neg (by omega), if_pos (by omega)]) | (rw [f_unI, ← hg, f_unP, if_neg (by omega), if_neg (by omega), if_neg (by omega)]))) (show (jj || decide ((max (g ((2 * i) + sd)) (g ((2 * k) + sd))) = 1)) = f_unK pl n i k jn (sd + 1) from by (first | (rw [f_unK, ← hg, ← hj, f_unJ, if_pos (by omega)]) | (rw [f_unK, ← hg, ← hj, f_unJ, if_neg (by omega), if_pos (by omega)]) | (rw [f_unK, ← hg, ← hj, f_unJ, if_neg (by omega), if_neg (by omega), if_pos (by omega)]) | (rw [f_unK, ← hg, ← hj, f_unJ, if_neg (by omega), if_neg (by omega), if_neg (by omega)]))) (show ∀ j, (f_ren g (2 * n) (max (g ((2 * i) + sd)) (g ((2 * k) + sd))) (min (g ((2 * i) + sd)) (g ((2 * k) + sd)))) j < 16 from by (first | exact hgb | exact up_lt hgb (hgb _) | (exact f_ren_lt hgb (by omega)))) (lv_sub hl [0, 3, 4, 5] rfl) (hP.sub [0, 1, 2] rfl) (hD.sub [0, 1, 2] (by decide) rfl) hS
          · refine lv_aload_n hx hb dX3_unite_60 rfl (lv_at hl 3 rfl) ?_
            refine va_get (D := (dC, dI)) (ci := 3) (v := .ref a2) (C := RX3) (T := TX3) (N := 4) hx hb hts uX3 hown hK hP 0 rfl rfl 1 (by decide) (hts _ kfX3_15) (fun _ h9 => h9) rfl dX3_unite_61 ?_
            refine lv_iconst (v := (nI (2))) hx hb dX3_unite_64 (by decide) ?_
            refine lv_iload_n hx hb dX3_unite_65 rfl (lv_at hl 5 rfl) ?_
            refine q_imul (x := 2) (y := k) hx hb dX3_unite_66 ?_
            refine lv_iload_n hx hb dX3_unite_67 rfl (lv_at hl 2 rfl) ?_
            refine q_iadd (x := 2 * k) (y := sd) hx hb dX3_unite_68 ?_
            refine lv_iload hx hb dX3_unite_69 (lv_at hl 1 rfl) ?_
            refine q_iastN hx hb hK hP hD hS 2 0 rfl rfl (j := (2 * k) + sd) (x := g ((2 * i) + sd)) (by omega) (by omega) dX3_unite_71 (fun H locs hP hD hS => ?_)
            have hP : va_P (dC, dI) qCl [(h0, .inr (3, [.ref a1, .ref a2, .int (nI (n)), .int (bI (jj))])), (a1, .inl (cI, 4, .inl (nF nm))), (a2, .inl (cI, 8, .inl (nF (va_up g ((2 * k) + sd) (g ((2 * i) + sd))))))] H := hP
            have hD : va_D A [(h0, .inr (3, [.ref a1, .ref a2, .int (nI (n)), .int (bI (jj))])), (a1, .inl (cI, 4, .inl (nF nm))), (a2, .inl (cI, 8, .inl (nF (va_up g ((2 * k) + sd) (g ((2 * i) + sd))))))] := hD
            refine lv_goto (tgt := 100) hx hb dX3_unite_72 (by decide) ?_
            refine lv_iinc (v := (nI (sd + 1))) (lv' := [(3, .int (nI (sd + 1))), (5, .int (nI (g ((2 * k) + sd)))), (4, .int (nI (g ((2 * i) + sd)))), (0, .ref h0), (1, .int (nI (i))), (2, .int (nI (k)))]) hx hb dX3_unite_100 hl (k := 2) rfl (q_inc _) (by decide) rfl (fun ls hl => ?_)
            refine lv_goto (tgt := 2) hx hb dX3_unite_103 (by decide) ?_
            exact ih2 (va_up g ((2 * k) + sd) (g ((2 * i) + sd))) jj (sd + 1) ls _ _ (by omega) (show (sd + 1) ≤ 2 from by omega) (show (va_up g ((2 * k) + sd) (g ((2 * i) + sd))) = f_unI pl n i k (sd + 1) from by (first | (rw [f_unI, ← hg, f_unP, if_pos (by omega)]) | (rw [f_unI, ← hg, f_unP, if_neg (by omega), if_pos (by omega)]) | (rw [f_unI, ← hg, f_unP, if_neg (by omega), if_neg (by omega), if_pos (by omega)]) | (rw [f_unI, ← hg, f_unP, if_neg (by omega), if_neg (by omega), if_neg (by omega)]))) (show jj = f_unK pl n i k jn (sd + 1) from by (first | (rw [f_unK, ← hg, ← hj, f_unJ, if_pos (by omega)]) | (rw [f_unK, ← hg, ← hj, f_unJ, if_neg (by omega), if_pos (by omega)]) | (rw [f_unK, ← hg, ← hj, f_unJ, if_neg (by omega), if_neg (by omega), if_pos (by omega)]) | (rw [f_unK, ← hg, ← hj, f_unJ, if_neg (by omega), if_neg (by omega), if_neg (by omega)]))) (show ∀ j, (va_up g ((2 * k) + sd) (g ((2 * i) + sd))) j < 16 from by (first | exact hgb | exact up_lt hgb (hgb _) | (exact f_ren_lt hgb (by omega)))) (lv_sub hl [0, 3, 4, 5] rfl) (hP.sub [0, 1, 2] rfl) (hD.sub [0, 1, 2] (by decide) rfl) hS
        · refine lv_aload_n hx hb dX3_unite_38 rfl (lv_at hl 3 rfl) ?_
          refine va_get (D := (dC, dI)) (ci := 3) (v := .ref a2) (C := RX3) (T := TX3) (N := 4) hx hb hts uX3 hown hK hP 0 rfl rfl 1 (by decide) (hts _ kfX3_15) (fun _ h9 => h9) rfl dX3_unite_39 ?_
          refine lv_iconst (v := (nI (2))) hx hb dX3_unite_42 (by decide) ?_
          refine lv_iload_n hx hb dX3_unite_43 rfl (lv_at hl 4 rfl) ?_
          refine q_imul (x := 2) (y := i) hx hb dX3_unite_44 ?_
          refine lv_iload_n hx hb dX3_unite_45 rfl (lv_at hl 2 rfl) ?_
          refine q_iadd (x := 2 * i) (y := sd) hx hb dX3_unite_46 ?_
          refine lv_iload hx hb dX3_unite_47 (lv_at hl 0 rfl) ?_
          refine q_iastN hx hb hK hP hD hS 2 0 rfl rfl (j := (2 * i) + sd) (x := g ((2 * k) + sd)) (by omega) (by omega) dX3_unite_49 (fun H locs hP hD hS => ?_)
          have hP : va_P (dC, dI) qCl [(h0, .inr (3, [.ref a1, .ref a2, .int (nI (n)), .int (bI (jj))])), (a1, .inl (cI, 4, .inl (nF nm))), (a2, .inl (cI, 8, .inl (nF (va_up g ((2 * i) + sd) (g ((2 * k) + sd))))))] H := hP
          have hD : va_D A [(h0, .inr (3, [.ref a1, .ref a2, .int (nI (n)), .int (bI (jj))])), (a1, .inl (cI, 4, .inl (nF nm))), (a2, .inl (cI, 8, .inl (nF (va_up g ((2 * i) + sd) (g ((2 * k) + sd))))))] := hD
          refine lv_goto (tgt := 100) hx hb dX3_unite_50 (by decide) ?_
          refine lv_iinc (v := (nI (sd + 1))) (lv' := [(3, .int (nI (sd + 1))), (5, .int (nI (g ((2 * k) + sd)))), (4, .int (nI (g ((2 * i) + sd)))), (0, .ref h0), (1, .int (nI (i))), (2, .int (nI (k)))]) hx hb dX3_unite_100 hl (k := 2) rfl (q_inc _) (by decide) rfl (fun ls hl => ?_)
          refine lv_goto (tgt := 2) hx hb dX3_unite_103 (by decide) ?_
          exact ih2 (va_up g ((2 * i) + sd) (g ((2 * k) + sd))) jj (sd + 1) ls _ _ (by omega) (show (sd + 1) ≤ 2 from by omega) (show (va_up g ((2 * i) + sd) (g ((2 * k) + sd))) = f_unI pl n i k (sd + 1) from by (first | (rw [f_unI, ← hg, f_unP, if_pos (by omega)]) | (rw [f_unI, ← hg, f_unP, if_neg (by omega), if_pos (by omega)]) | (rw [f_unI, ← hg, f_unP, if_neg (by omega), if_neg (by omega), if_pos (by omega)]) | (rw [f_unI, ← hg, f_unP, if_neg (by omega), if_neg (by omega), if_neg (by omega)]))) (show jj = f_unK pl n i k jn (sd + 1) from by (first | (rw [f_unK, ← hg, ← hj, f_unJ, if_pos (by omega)]) | (rw [f_unK, ← hg, ← hj, f_unJ, if_neg (by omega), if_pos (by omega)]) | (rw [f_unK, ← hg, ← hj, f_unJ, if_neg (by omega), if_neg (by omega), if_pos (by omega)]) | (rw [f_unK, ← hg, ← hj, f_unJ, if_neg (by omega), if_neg (by omega), if_neg (by omega)]))) (show ∀ j, (va_up g ((2 * i) + sd) (g ((2 * k) + sd))) j < 16 from by (first | exact hgb | exact up_lt hgb (hgb _) | (exact f_ren_lt hgb (by omega)))) (lv_sub hl [0, 3, 4, 5] rfl) (hP.sub [0, 1, 2] rfl) (hD.sub [0, 1, 2] (by decide) rfl) hS
  exact L2 _ pl jn 0 ls _ _ (by exact Nat.lt_succ_self _) (show 0 ≤ 2 from by omega) (show pl = f_unI pl n i k 0 from by rfl) (show jn = f_unK pl n i k jn 0 from by rfl) (show ∀ j, pl j < 16 from by (exact hpl)) (lv_sub hl [0, 1, 2, 3] rfl) (hP.sub [0, 1, 2] rfl) (hD.sub [0, 1, 2] (by decide) rfl) hS
abbrev rm_c_Namer_isOther : Room := { frames := 0, cells := 0, slots := 0, locals := 0 }
set_option maxHeartbeats 4000000 in
set_option maxRecDepth 100000 in
theorem c_Namer_isOther (l : Launch) (dC : Nat → ClassId) (dI : Nat → Nat → Nat) (cI cL cQ cZ : ClassId) (v : Nat) (hv : v < 16) : Met l yX4_isOther wkX4_isOther rm_c_Namer_isOther (q_R (dC, dI) qCl (qT cI cL cQ cZ) [] [.int (nI (v))]) (vp_Si (fun r => r = (bI (f_oth v)))) 0 0 (fun _ => False) := by
  refine Met.ofW (cc := cX4_isOther) (maxL := 1) (ret := (some .boolean)) (by decide) rfl ?_
  intro p e s m args below meth c s₁ B hml hv
  obtain ⟨hargs, hP, hK⟩ := hv
  have hx := B.exec
  have hb := B.bytes
  have hr := B.returns
  have hts : ∀ w ∈ qW, w.before args s = true := fun w h => atoms_spec (ws := wkX4_isOther) B.pre w (List.mem_cons_of_mem _ h)
  have hown : s.vm.findClass RX4 = some m.cls := findClass_of_methodNamed B.named
  have hlocks := B.notSynchronized
  refine q_named (fun Q hQ => ?_)
  refine q_entry hargs (Nat.le_of_ble_eq_true rfl) (fun ls hl => ?_)
  have hl : lv_has ls 1 [(0, .int (nI (v)))] := hl
  refine lv_iload_n hx hb dX4_isOther_0 rfl (lv_at hl 0 rfl) ?_
  refine lv_iconst (v := (nI (2))) hx hb dX4_isOther_1 (by decide) ?_
  refine q_icmp_lt (x := v) (y := 2) (tgt := 21) hx hb dX4_isOther_2 (by decide) (by omega) (by omega) (fun c2_1 => ?_) (fun c2_1 => ?_)
  · refine lv_iconst (v := (nI (0))) hx hb dX4_isOther_21 (by decide) ?_
    subst hQ
    exact W.zret (v := (nI (0))) hx hb hr (by decide) (fun t9 h9 _ => ⟨_, rfl, bI_0 (show f_oth v = false from by (simp [f_oth]; omega)), h9⟩) (fun q hq => by cases hq) dX4_isOther_22
  · refine lv_iload_n hx hb dX4_isOther_5 rfl (lv_at hl 0 rfl) ?_
    refine lv_bipush (v := (nI (6))) hx hb dX4_isOther_6 (by decide) ?_
    refine q_icmp_eq (x := v) (y := 6) (tgt := 21) hx hb dX4_isOther_8 (by decide) (by omega) (by omega) (fun c8_2 => ?_) (fun c8_2 => ?_)
    · refine lv_iconst (v := (nI (0))) hx hb dX4_isOther_21 (by decide) ?_
      subst hQ
      exact W.zret (v := (nI (0))) hx hb hr (by decide) (fun t9 h9 _ => ⟨_, rfl, bI_0 (show f_oth v = false from by (simp [f_oth]; omega)), h9⟩) (fun q hq => by cases hq) dX4_isOther_22
    · refine lv_iload_n hx hb dX4_isOther_11 rfl (lv_at hl 0 rfl) ?_
      refine lv_bipush (v := (nI (7))) hx hb dX4_isOther_12 (by decide) ?_
      refine q_icmp_eq (x := v) (y := 7) (tgt := 21) hx hb dX4_isOther_14 (by decide) (by omega) (by omega) (fun c14_3 => ?_) (fun c14_3 => ?_)
      · refine lv_iconst (v := (nI (0))) hx hb dX4_isOther_21 (by decide) ?_
        subst hQ
        exact W.zret (v := (nI (0))) hx hb hr (by decide) (fun t9 h9 _ => ⟨_, rfl, bI_0 (show f_oth v = false from by (simp [f_oth]; omega)), h9⟩) (fun q hq => by cases hq) dX4_isOther_22
      · refine lv_iconst (v := (nI (1))) hx hb dX4_isOther_17 (by decide) ?_
        refine lv_goto (tgt := 22) hx hb dX4_isOther_18 (by decide) ?_
        subst hQ
        exact W.zret (v := (nI (1))) hx hb hr (by decide) (fun t9 h9 _ => ⟨_, rfl, bI_1 (show f_oth v = true from by (simp [f_oth]; omega)), h9⟩) (fun q hq => by cases hq) dX4_isOther_22
abbrev rm_c_Namer_freeSingle : Room := { frames := 1, cells := 0, slots := 0, locals := 23 }
set_option maxHeartbeats 4000000 in
set_option maxRecDepth 100000 in
theorem c_Namer_freeSingle (l : Launch) (dC : Nat → ClassId) (dI : Nat → Nat → Nat) (cI cL cQ cZ : ClassId) (f0 : Nat) (a1 : Nat) (a2 : Nat) (n : Nat) (jn : Bool) (nm : Nat → Nat) (pl : Nat → Nat) (hn : n ≤ 4) (hpl : ∀ j, pl j < 16) : Met l yX4_freeSingle wkX4_freeSingle rm_c_Namer_freeSingle (q_W (dC, dI) qCl (qT cI cL cQ cZ) [(f0, .inr (3, [.ref a1, .ref a2, .int (nI (n)), .int (bI (jn))])), (a1, .inl (cI, 4, .inl (nF nm))), (a2, .inl (cI, 8, .inl (nF pl)))] [.ref f0]) (va_Qi (fun (r : Int32) (u : Bool × (Nat → Nat)) => (r = (bI (u.1))) ∧ (u.1 = true ↔ f_anyl pl (2 * n) (2 * n)) ∧ (f_frd pl (2 * n) (2 * n) u.2) ∧ (∀ j, u.2 j < 16)) (fun (u : Bool × (Nat → Nat)) t => va_P (dC, dI) qCl [(f0, .inr (3, [.ref a1, .ref a2, .int (nI (n)), .int (bI (jn))])), (a1, .inl (cI, 4, .inl (nF nm))), (a2, .inl (cI, 8, .inl (nF u.2)))] t.heap) (q_A [(f0, .inr (3, [.ref a1, .ref a2, .int (nI (n)), .int (bI (jn))])), (a1, .inl (cI, 4, .inl (nF nm))), (a2, .inl (cI, 8, .inl (nF pl)))])) 0 0 (q_A [(f0, .inr (3, [.ref a1, .ref a2, .int (nI (n)), .int (bI (jn))])), (a1, .inl (cI, 4, .inl (nF nm))), (a2, .inl (cI, 8, .inl (nF pl)))]) := by
  refine Met.ofW (cc := cX4_freeSingle) (maxL := 3) (ret := (some .boolean)) (by decide) rfl ?_
  intro p e s m args below meth c s₁ B hml hv
  obtain ⟨hargs, hP, hK, hD0⟩ := hv
  have hx := B.exec
  have hb := B.bytes
  have hr := B.returns
  have hts : ∀ w ∈ qW, w.before args s = true := fun w h => atoms_spec (ws := wkX4_freeSingle) B.pre w (List.mem_cons_of_mem _ h)
  have hown : s.vm.findClass RX4 = some m.cls := findClass_of_methodNamed B.named
  have hlocks := B.notSynchronized
  refine q_named (fun Q hQ => ?_)
  have hD : va_D (q_A [(f0, .inr (3, [.ref a1, .ref a2, .int (nI (n)), .int (bI (jn))])), (a1, .inl (cI, 4, .inl (nF nm))), (a2, .inl (cI, 8, .inl (nF pl)))]) [(f0, .inr (3, [.ref a1, .ref a2, .int (nI (n)), .int (bI (jn))])), (a1, .inl (cI, 4, .inl (nF nm))), (a2, .inl (cI, 8, .inl (nF pl)))] := ⟨hD0.1, fun k q h => ⟨k, q.2, h⟩⟩
  generalize hAe : q_A [(f0, .inr (3, [.ref a1, .ref a2, .int (nI (n)), .int (bI (jn))])), (a1, .inl (cI, 4, .inl (nF nm))), (a2, .inl (cI, 8, .inl (nF pl)))] = A at hD
  have hS : va_S A s.heap s.heap [] := va_S.rf
  refine q_entry hargs (Nat.le_of_ble_eq_true rfl) (fun ls hl => ?_)
  have hl : lv_has ls 3 [(0, .ref f0)] := hl
  obtain ⟨H, locs, eH, eL⟩ : ∃ (H : Heap) (locs : List Loc), s.heap = H ∧ ([] : List Loc) = locs := ⟨_, _, rfl, rfl⟩
  have hS : va_S A s.heap H locs := by rw [← eH, ← eL]; exact hS
  have hP : va_P (dC, dI) qCl [(f0, .inr (3, [.ref a1, .ref a2, .int (nI (n)), .int (bI (jn))])), (a1, .inl (cI, 4, .inl (nF nm))), (a2, .inl (cI, 8, .inl (nF pl)))] H := by rw [← eH]; exact hP
  refine W_at eH eL ?_
  refine lv_iconst (v := (nI (0))) hx hb dX4_freeSingle_0 (by decide) ?_
  refine lv_istore_n (lv' := [(1, .int (nI (0))), (0, .ref f0)]) hx hb dX4_freeSingle_1 rfl hl (by decide) rfl (fun ls hl => ?_)
  refine lv_iconst (v := (nI (0))) hx hb dX4_freeSingle_2 (by decide) ?_
  refine lv_istore_n (lv' := [(2, .int (nI (0))), (1, .int (nI (0))), (0, .ref f0)]) hx hb dX4_freeSingle_3 rfl hl (by decide) rfl (fun ls hl => ?_)
  have L4 : ∀ (fu : Nat) (fr : Bool) (i : Nat) (g : Nat → Nat) (ls : Array Slot) (H : Heap) (locs : List Loc), 2 * n - i < fu → (i ≤ 2 * n) → (f_frd pl (2 * n) i g) → (∀ j, g j < 16) → (fr = true ↔ f_anyl pl (2 * n) i) → lv_has ls 3 [(2, .int (nI (i))), (1, .int (bI (fr))), (0, .ref f0)] → va_P (dC, dI) qCl [(f0, .inr (3, [.ref a1, .ref a2, .int (nI (n)), .int (bI (jn))])), (a1, .inl (cI, 4, .inl (nF nm))), (a2, .inl (cI, 8, .inl (nF g)))] H → va_D A [(f0, .inr (3, [.ref a1, .ref a2, .int (nI (n)), .int (bI (jn))])), (a1, .inl (cI, 4, .inl (nF nm))), (a2, .inl (cI, 8, .inl (nF g)))] → va_S A s.heap H locs → W p l e (headSpec wkX4_freeSingle rm_c_Namer_freeSingle).room s m args below meth c H locs 0 0 Q (F0 m 4 ls []) := by
    intro fu
    induction fu with
    | zero => intro fr i g ls H locs hmu; exact absurd hmu (Nat.not_lt_zero _)
    | succ fu ih4 =>
      intro fr i g ls H locs hmu hi hg hgb hfr hl hP hD hS
      refine lv_iload_n hx hb dX4_freeSingle_4 rfl (lv_at hl 0 rfl) ?_
      refine lv_iconst (v := (nI (2))) hx hb dX4_freeSingle_5 (by decide) ?_
      refine lv_aload_n hx hb dX4_freeSingle_6 rfl (lv_at hl 2 rfl) ?_
      refine va_get (D := (dC, dI)) (ci := 3) (v := .int (nI (n))) (C := RX3) (T := TX3) (N := 4) hx hb hts uX3 hown hK hP 0 rfl rfl 2 (by decide) (hts _ kfX4_48) (fun _ h9 => h9) rfl dX4_freeSingle_7 ?_
      refine q_imul (x := 2) (y := n) hx hb dX4_freeSingle_10 ?_
      refine q_icmp_ge (x := i) (y := 2 * n) (tgt := 56) hx hb dX4_freeSingle_11 (by decide) (by omega) (by omega) (fun c11_1 => ?_) (fun c11_1 => ?_)
      · refine lv_iload_n hx hb dX4_freeSingle_56 rfl (lv_at hl 1 rfl) ?_
        subst hQ
        subst hAe
        have hP9 := hP.sub (ws' := [(f0, .inr (3, [.ref a1, .ref a2, .int (nI (n)), .int (bI (jn))])), (a1, .inl (cI, 4, .inl (nF nm))), (a2, .inl (cI, 8, .inl (nF g)))]) [0, 1, 2] rfl
        exact W.zret (v := (bI (fr))) hx hb hr (bI_nar _) (fun t9 h9 _ => ⟨⟨(bI (fr)), (fr, g), rfl, ⟨rfl, (show fr = true ↔ f_anyl pl (2 * n) (2 * n) from by (rw [hfr, show i = 2 * n by omega])), (show f_frd pl (2 * n) (2 * n) g from by (rw [show i = 2 * n by omega] at hg; exact hg)), (show ∀ j, g j < 16 from by (exact hgb))⟩, by show va_P _ _ _ t9.heap; rw [h9]; exact hP9⟩, hS.F h9⟩) hS.2.2 dX4_freeSingle_57
      · refine lv_aload_n hx hb dX4_freeSingle_14 rfl (lv_at hl 2 rfl) ?_
        refine va_get (D := (dC, dI)) (ci := 3) (v := .ref a2) (C := RX3) (T := TX3) (N := 4) hx hb hts uX3 hown hK hP 0 rfl rfl 1 (by decide) (hts _ kfX4_52) (fun _ h9 => h9) rfl dX4_freeSingle_15 ?_
        refine lv_iload_n hx hb dX4_freeSingle_18 rfl (lv_at hl 0 rfl) ?_
        refine q_ialdN hx hb hK hP 2 0 rfl rfl (j := i) (by omega) (by omega) dX4_freeSingle_19 ?_
        have bd2 := hgb i
        refine vp_callSi (va_Run.run (va_runS (As := [.int (nI (g i))]) (rest := []) ⟨hx, hb, hml, hown, hts⟩ (c_Namer_isOther l dC dI cI cL cQ cZ (g i) (show (g i) < 16 from by first | assumption | omega)) (q_cwS 1 hts gkX4_isOther kmX4_55 ksX4_isOther kiX4 rfl rfl rfl (by decide +kernel) ⟨Nat.le_of_ble_eq_true rfl, Nat.le_of_ble_eq_true rfl⟩) (q_preS hK hP [] rfl) rfl rfl hl.1 rfl (lv_room (Nat.le_of_ble_eq_true rfl)) dX4_freeSingle_20 ⟨Nat.zero_le _, Nat.zero_le _⟩)) (fun r3 hr3 => ?_)
        subst hr3
        refine q_ifb_eq (b := f_oth (g i)) (tgt := 50) hx hb dX4_freeSingle_23 (by decide) (fun c23_4 => ?_) (fun c23_4 => ?_)
        · refine lv_iinc (v := (nI (i + 1))) (lv' := [(2, .int (nI (i + 1))), (1, .int (bI (fr))), (0, .ref f0)]) hx hb dX4_freeSingle_50 hl (k := 0) rfl (q_inc _) (by decide) rfl (fun ls hl => ?_)
          refine lv_goto (tgt := 4) hx hb dX4_freeSingle_53 (by decide) ?_
          exact ih4 fr (i + 1) g ls _ _ (by omega) (show (i + 1) ≤ 2 * n from by omega) (show f_frd pl (2 * n) (i + 1) g from by (first | (exact f_frd_t hg ⟨by rw [← f_frd_at hg]; assumption, by rw [← f_frd_cnt hg (by omega) (by rw [← f_frd_at hg]; assumption), ← f_frd_at hg]; assumption⟩) | (exact f_frd_f hg (fun h9 => b_no (show f_oth (g i) = true by rw [f_frd_at hg]; exact h9.1) (by assumption))) | (exact f_frd_f hg (fun h9 => by have h8 := h9.2; rw [← f_frd_cnt hg (by omega) h9.1, ← f_frd_at hg] at h8; omega)))) (show ∀ j, g j < 16 from by (first | exact hgb | exact up_lt hgb (by omega))) (show fr = true ↔ f_anyl pl (2 * n) (i + 1) from by (first | (exact ⟨fun _ => f_anyl_t ⟨by rw [← f_frd_at hg]; assumption, by rw [← f_frd_cnt hg (by omega) (by rw [← f_frd_at hg]; assumption), ← f_frd_at hg]; assumption⟩, fun _ => rfl⟩) | (rw [f_anyl_f (fun h9 => b_no (show f_oth (g i) = true by rw [f_frd_at hg]; exact h9.1) (by assumption))]; exact hfr) | (rw [f_anyl_f (fun h9 => by have h8 := h9.2; rw [← f_frd_cnt hg (by omega) h9.1, ← f_frd_at hg] at h8; omega)]; exact hfr))) (lv_sub hl [0, 1, 2] rfl) (hP.sub [0, 1, 2] rfl) (hD.sub [0, 1, 2] (by decide) rfl) hS
        · refine lv_aload_n hx hb dX4_freeSingle_26 rfl (lv_at hl 2 rfl) ?_
          refine lv_aload_n hx hb dX4_freeSingle_27 rfl (lv_at hl 2 rfl) ?_
          refine va_get (D := (dC, dI)) (ci := 3) (v := .ref a2) (C := RX3) (T := TX3) (N := 4) hx hb hts uX3 hown hK hP 0 rfl rfl 1 (by decide) (hts _ kfX4_52) (fun _ h9 => h9) rfl dX4_freeSingle_28 ?_
          refine lv_iload_n hx hb dX4_freeSingle_31 rfl (lv_at hl 0 rfl) ?_
          refine q_ialdN hx hb hK hP 2 0 rfl rfl (j := i) (by omega) (by omega) dX4_freeSingle_32 ?_
          have bd5 := hgb i
          refine vp_callSi (va_Run.run (va_runV (As := [.int (nI (g i))]) (rest := []) ⟨hx, hb, hml, hown, hts⟩ (c_Form_timesOf l dC dI cI cL cQ cZ f0 a1 a2 n jn nm g (g i) (show n ≤ 4 from by first | assumption | omega) (show ∀ j, g j < 16 from by first | assumption | omega) (show (g i) < 16 from by first | assumption | omega)) (q_cwV 1 hts gkX3_timesOf kmX4_59 knX3_timesOf klX3_timesOf kiX3 rfl rfl rfl (by decide +kernel) ⟨Nat.le_of_ble_eq_true rfl, Nat.le_of_ble_eq_true rfl⟩) (q_preV hK hP [0, 1, 2] rfl 0 (ci := 3) (r := (RX3, TX3, 4)) rfl rfl) rfl rfl hl.1 rfl (lv_room (Nat.le_of_ble_eq_true rfl)) dX4_freeSingle_33 ⟨Nat.zero_le _, Nat.zero_le _⟩)) (fun r6 hr6 => ?_)
          subst hr6
          refine lv_iconst (v := (nI (1))) hx hb dX4_freeSingle_36 (by decide) ?_
          refine q_icmp_ne (x := f_cnt g (g i) (2 * n)) (y := 1) (tgt := 50) hx hb dX4_freeSingle_37 (by decide) (by (have := f_cnt_le g (g i) (2 * n); omega)) (by omega) (fun c37_7 => ?_) (fun c37_7 => ?_)
          · refine lv_iinc (v := (nI (i + 1))) (lv' := [(2, .int (nI (i + 1))), (1, .int (bI (fr))), (0, .ref f0)]) hx hb dX4_freeSingle_50 hl (k := 0) rfl (q_inc _) (by decide) rfl (fun ls hl => ?_)
            refine lv_goto (tgt := 4) hx hb dX4_freeSingle_53 (by decide) ?_
            exact ih4 fr (i + 1) g ls _ _ (by omega) (show (i + 1) ≤ 2 * n from by omega) (show f_frd pl (2 * n) (i + 1) g from by (first | (exact f_frd_t hg ⟨by rw [← f_frd_at hg]; assumption, by rw [← f_frd_cnt hg (by omega) (by rw [← f_frd_at hg]; assumption), ← f_frd_at hg]; assumption⟩) | (exact f_frd_f hg (fun h9 => b_no (show f_oth (g i) = true by rw [f_frd_at hg]; exact h9.1) (by assumption))) | (exact f_frd_f hg (fun h9 => by have h8 := h9.2; rw [← f_frd_cnt hg (by omega) h9.1, ← f_frd_at hg] at h8; omega)))) (show ∀ j, g j < 16 from by (first | exact hgb | exact up_lt hgb (by omega))) (show fr = true ↔ f_anyl pl (2 * n) (i + 1) from by (first | (exact ⟨fun _ => f_anyl_t ⟨by rw [← f_frd_at hg]; assumption, by rw [← f_frd_cnt hg (by omega) (by rw [← f_frd_at hg]; assumption), ← f_frd_at hg]; assumption⟩, fun _ => rfl⟩) | (rw [f_anyl_f (fun h9 => b_no (show f_oth (g i) = true by rw [f_frd_at hg]; exact h9.1) (by assumption))]; exact hfr) | (rw [f_anyl_f (fun h9 => by have h8 := h9.2; rw [← f_frd_cnt hg (by omega) h9.1, ← f_frd_at hg] at h8; omega)]; exact hfr))) (lv_sub hl [0, 1, 2] rfl) (hP.sub [0, 1, 2] rfl) (hD.sub [0, 1, 2] (by decide) rfl) hS
          · refine lv_aload_n hx hb dX4_freeSingle_40 rfl (lv_at hl 2 rfl) ?_
            refine va_get (D := (dC, dI)) (ci := 3) (v := .ref a2) (C := RX3) (T := TX3) (N := 4) hx hb hts uX3 hown hK hP 0 rfl rfl 1 (by decide) (hts _ kfX4_52) (fun _ h9 => h9) rfl dX4_freeSingle_41 ?_
            refine lv_iload_n hx hb dX4_freeSingle_44 rfl (lv_at hl 0 rfl) ?_
            refine lv_bipush (v := (nI (6))) hx hb dX4_freeSingle_45 (by decide) ?_
            refine q_iastN hx hb hK hP hD hS 2 0 rfl rfl (j := i) (x := 6) (by omega) (by omega) dX4_freeSingle_47 (fun H locs hP hD hS => ?_)
            have hP : va_P (dC, dI) qCl [(f0, .inr (3, [.ref a1, .ref a2, .int (nI (n)), .int (bI (jn))])), (a1, .inl (cI, 4, .inl (nF nm))), (a2, .inl (cI, 8, .inl (nF (va_up g i 6))))] H := hP
            have hD : va_D A [(f0, .inr (3, [.ref a1, .ref a2, .int (nI (n)), .int (bI (jn))])), (a1, .inl (cI, 4, .inl (nF nm))), (a2, .inl (cI, 8, .inl (nF (va_up g i 6))))] := hD
            refine lv_iconst (v := (nI (1))) hx hb dX4_freeSingle_48 (by decide) ?_
            refine lv_istore_n (lv' := [(1, .int (nI (1))), (2, .int (nI (i))), (0, .ref f0)]) hx hb dX4_freeSingle_49 rfl hl (by decide) rfl (fun ls hl => ?_)
            refine lv_iinc (v := (nI (i + 1))) (lv' := [(2, .int (nI (i + 1))), (1, .int (nI (1))), (0, .ref f0)]) hx hb dX4_freeSingle_50 hl (k := 1) rfl (q_inc _) (by decide) rfl (fun ls hl => ?_)
            refine lv_goto (tgt := 4) hx hb dX4_freeSingle_53 (by decide) ?_
            exact ih4 true (i + 1) (va_up g i 6) ls _ _ (by omega) (show (i + 1) ≤ 2 * n from by omega) (show f_frd pl (2 * n) (i + 1) (va_up g i 6) from by (first | (exact f_frd_t hg ⟨by rw [← f_frd_at hg]; assumption, by rw [← f_frd_cnt hg (by omega) (by rw [← f_frd_at hg]; assumption), ← f_frd_at hg]; assumption⟩) | (exact f_frd_f hg (fun h9 => b_no (show f_oth (g i) = true by rw [f_frd_at hg]; exact h9.1) (by assumption))) | (exact f_frd_f hg (fun h9 => by have h8 := h9.2; rw [← f_frd_cnt hg (by omega) h9.1, ← f_frd_at hg] at h8; omega)))) (show ∀ j, (va_up g i 6) j < 16 from by (first | exact hgb | exact up_lt hgb (by omega))) (show true = true ↔ f_anyl pl (2 * n) (i + 1) from by (first | (exact ⟨fun _ => f_anyl_t ⟨by rw [← f_frd_at hg]; assumption, by rw [← f_frd_cnt hg (by omega) (by rw [← f_frd_at hg]; assumption), ← f_frd_at hg]; assumption⟩, fun _ => rfl⟩) | (rw [f_anyl_f (fun h9 => b_no (show f_oth (g i) = true by rw [f_frd_at hg]; exact h9.1) (by assumption))]; exact hfr) | (rw [f_anyl_f (fun h9 => by have h8 := h9.2; rw [← f_frd_cnt hg (by omega) h9.1, ← f_frd_at hg] at h8; omega)]; exact hfr))) (lv_sub hl [0, 1, 2] rfl) (hP.sub [0, 1, 2] rfl) (hD.sub [0, 1, 2] (by decide) rfl) hS
  exact L4 _ false 0 pl ls _ _ (by exact Nat.lt_succ_self _) (show 0 ≤ 2 * n from by omega) (show f_frd pl (2 * n) 0 pl from by (exact f_frd_0 _ _)) (show ∀ j, pl j < 16 from by (exact hpl)) (show false = true ↔ f_anyl pl (2 * n) 0 from by (exact ⟨fun h => (by cases h), fun h => absurd h (f_anyl_0 _ _)⟩)) (lv_sub hl [0, 1, 2] rfl) (hP.sub [0, 1, 2] rfl) (hD.sub [0, 1, 2] (by decide) rfl) hS
abbrev rm_c_Namer_isGathered : Room := { frames := 0, cells := 0, slots := 0, locals := 0 }
set_option maxHeartbeats 4000000 in
set_option maxRecDepth 100000 in
theorem c_Namer_isGathered (l : Launch) (dC : Nat → ClassId) (dI : Nat → Nat → Nat) (cI cL cQ cZ : ClassId) (m0 : Nat) (nd0 : Nat) (os0 : Nat) (cd0 : Nat) (nd : Nat → Nat) (os : Nat → Nat) (cd : Nat → Nat) (v : Nat) (k : Nat) (hk : k ≤ 4) (hv : v < 16) (hos : ∀ j, os j < 16) : Met l yX4_isGathered wkX4_isGathered rm_c_Namer_isGathered (q_R (dC, dI) qCl (qT cI cL cQ cZ) [(m0, .inr (4, [.ref nd0, .ref os0, .ref cd0])), (nd0, .inl (cI, 16, .inl (nF nd))), (os0, .inl (cI, 4, .inl (nF os))), (cd0, .inl (cI, 4, .inl (nF cd)))] [.ref m0, .int (nI (v)), .int (nI (k))]) (vp_Si (fun r => ∃ b9 : Bool, r = bI b9 ∧ (b9 = true ↔ f_in os k v))) 0 0 (fun _ => False) := by
  refine Met.ofW (cc := cX4_isGathered) (maxL := 4) (ret := (some .boolean)) (by decide) rfl ?_
  intro p e s m args below meth c s₁ B hml hv
  obtain ⟨hargs, hP, hK⟩ := hv
  have hx := B.exec
  have hb := B.bytes
  have hr := B.returns
  have hts : ∀ w ∈ qW, w.before args s = true := fun w h => atoms_spec (ws := wkX4_isGathered) B.pre w (List.mem_cons_of_mem _ h)
  have hown : s.vm.findClass RX4 = some m.cls := findClass_of_methodNamed B.named
  have hlocks := B.notSynchronized
  refine q_named (fun Q hQ => ?_)
  refine q_entry hargs (Nat.le_of_ble_eq_true rfl) (fun ls hl => ?_)
  have hl : lv_has ls 4 [(0, .ref m0), (1, .int (nI (v))), (2, .int (nI (k)))] := hl
  refine lv_iconst (v := (nI (0))) hx hb dX4_isGathered_0 (by decide) ?_
  refine lv_istore_n (lv' := [(3, .int (nI (0))), (0, .ref m0), (1, .int (nI (v))), (2, .int (nI (k)))]) hx hb dX4_isGathered_1 rfl hl (by decide) rfl (fun ls hl => ?_)
  have L2 : ∀ (fu : Nat) (i : Nat) (ls : Array Slot), k - i < fu → (i ≤ k) → (¬ ∃ a7, a7 < i ∧ os a7 = v) → lv_has ls 4 [(3, .int (nI (i))), (0, .ref m0), (1, .int (nI (v))), (2, .int (nI (k)))] → W p l e (headSpec wkX4_isGathered rm_c_Namer_isGathered).room s m args below meth c s.heap [] 0 0 Q (F0 m 2 ls []) := by
    intro fu
    induction fu with
    | zero => intro i ls hmu; exact absurd hmu (Nat.not_lt_zero _)
    | succ fu ih2 =>
      intro i ls hmu hi hh hl
      refine lv_iload_n hx hb dX4_isGathered_2 rfl (lv_at hl 0 rfl) ?_
      refine lv_iload_n hx hb dX4_isGathered_3 rfl (lv_at hl 3 rfl) ?_
      refine q_icmp_ge (x := i) (y := k) (tgt := 25) hx hb dX4_isGathered_4 (by decide) (by omega) (by omega) (fun c4_1 => ?_) (fun c4_1 => ?_)
      · refine lv_iconst (v := (nI (0))) hx hb dX4_isGathered_25 (by decide) ?_
        subst hQ
        exact W.zret (v := (nI (0))) hx hb hr (by decide) (fun t9 h9 _ => ⟨_, rfl, show ∃ b9 : Bool, (nI (0)) = bI b9 ∧ (b9 = true ↔ f_in os k v) from by (first | (exact ⟨true, rfl, fun _ => ⟨i, by omega, by assumption⟩, fun _ => rfl⟩) | (exact ⟨false, rfl, fun h => (by cases h), fun h => absurd h (by rw [show k = i by omega]; exact hh)⟩)), h9⟩) (fun q hq => by cases hq) dX4_isGathered_26
      · refine lv_aload_n hx hb dX4_isGathered_7 rfl (lv_at hl 1 rfl) ?_
        refine va_get (D := (dC, dI)) (ci := 4) (v := .ref os0) (C := RX4) (T := TX4) (N := 3) hx hb hts uX4 hown hK hP 0 rfl rfl 1 (by decide) (hts _ kfX4_15) (fun _ h9 => h9) rfl dX4_isGathered_8 ?_
        refine lv_iload_n hx hb dX4_isGathered_11 rfl (lv_at hl 0 rfl) ?_
        refine q_ialdN hx hb hK hP 2 0 rfl rfl (j := i) (by omega) (by omega) dX4_isGathered_12 ?_
        have bd2 := hos i
        refine lv_iload_n hx hb dX4_isGathered_13 rfl (lv_at hl 2 rfl) ?_
        refine q_icmp_ne (x := os i) (y := v) (tgt := 19) hx hb dX4_isGathered_14 (by decide) (by omega) (by omega) (fun c14_3 => ?_) (fun c14_3 => ?_)
        · refine lv_iinc (v := (nI (i + 1))) (lv' := [(3, .int (nI (i + 1))), (0, .ref m0), (1, .int (nI (v))), (2, .int (nI (k)))]) hx hb dX4_isGathered_19 hl (k := 0) rfl (q_inc _) (by decide) rfl (fun ls hl => ?_)
          refine lv_goto (tgt := 2) hx hb dX4_isGathered_22 (by decide) ?_
          exact ih2 (i + 1) ls (by omega) (show (i + 1) ≤ k from by omega) (show ¬ ∃ a7, a7 < (i + 1) ∧ os a7 = v from by (rw [lt_ex (p := fun a7 => os a7 = v) (by assumption)]; exact hh)) (lv_sub hl [0, 1, 2, 3] rfl)
        · refine lv_iconst (v := (nI (1))) hx hb dX4_isGathered_17 (by decide) ?_
          subst hQ
          exact W.zret (v := (nI (1))) hx hb hr (by decide) (fun t9 h9 _ => ⟨_, rfl, show ∃ b9 : Bool, (nI (1)) = bI b9 ∧ (b9 = true ↔ f_in os k v) from by (first | (exact ⟨true, rfl, fun _ => ⟨i, by omega, by assumption⟩, fun _ => rfl⟩) | (exact ⟨false, rfl, fun h => (by cases h), fun h => absurd h (by rw [show k = i by omega]; exact hh)⟩)), h9⟩) (fun q hq => by cases hq) dX4_isGathered_18
  exact L2 _ 0 ls (by exact Nat.lt_succ_self _) (show 0 ≤ k from by omega) (show ¬ ∃ a7, a7 < 0 ∧ os a7 = v from by (rintro ⟨a7, h, _⟩; omega)) (lv_sub hl [0, 1, 2, 3] rfl)
abbrev rm_c_Namer_gatherOthers : Room := { frames := 1, cells := 0, slots := 0, locals := 23 }
set_option maxHeartbeats 4000000 in
set_option maxRecDepth 100000 in
theorem c_Namer_gatherOthers (l : Launch) (dC : Nat → ClassId) (dI : Nat → Nat → Nat) (cI cL cQ cZ : ClassId) (m0 : Nat) (nd0 : Nat) (os0 : Nat) (cd0 : Nat) (nd : Nat → Nat) (os : Nat → Nat) (cd : Nat → Nat) (f0 : Nat) (a1 : Nat) (a2 : Nat) (n : Nat) (jn : Bool) (nm : Nat → Nat) (pl : Nat → Nat) (hn : n ≤ 4) (hpl : ∀ j, pl j < 16) (hos : ∀ j, os j < 16) : Met l yX4_gatherOthers wkX4_gatherOthers rm_c_Namer_gatherOthers (q_W (dC, dI) qCl (qT cI cL cQ cZ) [(m0, .inr (4, [.ref nd0, .ref os0, .ref cd0])), (nd0, .inl (cI, 16, .inl (nF nd))), (os0, .inl (cI, 4, .inl (nF os))), (cd0, .inl (cI, 4, .inl (nF cd))), (f0, .inr (3, [.ref a1, .ref a2, .int (nI (n)), .int (bI (jn))])), (a1, .inl (cI, 4, .inl (nF nm))), (a2, .inl (cI, 8, .inl (nF pl)))] [.ref m0, .ref f0]) (va_Qi (fun (r : Int32) (u : Nat × (Nat → Nat)) => (r = (nI (u.1))) ∧ (∀ j, u.2 j < 16) ∧ (f_gath pl u.2 (2 * n) u.1)) (fun (u : Nat × (Nat → Nat)) t => va_P (dC, dI) qCl [(m0, .inr (4, [.ref nd0, .ref os0, .ref cd0])), (nd0, .inl (cI, 16, .inl (nF nd))), (os0, .inl (cI, 4, .inl (nF u.2))), (cd0, .inl (cI, 4, .inl (nF cd))), (f0, .inr (3, [.ref a1, .ref a2, .int (nI (n)), .int (bI (jn))])), (a1, .inl (cI, 4, .inl (nF nm))), (a2, .inl (cI, 8, .inl (nF pl)))] t.heap) (q_A [(m0, .inr (4, [.ref nd0, .ref os0, .ref cd0])), (nd0, .inl (cI, 16, .inl (nF nd))), (os0, .inl (cI, 4, .inl (nF os))), (cd0, .inl (cI, 4, .inl (nF cd))), (f0, .inr (3, [.ref a1, .ref a2, .int (nI (n)), .int (bI (jn))])), (a1, .inl (cI, 4, .inl (nF nm))), (a2, .inl (cI, 8, .inl (nF pl)))])) 0 0 (q_A [(m0, .inr (4, [.ref nd0, .ref os0, .ref cd0])), (nd0, .inl (cI, 16, .inl (nF nd))), (os0, .inl (cI, 4, .inl (nF os))), (cd0, .inl (cI, 4, .inl (nF cd))), (f0, .inr (3, [.ref a1, .ref a2, .int (nI (n)), .int (bI (jn))])), (a1, .inl (cI, 4, .inl (nF nm))), (a2, .inl (cI, 8, .inl (nF pl)))]) := by
  refine Met.ofW (cc := cX4_gatherOthers) (maxL := 4) (ret := (some .int)) (by decide) rfl ?_
  intro p e s m args below meth c s₁ B hml hv
  obtain ⟨hargs, hP, hK, hD0⟩ := hv
  have hx := B.exec
  have hb := B.bytes
  have hr := B.returns
  have hts : ∀ w ∈ qW, w.before args s = true := fun w h => atoms_spec (ws := wkX4_gatherOthers) B.pre w (List.mem_cons_of_mem _ h)
  have hown : s.vm.findClass RX4 = some m.cls := findClass_of_methodNamed B.named
  have hlocks := B.notSynchronized
  refine q_named (fun Q hQ => ?_)
  have hD : va_D (q_A [(m0, .inr (4, [.ref nd0, .ref os0, .ref cd0])), (nd0, .inl (cI, 16, .inl (nF nd))), (os0, .inl (cI, 4, .inl (nF os))), (cd0, .inl (cI, 4, .inl (nF cd))), (f0, .inr (3, [.ref a1, .ref a2, .int (nI (n)), .int (bI (jn))])), (a1, .inl (cI, 4, .inl (nF nm))), (a2, .inl (cI, 8, .inl (nF pl)))]) [(m0, .inr (4, [.ref nd0, .ref os0, .ref cd0])), (nd0, .inl (cI, 16, .inl (nF nd))), (os0, .inl (cI, 4, .inl (nF os))), (cd0, .inl (cI, 4, .inl (nF cd))), (f0, .inr (3, [.ref a1, .ref a2, .int (nI (n)), .int (bI (jn))])), (a1, .inl (cI, 4, .inl (nF nm))), (a2, .inl (cI, 8, .inl (nF pl)))] := ⟨hD0.1, fun k q h => ⟨k, q.2, h⟩⟩
  generalize hAe : q_A [(m0, .inr (4, [.ref nd0, .ref os0, .ref cd0])), (nd0, .inl (cI, 16, .inl (nF nd))), (os0, .inl (cI, 4, .inl (nF os))), (cd0, .inl (cI, 4, .inl (nF cd))), (f0, .inr (3, [.ref a1, .ref a2, .int (nI (n)), .int (bI (jn))])), (a1, .inl (cI, 4, .inl (nF nm))), (a2, .inl (cI, 8, .inl (nF pl)))] = A at hD
  have hS : va_S A s.heap s.heap [] := va_S.rf
  refine q_entry hargs (Nat.le_of_ble_eq_true rfl) (fun ls hl => ?_)
  have hl : lv_has ls 4 [(0, .ref m0), (1, .ref f0)] := hl
  obtain ⟨H, locs, eH, eL⟩ : ∃ (H : Heap) (locs : List Loc), s.heap = H ∧ ([] : List Loc) = locs := ⟨_, _, rfl, rfl⟩
  have hS : va_S A s.heap H locs := by rw [← eH, ← eL]; exact hS
  have hP : va_P (dC, dI) qCl [(m0, .inr (4, [.ref nd0, .ref os0, .ref cd0])), (nd0, .inl (cI, 16, .inl (nF nd))), (os0, .inl (cI, 4, .inl (nF os))), (cd0, .inl (cI, 4, .inl (nF cd))), (f0, .inr (3, [.ref a1, .ref a2, .int (nI (n)), .int (bI (jn))])), (a1, .inl (cI, 4, .inl (nF nm))), (a2, .inl (cI, 8, .inl (nF pl)))] H := by rw [← eH]; exact hP
  refine W_at eH eL ?_
  refine lv_iconst (v := (nI (0))) hx hb dX4_gatherOthers_0 (by decide) ?_
  refine lv_istore_n (lv' := [(2, .int (nI (0))), (0, .ref m0), (1, .ref f0)]) hx hb dX4_gatherOthers_1 rfl hl (by decide) rfl (fun ls hl => ?_)
  refine lv_iconst (v := (nI (0))) hx hb dX4_gatherOthers_2 (by decide) ?_
  refine lv_istore_n (lv' := [(3, .int (nI (0))), (2, .int (nI (0))), (0, .ref m0), (1, .ref f0)]) hx hb dX4_gatherOthers_3 rfl hl (by decide) rfl (fun ls hl => ?_)
  have L4 : ∀ (fu : Nat) (k : Nat) (i : Nat) (g : Nat → Nat) (ls : Array Slot) (H : Heap) (locs : List Loc), 2 * n - i < fu → (i ≤ 2 * n) → (∀ j, g j < 16) → (f_gath pl g i k) → lv_has ls 4 [(3, .int (nI (i))), (2, .int (nI (k))), (0, .ref m0), (1, .ref f0)] → va_P (dC, dI) qCl [(m0, .inr (4, [.ref nd0, .ref os0, .ref cd0])), (nd0, .inl (cI, 16, .inl (nF nd))), (os0, .inl (cI, 4, .inl (nF g))), (cd0, .inl (cI, 4, .inl (nF cd))), (f0, .inr (3, [.ref a1, .ref a2, .int (nI (n)), .int (bI (jn))])), (a1, .inl (cI, 4, .inl (nF nm))), (a2, .inl (cI, 8, .inl (nF pl)))] H → va_D A [(m0, .inr (4, [.ref nd0, .ref os0, .ref cd0])), (nd0, .inl (cI, 16, .inl (nF nd))), (os0, .inl (cI, 4, .inl (nF g))), (cd0, .inl (cI, 4, .inl (nF cd))), (f0, .inr (3, [.ref a1, .ref a2, .int (nI (n)), .int (bI (jn))])), (a1, .inl (cI, 4, .inl (nF nm))), (a2, .inl (cI, 8, .inl (nF pl)))] → va_S A s.heap H locs → W p l e (headSpec wkX4_gatherOthers rm_c_Namer_gatherOthers).room s m args below meth c H locs 0 0 Q (F0 m 4 ls []) := by
    intro fu
    induction fu with
    | zero => intro k i g ls H locs hmu; exact absurd hmu (Nat.not_lt_zero _)
    | succ fu ih4 =>
      intro k i g ls H locs hmu hi hgb hg hl hP hD hS
      refine lv_iload_n hx hb dX4_gatherOthers_4 rfl (lv_at hl 0 rfl) ?_
      refine lv_iconst (v := (nI (2))) hx hb dX4_gatherOthers_5 (by decide) ?_
      refine lv_aload_n hx hb dX4_gatherOthers_6 rfl (lv_at hl 3 rfl) ?_
      refine va_get (D := (dC, dI)) (ci := 3) (v := .int (nI (n))) (C := RX3) (T := TX3) (N := 4) hx hb hts uX3 hown hK hP 4 rfl rfl 2 (by decide) (hts _ kfX4_48) (fun _ h9 => h9) rfl dX4_gatherOthers_7 ?_
      refine q_imul (x := 2) (y := n) hx hb dX4_gatherOthers_10 ?_
      refine q_icmp_ge (x := i) (y := 2 * n) (tgt := 66) hx hb dX4_gatherOthers_11 (by decide) (by omega) (by omega) (fun c11_1 => ?_) (fun c11_1 => ?_)
      · refine lv_iload_n hx hb dX4_gatherOthers_66 rfl (lv_at hl 1 rfl) ?_
        subst hQ
        subst hAe
        have hP9 := hP.sub (ws' := [(m0, .inr (4, [.ref nd0, .ref os0, .ref cd0])), (nd0, .inl (cI, 16, .inl (nF nd))), (os0, .inl (cI, 4, .inl (nF g))), (cd0, .inl (cI, 4, .inl (nF cd))), (f0, .inr (3, [.ref a1, .ref a2, .int (nI (n)), .int (bI (jn))])), (a1, .inl (cI, 4, .inl (nF nm))), (a2, .inl (cI, 8, .inl (nF pl)))]) [0, 1, 2, 3, 4, 5, 6] rfl
        exact W.iret (v := (nI (k))) hx hb hr (fun t9 h9 _ => ⟨⟨(nI (k)), (k, g), rfl, ⟨rfl, (show ∀ j, g j < 16 from by (exact hgb)), (show f_gath pl g (2 * n) k from by (rw [show 2 * n = i by omega]; exact hg))⟩, by show va_P _ _ _ t9.heap; rw [h9]; exact hP9⟩, hS.F h9⟩) hS.2.2 dX4_gatherOthers_67
      · refine lv_aload_n hx hb dX4_gatherOthers_14 rfl (lv_at hl 3 rfl) ?_
        refine va_get (D := (dC, dI)) (ci := 3) (v := .ref a2) (C := RX3) (T := TX3) (N := 4) hx hb hts uX3 hown hK hP 4 rfl rfl 1 (by decide) (hts _ kfX4_52) (fun _ h9 => h9) rfl dX4_gatherOthers_15 ?_
        refine lv_iload_n hx hb dX4_gatherOthers_18 rfl (lv_at hl 0 rfl) ?_
        refine q_ialdN hx hb hK hP 6 0 rfl rfl (j := i) (by omega) (by omega) dX4_gatherOthers_19 ?_
        have bd2 := hpl i
        refine vp_callSi (va_Run.run (va_runS (As := [.int (nI (pl i))]) (rest := []) ⟨hx, hb, hml, hown, hts⟩ (c_Namer_isOther l dC dI cI cL cQ cZ (pl i) (show (pl i) < 16 from by first | assumption | omega)) (q_cwS 1 hts gkX4_isOther kmX4_55 ksX4_isOther kiX4 rfl rfl rfl (by decide +kernel) ⟨Nat.le_of_ble_eq_true rfl, Nat.le_of_ble_eq_true rfl⟩) (q_preS hK hP [] rfl) rfl rfl hl.1 rfl (lv_room (Nat.le_of_ble_eq_true rfl)) dX4_gatherOthers_20 ⟨Nat.zero_le _, Nat.zero_le _⟩)) (fun r3 hr3 => ?_)
        subst hr3
        refine q_ifb_eq (b := f_oth (pl i)) (tgt := 60) hx hb dX4_gatherOthers_23 (by decide) (fun c23_4 => ?_) (fun c23_4 => ?_)
        · refine lv_iinc (v := (nI (i + 1))) (lv' := [(3, .int (nI (i + 1))), (2, .int (nI (k))), (0, .ref m0), (1, .ref f0)]) hx hb dX4_gatherOthers_60 hl (k := 0) rfl (q_inc _) (by decide) rfl (fun ls hl => ?_)
          refine lv_goto (tgt := 4) hx hb dX4_gatherOthers_63 (by decide) ?_
          exact ih4 k (i + 1) g ls _ _ (by omega) (show (i + 1) ≤ 2 * n from by omega) (show ∀ j, g j < 16 from by (first | exact hgb | exact up_lt hgb (by omega))) (show f_gath pl g (i + 1) k from by (first | (exact f_gath_k hg (Or.inl (by assumption))) | (exact f_gath_k hg (Or.inr (Or.inl (hw9.mp (by assumption))))) | (exact f_gath_k hg (Or.inr (Or.inr (by omega)))) | (exact f_gath_s hg (by assumption) (fun h9 => b_no (hw9.mpr h9) (by assumption)) (by omega)))) (lv_sub hl [0, 1, 2, 3] rfl) (hP.sub [0, 1, 2, 3, 4, 5, 6] rfl) (hD.sub [0, 1, 2, 3, 4, 5, 6] (by decide) rfl) hS
        · refine lv_aload_n hx hb dX4_gatherOthers_26 rfl (lv_at hl 2 rfl) ?_
          refine lv_aload_n hx hb dX4_gatherOthers_27 rfl (lv_at hl 3 rfl) ?_
          refine va_get (D := (dC, dI)) (ci := 3) (v := .ref a2) (C := RX3) (T := TX3) (N := 4) hx hb hts uX3 hown hK hP 4 rfl rfl 1 (by decide) (hts _ kfX4_52) (fun _ h9 => h9) rfl dX4_gatherOthers_28 ?_
          refine lv_iload_n hx hb dX4_gatherOthers_31 rfl (lv_at hl 0 rfl) ?_
          refine q_ialdN hx hb hK hP 6 0 rfl rfl (j := i) (by omega) (by omega) dX4_gatherOthers_32 ?_
          have bd5 := hpl i
          refine lv_iload_n hx hb dX4_gatherOthers_33 rfl (lv_at hl 1 rfl) ?_
          refine vp_callSi (va_Run.run (va_runV (As := [.int (nI (pl i)), .int (nI (k))]) (rest := []) ⟨hx, hb, hml, hown, hts⟩ (c_Namer_isGathered l dC dI cI cL cQ cZ m0 nd0 os0 cd0 nd g cd (pl i) k (show k ≤ 4 from by (exact hg.1)) (show (pl i) < 16 from by first | assumption | omega) (show ∀ j, g j < 16 from by first | assumption | omega)) (q_cwV 2 hts gkX4_isGathered kmX4_63 knX4_isGathered klX4_isGathered kiX4 rfl rfl rfl (by decide +kernel) ⟨Nat.le_of_ble_eq_true rfl, Nat.le_of_ble_eq_true rfl⟩) (q_preV hK hP [0, 1, 2, 3] rfl 0 (ci := 4) (r := (RX4, TX4, 3)) rfl rfl) rfl rfl hl.1 rfl (lv_room (Nat.le_of_ble_eq_true rfl)) dX4_gatherOthers_34 ⟨Nat.zero_le _, Nat.zero_le _⟩)) (fun r6 hr6 => ?_)
          have hr6 : ∃ b9 : Bool, r6 = bI b9 ∧ (b9 = true ↔ f_in g k (pl i)) := hr6
          have hlast := hr6
          obtain ⟨b9, ey9, hw9⟩ := hlast
          refine q_top ey9 ?_
          refine q_ifb_ne (b := b9) (tgt := 60) hx hb dX4_gatherOthers_37 (by decide) (fun c37_7 => ?_) (fun c37_7 => ?_)
          · refine lv_iinc (v := (nI (i + 1))) (lv' := [(3, .int (nI (i + 1))), (2, .int (nI (k))), (0, .ref m0), (1, .ref f0)]) hx hb dX4_gatherOthers_60 hl (k := 0) rfl (q_inc _) (by decide) rfl (fun ls hl => ?_)
            refine lv_goto (tgt := 4) hx hb dX4_gatherOthers_63 (by decide) ?_
            exact ih4 k (i + 1) g ls _ _ (by omega) (show (i + 1) ≤ 2 * n from by omega) (show ∀ j, g j < 16 from by (first | exact hgb | exact up_lt hgb (by omega))) (show f_gath pl g (i + 1) k from by (first | (exact f_gath_k hg (Or.inl (by assumption))) | (exact f_gath_k hg (Or.inr (Or.inl (hw9.mp (by assumption))))) | (exact f_gath_k hg (Or.inr (Or.inr (by omega)))) | (exact f_gath_s hg (by assumption) (fun h9 => b_no (hw9.mpr h9) (by assumption)) (by omega)))) (lv_sub hl [0, 1, 2, 3] rfl) (hP.sub [0, 1, 2, 3, 4, 5, 6] rfl) (hD.sub [0, 1, 2, 3, 4, 5, 6] (by decide) rfl) hS
          · refine lv_iload_n hx hb dX4_gatherOthers_40 rfl (lv_at hl 1 rfl) ?_
            refine lv_iconst (v := (nI (4))) hx hb dX4_gatherOthers_41 (by decide) ?_
            refine q_icmp_ge (x := k) (y := 4) (tgt := 60) hx hb dX4_gatherOthers_42 (by decide) (by (have := hg.1; omega)) (by omega) (fun c42_8 => ?_) (fun c42_8 => ?_)
            · refine lv_iinc (v := (nI (i + 1))) (lv' := [(3, .int (nI (i + 1))), (2, .int (nI (k))), (0, .ref m0), (1, .ref f0)]) hx hb dX4_gatherOthers_60 hl (k := 0) rfl (q_inc _) (by decide) rfl (fun ls hl => ?_)
              refine lv_goto (tgt := 4) hx hb dX4_gatherOthers_63 (by decide) ?_
              exact ih4 k (i + 1) g ls _ _ (by omega) (show (i + 1) ≤ 2 * n from by omega) (show ∀ j, g j < 16 from by (first | exact hgb | exact up_lt hgb (by omega))) (show f_gath pl g (i + 1) k from by (first | (exact f_gath_k hg (Or.inl (by assumption))) | (exact f_gath_k hg (Or.inr (Or.inl (hw9.mp (by assumption))))) | (exact f_gath_k hg (Or.inr (Or.inr (by omega)))) | (exact f_gath_s hg (by assumption) (fun h9 => b_no (hw9.mpr h9) (by assumption)) (by omega)))) (lv_sub hl [0, 1, 2, 3] rfl) (hP.sub [0, 1, 2, 3, 4, 5, 6] rfl) (hD.sub [0, 1, 2, 3, 4, 5, 6] (by decide) rfl) hS
            · refine lv_aload_n hx hb dX4_gatherOthers_45 rfl (lv_at hl 2 rfl) ?_
              refine va_get (D := (dC, dI)) (ci := 4) (v := .ref os0) (C := RX4) (T := TX4) (N := 3) hx hb hts uX4 hown hK hP 0 rfl rfl 1 (by decide) (hts _ kfX4_15) (fun _ h9 => h9) rfl dX4_gatherOthers_46 ?_
              refine lv_iload_n hx hb dX4_gatherOthers_49 rfl (lv_at hl 1 rfl) ?_
              refine lv_aload_n hx hb dX4_gatherOthers_50 rfl (lv_at hl 3 rfl) ?_
              refine va_get (D := (dC, dI)) (ci := 3) (v := .ref a2) (C := RX3) (T := TX3) (N := 4) hx hb hts uX3 hown hK hP 4 rfl rfl 1 (by decide) (hts _ kfX4_52) (fun _ h9 => h9) rfl dX4_gatherOthers_51 ?_
              refine lv_iload_n hx hb dX4_gatherOthers_54 rfl (lv_at hl 0 rfl) ?_
              refine q_ialdN hx hb hK hP 6 0 rfl rfl (j := i) (by omega) (by omega) dX4_gatherOthers_55 ?_
              have bd9 := hpl i
              refine q_iastN hx hb hK hP hD hS 2 0 rfl rfl (j := k) (x := pl i) (by omega) (by omega) dX4_gatherOthers_56 (fun H locs hP hD hS => ?_)
              have hP : va_P (dC, dI) qCl [(m0, .inr (4, [.ref nd0, .ref os0, .ref cd0])), (nd0, .inl (cI, 16, .inl (nF nd))), (os0, .inl (cI, 4, .inl (nF (va_up g k (pl i))))), (cd0, .inl (cI, 4, .inl (nF cd))), (f0, .inr (3, [.ref a1, .ref a2, .int (nI (n)), .int (bI (jn))])), (a1, .inl (cI, 4, .inl (nF nm))), (a2, .inl (cI, 8, .inl (nF pl)))] H := hP
              have hD : va_D A [(m0, .inr (4, [.ref nd0, .ref os0, .ref cd0])), (nd0, .inl (cI, 16, .inl (nF nd))), (os0, .inl (cI, 4, .inl (nF (va_up g k (pl i))))), (cd0, .inl (cI, 4, .inl (nF cd))), (f0, .inr (3, [.ref a1, .ref a2, .int (nI (n)), .int (bI (jn))])), (a1, .inl (cI, 4, .inl (nF nm))), (a2, .inl (cI, 8, .inl (nF pl)))] := hD
              refine lv_iinc (v := (nI (k + 1))) (lv' := [(2, .int (nI (k + 1))), (3, .int (nI (i))), (0, .ref m0), (1, .ref f0)]) hx hb dX4_gatherOthers_57 hl (k := 1) rfl (q_inc _) (by decide) rfl (fun ls hl => ?_)
              refine lv_iinc (v := (nI (i + 1))) (lv' := [(3, .int (nI (i + 1))), (2, .int (nI (k + 1))), (0, .ref m0), (1, .ref f0)]) hx hb dX4_gatherOthers_60 hl (k := 1) rfl (q_inc _) (by decide) rfl (fun ls hl => ?_)
              refine lv_goto (tgt := 4) hx hb dX4_gatherOthers_63 (by decide) ?_
              exact ih4 (k + 1) (i + 1) (va_up g k (pl i)) ls _ _ (by omega) (show (i + 1) ≤ 2 * n from by omega) (show ∀ j, (va_up g k (pl i)) j < 16 from by (first | exact hgb | exact up_lt hgb (by omega))) (show f_gath pl (va_up g k (pl i)) (i + 1) (k + 1) from by (first | (exact f_gath_k hg (Or.inl (by assumption))) | (exact f_gath_k hg (Or.inr (Or.inl (hw9.mp (by assumption))))) | (exact f_gath_k hg (Or.inr (Or.inr (by omega)))) | (exact f_gath_s hg (by assumption) (fun h9 => b_no (hw9.mpr h9) (by assumption)) (by omega)))) (lv_sub hl [0, 1, 2, 3] rfl) (hP.sub [0, 1, 2, 3, 4, 5, 6] rfl) (hD.sub [0, 1, 2, 3, 4, 5, 6] (by decide) rfl) hS
  exact L4 _ 0 0 os ls _ _ (by exact Nat.lt_succ_self _) (show 0 ≤ 2 * n from by omega) (show ∀ j, os j < 16 from by (exact hos)) (show f_gath pl os 0 0 from by (exact ⟨by omega, fun a h => (by omega), fun a b _ h => (by omega), fun _ j h => (by omega)⟩)) (lv_sub hl [0, 1, 2, 3] rfl) (hP.sub [0, 1, 2, 3, 4, 5, 6] rfl) (hD.sub [0, 1, 2, 3, 4, 5, 6] (by decide) rfl) hS
abbrev rm_c_Namer_sortCodes : Room := { frames := 0, cells := 0, slots := 0, locals := 0 }
set_option maxHeartbeats 4000000 in
set_option maxRecDepth 100000 in
theorem c_Namer_sortCodes (l : Launch) (dC : Nat → ClassId) (dI : Nat → Nat → Nat) (cI cL cQ cZ : ClassId) (m0 : Nat) (nd0 : Nat) (os0 : Nat) (cd0 : Nat) (nd : Nat → Nat) (os : Nat → Nat) (cd : Nat → Nat) (f0 : Nat) (a1 : Nat) (a2 : Nat) (n : Nat) (jn : Bool) (nm : Nat → Nat) (pl : Nat → Nat) (hn : n ≤ 4) (hnm : ∀ j, nm j < 64) (hpl : ∀ j, pl j < 16) (hnd : ∀ j, nd j < 8) (hcd : ∀ j, cd j < 4096) : Met l yX4_sortCodes wkX4_sortCodes rm_c_Namer_sortCodes (q_W (dC, dI) qCl (qT cI cL cQ cZ) [(m0, .inr (4, [.ref nd0, .ref os0, .ref cd0])), (nd0, .inl (cI, 16, .inl (nF nd))), (os0, .inl (cI, 4, .inl (nF os))), (cd0, .inl (cI, 4, .inl (nF cd))), (f0, .inr (3, [.ref a1, .ref a2, .int (nI (n)), .int (bI (jn))])), (a1, .inl (cI, 4, .inl (nF nm))), (a2, .inl (cI, 8, .inl (nF pl)))] [.ref m0, .ref f0]) (va_Qv (fun (u : (Nat → Nat)) => (∀ j, u j < 4096) ∧ (f_srt (f_code nm pl nd) u n)) (fun (u : (Nat → Nat)) t => va_P (dC, dI) qCl [(m0, .inr (4, [.ref nd0, .ref os0, .ref cd0])), (nd0, .inl (cI, 16, .inl (nF nd))), (os0, .inl (cI, 4, .inl (nF os))), (cd0, .inl (cI, 4, .inl (nF u))), (f0, .inr (3, [.ref a1, .ref a2, .int (nI (n)), .int (bI (jn))])), (a1, .inl (cI, 4, .inl (nF nm))), (a2, .inl (cI, 8, .inl (nF pl)))] t.heap) (q_A [(m0, .inr (4, [.ref nd0, .ref os0, .ref cd0])), (nd0, .inl (cI, 16, .inl (nF nd))), (os0, .inl (cI, 4, .inl (nF os))), (cd0, .inl (cI, 4, .inl (nF cd))), (f0, .inr (3, [.ref a1, .ref a2, .int (nI (n)), .int (bI (jn))])), (a1, .inl (cI, 4, .inl (nF nm))), (a2, .inl (cI, 8, .inl (nF pl)))])) 0 0 (q_A [(m0, .inr (4, [.ref nd0, .ref os0, .ref cd0])), (nd0, .inl (cI, 16, .inl (nF nd))), (os0, .inl (cI, 4, .inl (nF os))), (cd0, .inl (cI, 4, .inl (nF cd))), (f0, .inr (3, [.ref a1, .ref a2, .int (nI (n)), .int (bI (jn))])), (a1, .inl (cI, 4, .inl (nF nm))), (a2, .inl (cI, 8, .inl (nF pl)))]) := by
  refine Met.ofW (cc := cX4_sortCodes) (maxL := 7) (ret := none) (by decide) rfl ?_
  intro p e s m args below meth c s₁ B hml hv
  obtain ⟨hargs, hP, hK, hD0⟩ := hv
  have hx := B.exec
  have hb := B.bytes
  have hr := B.returns
  have hts : ∀ w ∈ qW, w.before args s = true := fun w h => atoms_spec (ws := wkX4_sortCodes) B.pre w (List.mem_cons_of_mem _ h)
  have hown : s.vm.findClass RX4 = some m.cls := findClass_of_methodNamed B.named
  have hlocks := B.notSynchronized
  refine q_named (fun Q hQ => ?_)
  have hD : va_D (q_A [(m0, .inr (4, [.ref nd0, .ref os0, .ref cd0])), (nd0, .inl (cI, 16, .inl (nF nd))), (os0, .inl (cI, 4, .inl (nF os))), (cd0, .inl (cI, 4, .inl (nF cd))), (f0, .inr (3, [.ref a1, .ref a2, .int (nI (n)), .int (bI (jn))])), (a1, .inl (cI, 4, .inl (nF nm))), (a2, .inl (cI, 8, .inl (nF pl)))]) [(m0, .inr (4, [.ref nd0, .ref os0, .ref cd0])), (nd0, .inl (cI, 16, .inl (nF nd))), (os0, .inl (cI, 4, .inl (nF os))), (cd0, .inl (cI, 4, .inl (nF cd))), (f0, .inr (3, [.ref a1, .ref a2, .int (nI (n)), .int (bI (jn))])), (a1, .inl (cI, 4, .inl (nF nm))), (a2, .inl (cI, 8, .inl (nF pl)))] := ⟨hD0.1, fun k q h => ⟨k, q.2, h⟩⟩
  generalize hAe : q_A [(m0, .inr (4, [.ref nd0, .ref os0, .ref cd0])), (nd0, .inl (cI, 16, .inl (nF nd))), (os0, .inl (cI, 4, .inl (nF os))), (cd0, .inl (cI, 4, .inl (nF cd))), (f0, .inr (3, [.ref a1, .ref a2, .int (nI (n)), .int (bI (jn))])), (a1, .inl (cI, 4, .inl (nF nm))), (a2, .inl (cI, 8, .inl (nF pl)))] = A at hD
  have hS : va_S A s.heap s.heap [] := va_S.rf
  refine q_entry hargs (Nat.le_of_ble_eq_true rfl) (fun ls hl => ?_)
  have hl : lv_has ls 7 [(0, .ref m0), (1, .ref f0)] := hl
  obtain ⟨H, locs, eH, eL⟩ : ∃ (H : Heap) (locs : List Loc), s.heap = H ∧ ([] : List Loc) = locs := ⟨_, _, rfl, rfl⟩
  have hS : va_S A s.heap H locs := by rw [← eH, ← eL]; exact hS
  have hP : va_P (dC, dI) qCl [(m0, .inr (4, [.ref nd0, .ref os0, .ref cd0])), (nd0, .inl (cI, 16, .inl (nF nd))), (os0, .inl (cI, 4, .inl (nF os))), (cd0, .inl (cI, 4, .inl (nF cd))), (f0, .inr (3, [.ref a1, .ref a2, .int (nI (n)), .int (bI (jn))])), (a1, .inl (cI, 4, .inl (nF nm))), (a2, .inl (cI, 8, .inl (nF pl)))] H := by rw [← eH]; exact hP
  refine W_at eH eL ?_
  refine lv_iconst (v := (nI (0))) hx hb dX4_sortCodes_0 (by decide) ?_
  refine lv_istore_n (lv' := [(2, .int (nI (0))), (0, .ref m0), (1, .ref f0)]) hx hb dX4_sortCodes_1 rfl hl (by decide) rfl (fun ls hl => ?_)
  have L2 : ∀ (fu : Nat) (g : Nat → Nat) (i : Nat) (ls : Array Slot) (H : Heap) (locs : List Loc), n - i < fu → (i ≤ n) → (∀ j, g j < 4096) → (f_srt (f_code nm pl nd) g i) → lv_has ls 7 [(2, .int (nI (i))), (0, .ref m0), (1, .ref f0)] → va_P (dC, dI) qCl [(m0, .inr (4, [.ref nd0, .ref os0, .ref cd0])), (nd0, .inl (cI, 16, .inl (nF nd))), (os0, .inl (cI, 4, .inl (nF os))), (cd0, .inl (cI, 4, .inl (nF g))), (f0, .inr (3, [.ref a1, .ref a2, .int (nI (n)), .int (bI (jn))])), (a1, .inl (cI, 4, .inl (nF nm))), (a2, .inl (cI, 8, .inl (nF pl)))] H → va_D A [(m0, .inr (4, [.ref nd0, .ref os0, .ref cd0])), (nd0, .inl (cI, 16, .inl (nF nd))), (os0, .inl (cI, 4, .inl (nF os))), (cd0, .inl (cI, 4, .inl (nF g))), (f0, .inr (3, [.ref a1, .ref a2, .int (nI (n)), .int (bI (jn))])), (a1, .inl (cI, 4, .inl (nF nm))), (a2, .inl (cI, 8, .inl (nF pl)))] → va_S A s.heap H locs → W p l e (headSpec wkX4_sortCodes rm_c_Namer_sortCodes).room s m args below meth c H locs 0 0 Q (F0 m 2 ls []) := by
    intro fu
    induction fu with
    | zero => intro g i ls H locs hmu; exact absurd hmu (Nat.not_lt_zero _)
    | succ fu ih2 =>
      intro g i ls H locs hmu hi hgb hg hl hP hD hS
      refine lv_iload_n hx hb dX4_sortCodes_2 rfl (lv_at hl 0 rfl) ?_
      refine lv_aload_n hx hb dX4_sortCodes_3 rfl (lv_at hl 2 rfl) ?_
      refine va_get (D := (dC, dI)) (ci := 3) (v := .int (nI (n))) (C := RX3) (T := TX3) (N := 4) hx hb hts uX3 hown hK hP 4 rfl rfl 2 (by decide) (hts _ kfX4_48) (fun _ h9 => h9) rfl dX4_sortCodes_4 ?_
      refine q_icmp_ge (x := i) (y := n) (tgt := 119) hx hb dX4_sortCodes_7 (by decide) (by omega) (by omega) (fun c7_1 => ?_) (fun c7_1 => ?_)
      · subst hQ
        subst hAe
        have hP9 := hP.sub (ws' := [(m0, .inr (4, [.ref nd0, .ref os0, .ref cd0])), (nd0, .inl (cI, 16, .inl (nF nd))), (os0, .inl (cI, 4, .inl (nF os))), (cd0, .inl (cI, 4, .inl (nF g))), (f0, .inr (3, [.ref a1, .ref a2, .int (nI (n)), .int (bI (jn))])), (a1, .inl (cI, 4, .inl (nF nm))), (a2, .inl (cI, 8, .inl (nF pl)))]) [0, 1, 2, 3, 4, 5, 6] rfl
        exact W.vret hx hb hr (fun t9 h9 _ => ⟨⟨(g), rfl, ⟨(show ∀ j, g j < 4096 from by (exact hgb)), (show f_srt (f_code nm pl nd) g n from by (rw [show n = i by omega]; exact hg))⟩, by show va_P _ _ _ t9.heap; rw [h9]; exact hP9⟩, hS.F h9⟩) hS.2.2 dX4_sortCodes_119
      · refine lv_aload_n hx hb dX4_sortCodes_10 rfl (lv_at hl 1 rfl) ?_
        refine va_get (D := (dC, dI)) (ci := 4) (v := .ref nd0) (C := RX4) (T := TX4) (N := 3) hx hb hts uX4 hown hK hP 0 rfl rfl 0 (by decide) (hts _ kfX4_9) (fun _ h9 => h9) rfl dX4_sortCodes_11 ?_
        refine lv_aload_n hx hb dX4_sortCodes_14 rfl (lv_at hl 2 rfl) ?_
        refine va_get (D := (dC, dI)) (ci := 3) (v := .ref a2) (C := RX3) (T := TX3) (N := 4) hx hb hts uX3 hown hK hP 4 rfl rfl 1 (by decide) (hts _ kfX4_52) (fun _ h9 => h9) rfl dX4_sortCodes_15 ?_
        refine lv_iconst (v := (nI (2))) hx hb dX4_sortCodes_18 (by decide) ?_
        refine lv_iload_n hx hb dX4_sortCodes_19 rfl (lv_at hl 0 rfl) ?_
        refine q_imul (x := 2) (y := i) hx hb dX4_sortCodes_20 ?_
        refine q_ialdN hx hb hK hP 6 0 rfl rfl (j := 2 * i) (by omega) (by omega) dX4_sortCodes_21 ?_
        have bd2 := hpl (2 * i)
        refine q_ialdN hx hb hK hP 1 0 rfl rfl (j := pl (2 * i)) (by omega) (by omega) dX4_sortCodes_22 ?_
        have bd3 := hnd (pl (2 * i))
        refine lv_istore_n (lv' := [(3, .int (nI (nd (pl (2 * i))))), (2, .int (nI (i))), (0, .ref m0), (1, .ref f0)]) hx hb dX4_sortCodes_23 rfl hl (by decide) rfl (fun ls hl => ?_)
        refine lv_aload_n hx hb dX4_sortCodes_24 rfl (lv_at hl 2 rfl) ?_
        refine va_get (D := (dC, dI)) (ci := 4) (v := .ref nd0) (C := RX4) (T := TX4) (N := 3) hx hb hts uX4 hown hK hP 0 rfl rfl 0 (by decide) (hts _ kfX4_9) (fun _ h9 => h9) rfl dX4_sortCodes_25 ?_
        refine lv_aload_n hx hb dX4_sortCodes_28 rfl (lv_at hl 3 rfl) ?_
        refine va_get (D := (dC, dI)) (ci := 3) (v := .ref a2) (C := RX3) (T := TX3) (N := 4) hx hb hts uX3 hown hK hP 4 rfl rfl 1 (by decide) (hts _ kfX4_52) (fun _ h9 => h9) rfl dX4_sortCodes_29 ?_
        refine lv_iconst (v := (nI (2))) hx hb dX4_sortCodes_32 (by decide) ?_
        refine lv_iload_n hx hb dX4_sortCodes_33 rfl (lv_at hl 1 rfl) ?_
        refine q_imul (x := 2) (y := i) hx hb dX4_sortCodes_34 ?_
        refine lv_iconst (v := (nI (1))) hx hb dX4_sortCodes_35 (by decide) ?_
        refine q_iadd (x := 2 * i) (y := 1) hx hb dX4_sortCodes_36 ?_
        refine q_ialdN hx hb hK hP 6 0 rfl rfl (j := (2 * i) + 1) (by omega) (by omega) dX4_sortCodes_37 ?_
        have bd4 := hpl ((2 * i) + 1)
        refine q_ialdN hx hb hK hP 1 0 rfl rfl (j := pl ((2 * i) + 1)) (by omega) (by omega) dX4_sortCodes_38 ?_
        have bd5 := hnd (pl ((2 * i) + 1))
        refine lv_istore (lv' := [(4, .int (nI (nd (pl ((2 * i) + 1))))), (3, .int (nI (nd (pl (2 * i))))), (2, .int (nI (i))), (0, .ref m0), (1, .ref f0)]) hx hb dX4_sortCodes_39 hl (by decide) rfl (fun ls hl => ?_)
        refine lv_bipush (v := (nI (64))) hx hb dX4_sortCodes_41 (by decide) ?_
        refine lv_aload_n hx hb dX4_sortCodes_43 rfl (lv_at hl 4 rfl) ?_
        refine va_get (D := (dC, dI)) (ci := 3) (v := .ref a1) (C := RX3) (T := TX3) (N := 4) hx hb hts uX3 hown hK hP 4 rfl rfl 0 (by decide) (hts _ kfX4_67) (fun _ h9 => h9) rfl dX4_sortCodes_44 ?_
        refine lv_iload_n hx hb dX4_sortCodes_47 rfl (lv_at hl 2 rfl) ?_
        refine q_ialdN hx hb hK hP 5 0 rfl rfl (j := i) (by omega) (by omega) dX4_sortCodes_48 ?_
        have bd6 := hnm i
        refine q_imul (x := 64) (y := nm i) hx hb dX4_sortCodes_49 ?_
        refine lv_bipush (v := (nI (8))) hx hb dX4_sortCodes_50 (by decide) ?_
        refine lv_iload_n hx hb dX4_sortCodes_52 rfl (lv_at hl 1 rfl) ?_
        refine q_imul (x := 8) (y := nd (pl (2 * i))) hx hb dX4_sortCodes_53 ?_
        refine q_iadd (x := 64 * (nm i)) (y := 8 * (nd (pl (2 * i)))) hx hb dX4_sortCodes_54 ?_
        refine lv_iload hx hb dX4_sortCodes_55 (lv_at hl 0 rfl) ?_
        refine q_iadd (x := (64 * (nm i)) + (8 * (nd (pl (2 * i))))) (y := nd (pl ((2 * i) + 1))) hx hb dX4_sortCodes_57 ?_
        refine q_top (show (nI (((64 * (nm i)) + (8 * (nd (pl (2 * i))))) + (nd (pl ((2 * i) + 1))))) = (nI (f_code nm pl nd i)) from rfl) ?_
        have hcq : f_code nm pl nd i < 4096 := (by unfold f_code; omega)
        refine lv_istore (lv' := [(5, .int (nI (f_code nm pl nd i))), (4, .int (nI (nd (pl ((2 * i) + 1))))), (3, .int (nI (nd (pl (2 * i))))), (2, .int (nI (i))), (0, .ref m0), (1, .ref f0)]) hx hb dX4_sortCodes_58 hl (by decide) rfl (fun ls hl => ?_)
        refine lv_iload_n hx hb dX4_sortCodes_60 rfl (lv_at hl 3 rfl) ?_
        refine lv_istore (lv' := [(6, .int (nI (i))), (5, .int (nI (f_code nm pl nd i))), (4, .int (nI (nd (pl ((2 * i) + 1))))), (3, .int (nI (nd (pl (2 * i))))), (2, .int (nI (i))), (0, .ref m0), (1, .ref f0)]) hx hb dX4_sortCodes_61 hl (by decide) rfl (fun ls hl => ?_)
        have L63 : ∀ (fu : Nat) (z : Nat → Nat) (k : Nat) (ls : Array Slot) (H : Heap) (locs : List Loc), k < fu → (∀ j, z j < 4096) → (f_shf g z i k (f_code nm pl nd i)) → lv_has ls 7 [(6, .int (nI (k))), (5, .int (nI (f_code nm pl nd i))), (4, .int (nI (nd (pl ((2 * i) + 1))))), (3, .int (nI (nd (pl (2 * i))))), (2, .int (nI (i))), (0, .ref m0), (1, .ref f0)] → va_P (dC, dI) qCl [(m0, .inr (4, [.ref nd0, .ref os0, .ref cd0])), (nd0, .inl (cI, 16, .inl (nF nd))), (os0, .inl (cI, 4, .inl (nF os))), (cd0, .inl (cI, 4, .inl (nF z))), (f0, .inr (3, [.ref a1, .ref a2, .int (nI (n)), .int (bI (jn))])), (a1, .inl (cI, 4, .inl (nF nm))), (a2, .inl (cI, 8, .inl (nF pl)))] H → va_D A [(m0, .inr (4, [.ref nd0, .ref os0, .ref cd0])), (nd0, .inl (cI, 16, .inl (nF nd))), (os0, .inl (cI, 4, .inl (nF os))), (cd0, .inl (cI, 4, .inl (nF z))), (f0, .inr (3, [.ref a1, .ref a2, .int (nI (n)), .int (bI (jn))])), (a1, .inl (cI, 4, .inl (nF nm))), (a2, .inl (cI, 8, .inl (nF pl)))] → va_S A s.heap H locs → W p l e (headSpec wkX4_sortCodes rm_c_Namer_sortCodes).room s m args below meth c H locs 0 0 Q (F0 m 63 ls []) := by
          intro fu
          induction fu with
          | zero => intro z k ls H locs hmu; exact absurd hmu (Nat.not_lt_zero _)
          | succ fu ih63 =>
            intro z k ls H locs hmu hzb hz hl hP hD hS
            have hk9 := hz.1
            refine lv_iload hx hb dX4_sortCodes_63 (lv_at hl 0 rfl) ?_
            refine q_if_le (x := k) (tgt := 104) hx hb dX4_sortCodes_65 (by decide) (by omega) (fun c65_7 => ?_) (fun c65_7 => ?_)
            · refine lv_aload_n hx hb dX4_sortCodes_104 rfl (lv_at hl 5 rfl) ?_
              refine va_get (D := (dC, dI)) (ci := 4) (v := .ref cd0) (C := RX4) (T := TX4) (N := 3) hx hb hts uX4 hown hK hP 0 rfl rfl 2 (by decide) (hts _ kfX4_18) (fun _ h9 => h9) rfl dX4_sortCodes_105 ?_
              refine lv_iload hx hb dX4_sortCodes_108 (lv_at hl 0 rfl) ?_
              refine lv_iload hx hb dX4_sortCodes_110 (lv_at hl 1 rfl) ?_
              refine q_iastN hx hb hK hP hD hS 3 0 rfl rfl (j := k) (x := f_code nm pl nd i) (by omega) (by omega) dX4_sortCodes_112 (fun H locs hP hD hS => ?_)
              have hP : va_P (dC, dI) qCl [(m0, .inr (4, [.ref nd0, .ref os0, .ref cd0])), (nd0, .inl (cI, 16, .inl (nF nd))), (os0, .inl (cI, 4, .inl (nF os))), (cd0, .inl (cI, 4, .inl (nF (va_up z k (f_code nm pl nd i))))), (f0, .inr (3, [.ref a1, .ref a2, .int (nI (n)), .int (bI (jn))])), (a1, .inl (cI, 4, .inl (nF nm))), (a2, .inl (cI, 8, .inl (nF pl)))] H := hP
              have hD : va_D A [(m0, .inr (4, [.ref nd0, .ref os0, .ref cd0])), (nd0, .inl (cI, 16, .inl (nF nd))), (os0, .inl (cI, 4, .inl (nF os))), (cd0, .inl (cI, 4, .inl (nF (va_up z k (f_code nm pl nd i))))), (f0, .inr (3, [.ref a1, .ref a2, .int (nI (n)), .int (bI (jn))])), (a1, .inl (cI, 4, .inl (nF nm))), (a2, .inl (cI, 8, .inl (nF pl)))] := hD
              refine lv_iinc (v := (nI (i + 1))) (lv' := [(2, .int (nI (i + 1))), (6, .int (nI (k))), (5, .int (nI (f_code nm pl nd i))), (4, .int (nI (nd (pl ((2 * i) + 1))))), (3, .int (nI (nd (pl (2 * i))))), (0, .ref m0), (1, .ref f0)]) hx hb dX4_sortCodes_113 hl (k := 4) rfl (q_inc _) (by decide) rfl (fun ls hl => ?_)
              refine lv_goto (tgt := 2) hx hb dX4_sortCodes_116 (by decide) ?_
              exact ih2 (va_up z k (f_code nm pl nd i)) (i + 1) ls _ _ (by omega) (show (i + 1) ≤ n from by omega) (show ∀ j, (va_up z k (f_code nm pl nd i)) j < 4096 from by (exact up_lt hzb (by omega))) (show f_srt (f_code nm pl nd) (va_up z k (f_code nm pl nd i)) (i + 1) from by (exact f_srt_s hg hz (by first | exact Or.inl (by omega) | exact Or.inr (by omega)))) (lv_sub hl [0, 5, 6] rfl) (hP.sub [0, 1, 2, 3, 4, 5, 6] rfl) (hD.sub [0, 1, 2, 3, 4, 5, 6] (by decide) rfl) hS
            · refine lv_aload_n hx hb dX4_sortCodes_68 rfl (lv_at hl 5 rfl) ?_
              refine va_get (D := (dC, dI)) (ci := 4) (v := .ref cd0) (C := RX4) (T := TX4) (N := 3) hx hb hts uX4 hown hK hP 0 rfl rfl 2 (by decide) (hts _ kfX4_18) (fun _ h9 => h9) rfl dX4_sortCodes_69 ?_
              refine lv_iload hx hb dX4_sortCodes_72 (lv_at hl 0 rfl) ?_
              refine lv_iconst (v := (nI (1))) hx hb dX4_sortCodes_74 (by decide) ?_
              refine q_isub (x := k) (y := 1) hx hb (by omega) dX4_sortCodes_75 ?_
              refine q_ialdN hx hb hK hP 3 0 rfl rfl (j := k - 1) (by omega) (by omega) dX4_sortCodes_76 ?_
              have bd8 := hzb (k - 1)
              refine lv_iload hx hb dX4_sortCodes_77 (lv_at hl 1 rfl) ?_
              refine q_icmp_le (x := z (k - 1)) (y := f_code nm pl nd i) (tgt := 104) hx hb dX4_sortCodes_79 (by decide) (by omega) (by omega) (fun c79_9 => ?_) (fun c79_9 => ?_)
              · refine lv_aload_n hx hb dX4_sortCodes_104 rfl (lv_at hl 5 rfl) ?_
                refine va_get (D := (dC, dI)) (ci := 4) (v := .ref cd0) (C := RX4) (T := TX4) (N := 3) hx hb hts uX4 hown hK hP 0 rfl rfl 2 (by decide) (hts _ kfX4_18) (fun _ h9 => h9) rfl dX4_sortCodes_105 ?_
                refine lv_iload hx hb dX4_sortCodes_108 (lv_at hl 0 rfl) ?_
                refine lv_iload hx hb dX4_sortCodes_110 (lv_at hl 1 rfl) ?_
                refine q_iastN hx hb hK hP hD hS 3 0 rfl rfl (j := k) (x := f_code nm pl nd i) (by omega) (by omega) dX4_sortCodes_112 (fun H locs hP hD hS => ?_)
                have hP : va_P (dC, dI) qCl [(m0, .inr (4, [.ref nd0, .ref os0, .ref cd0])), (nd0, .inl (cI, 16, .inl (nF nd))), (os0, .inl (cI, 4, .inl (nF os))), (cd0, .inl (cI, 4, .inl (nF (va_up z k (f_code nm pl nd i))))), (f0, .inr (3, [.ref a1, .ref a2, .int (nI (n)), .int (bI (jn))])), (a1, .inl (cI, 4, .inl (nF nm))), (a2, .inl (cI, 8, .inl (nF pl)))] H := hP
                have hD : va_D A [(m0, .inr (4, [.ref nd0, .ref os0, .ref cd0])), (nd0, .inl (cI, 16, .inl (nF nd))), (os0, .inl (cI, 4, .inl (nF os))), (cd0, .inl (cI, 4, .inl (nF (va_up z k (f_code nm pl nd i))))), (f0, .inr (3, [.ref a1, .ref a2, .int (nI (n)), .int (bI (jn))])), (a1, .inl (cI, 4, .inl (nF nm))), (a2, .inl (cI, 8, .inl (nF pl)))] := hD
                refine lv_iinc (v := (nI (i + 1))) (lv' := [(2, .int (nI (i + 1))), (6, .int (nI (k))), (5, .int (nI (f_code nm pl nd i))), (4, .int (nI (nd (pl ((2 * i) + 1))))), (3, .int (nI (nd (pl (2 * i))))), (0, .ref m0), (1, .ref f0)]) hx hb dX4_sortCodes_113 hl (k := 4) rfl (q_inc _) (by decide) rfl (fun ls hl => ?_)
                refine lv_goto (tgt := 2) hx hb dX4_sortCodes_116 (by decide) ?_
                exact ih2 (va_up z k (f_code nm pl nd i)) (i + 1) ls _ _ (by omega) (show (i + 1) ≤ n from by omega) (show ∀ j, (va_up z k (f_code nm pl nd i)) j < 4096 from by (exact up_lt hzb (by omega))) (show f_srt (f_code nm pl nd) (va_up z k (f_code nm pl nd i)) (i + 1) from by (exact f_srt_s hg hz (by first | exact Or.inl (by omega) | exact Or.inr (by omega)))) (lv_sub hl [0, 5, 6] rfl) (hP.sub [0, 1, 2, 3, 4, 5, 6] rfl) (hD.sub [0, 1, 2, 3, 4, 5, 6] (by decide) rfl) hS
              · refine lv_aload_n hx hb dX4_sortCodes_82 rfl (lv_at hl 5 rfl) ?_
                refine va_get (D := (dC, dI)) (ci := 4) (v := .ref cd0) (C := RX4) (T := TX4) (N := 3) hx hb hts uX4 hown hK hP 0 rfl rfl 2 (by decide) (hts _ kfX4_18) (fun _ h9 => h9) rfl dX4_sortCodes_83 ?_
                refine lv_iload hx hb dX4_sortCodes_86 (lv_at hl 0 rfl) ?_
                refine lv_aload_n hx hb dX4_sortCodes_88 rfl (lv_at hl 5 rfl) ?_
                refine va_get (D := (dC, dI)) (ci := 4) (v := .ref cd0) (C := RX4) (T := TX4) (N := 3) hx hb hts uX4 hown hK hP 0 rfl rfl 2 (by decide) (hts _ kfX4_18) (fun _ h9 => h9) rfl dX4_sortCodes_89 ?_
                refine lv_iload hx hb dX4_sortCodes_92 (lv_at hl 0 rfl) ?_
                refine lv_iconst (v := (nI (1))) hx hb dX4_sortCodes_94 (by decide) ?_
                refine q_isub (x := k) (y := 1) hx hb (by omega) dX4_sortCodes_95 ?_
                refine q_ialdN hx hb hK hP 3 0 rfl rfl (j := k - 1) (by omega) (by omega) dX4_sortCodes_96 ?_
                have bd10 := hzb (k - 1)
                refine q_iastN hx hb hK hP hD hS 3 0 rfl rfl (j := k) (x := z (k - 1)) (by omega) (by omega) dX4_sortCodes_97 (fun H locs hP hD hS => ?_)
                have hP : va_P (dC, dI) qCl [(m0, .inr (4, [.ref nd0, .ref os0, .ref cd0])), (nd0, .inl (cI, 16, .inl (nF nd))), (os0, .inl (cI, 4, .inl (nF os))), (cd0, .inl (cI, 4, .inl (nF (va_up z k (z (k - 1)))))), (f0, .inr (3, [.ref a1, .ref a2, .int (nI (n)), .int (bI (jn))])), (a1, .inl (cI, 4, .inl (nF nm))), (a2, .inl (cI, 8, .inl (nF pl)))] H := hP
                have hD : va_D A [(m0, .inr (4, [.ref nd0, .ref os0, .ref cd0])), (nd0, .inl (cI, 16, .inl (nF nd))), (os0, .inl (cI, 4, .inl (nF os))), (cd0, .inl (cI, 4, .inl (nF (va_up z k (z (k - 1)))))), (f0, .inr (3, [.ref a1, .ref a2, .int (nI (n)), .int (bI (jn))])), (a1, .inl (cI, 4, .inl (nF nm))), (a2, .inl (cI, 8, .inl (nF pl)))] := hD
                refine lv_iinc (v := (nI (k - 1))) (lv' := [(6, .int (nI (k - 1))), (5, .int (nI (f_code nm pl nd i))), (4, .int (nI (nd (pl ((2 * i) + 1))))), (3, .int (nI (nd (pl (2 * i))))), (2, .int (nI (i))), (0, .ref m0), (1, .ref f0)]) hx hb dX4_sortCodes_98 hl (k := 0) rfl (q_dec (by omega)) (by decide) rfl (fun ls hl => ?_)
                refine lv_goto (tgt := 63) hx hb dX4_sortCodes_101 (by decide) ?_
                exact ih63 (va_up z k (z (k - 1))) (k - 1) ls _ _ (by omega) (show ∀ j, (va_up z k (z (k - 1))) j < 4096 from by (exact up_lt hzb (hzb _))) (show f_shf g (va_up z k (z (k - 1))) i (k - 1) (f_code nm pl nd i) from by (exact f_shf_s hz (by omega) (by omega))) (lv_sub hl [0, 1, 2, 3, 4, 5, 6] rfl) (hP.sub [0, 1, 2, 3, 4, 5, 6] rfl) (hD.sub [0, 1, 2, 3, 4, 5, 6] (by decide) rfl) hS
        exact L63 _ g i ls _ _ (by exact Nat.lt_succ_self _) (show ∀ j, g j < 4096 from by (exact hgb)) (show f_shf g g i i (f_code nm pl nd i) from by (exact ⟨Nat.le_refl i, fun j _ => rfl, fun j h1 h2 => (by omega), fun j h1 h2 => (by omega)⟩)) (lv_sub hl [0, 1, 2, 3, 4, 5, 6] rfl) (hP.sub [0, 1, 2, 3, 4, 5, 6] rfl) (hD.sub [0, 1, 2, 3, 4, 5, 6] (by decide) rfl) hS
  exact L2 _ cd 0 ls _ _ (by exact Nat.lt_succ_self _) (show 0 ≤ n from by omega) (show ∀ j, cd j < 4096 from by (exact hcd)) (show f_srt (f_code nm pl nd) cd 0 from by (exact ⟨fun a b _ h => (by omega), fun c => rfl⟩)) (lv_sub hl [0, 1, 2] rfl) (hP.sub [0, 1, 2, 3, 4, 5, 6] rfl) (hD.sub [0, 1, 2, 3, 4, 5, 6] (by decide) rfl) hS
