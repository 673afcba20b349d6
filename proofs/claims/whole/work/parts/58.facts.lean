/-! Facts come and go -/
theorem s_ix {r a r' a' : Nat} (ha : a < 12) (ha' : a' < 12) : r' * 12 + a' = r * 12 + a ↔ r' = r ∧ a' = a := by omega
theorem s_up_bit {tg : Nat → Nat} {q b : Nat} {h : Bool} (ht : ∀ j, tg j < 4096) (hb : b < 12) (q' b' : Nat) : (va_up tg q (f_chg (tg q) b h) q').testBit b' = if q' = q ∧ b' = b then h else (tg q').testBit b' := by
  by_cases e : q' = q
  · rw [e, up_s, f_chg_bit _ _ _ (ht q) hb]
    by_cases e2 : b' = b
    · rw [if_pos e2, if_pos ⟨rfl, e2⟩]
    · rw [if_neg e2, if_neg (fun h => e2 h.2)]
  · rw [up_n _ _ e, if_neg (fun h => e h.1)]
theorem s_up_lt {tg : Nat → Nat} {q b : Nat} {h : Bool} (ht : ∀ j, tg j < 4096) (hb : b < 12) : ∀ j, va_up tg q (f_chg (tg q) b h) j < 4096 := up_lt ht (f_chg_lt h (ht q) hb)
def s_put (tg sr sta en : Nat → Nat) (r a b : Nat) (h : Bool) (tg1 sr1 sta1 en1 : Nat → Nat) : Prop := tg1 = va_up tg (r * 12 + a) (f_chg (tg (r * 12 + a)) b h) ∧ sr1 = va_up sr (r * 12 + b) (f_chg (sr (r * 12 + b)) a h) ∧ sta1 = va_up sta r (f_chg (sta r) a (decide (f_chg (tg (r * 12 + a)) b h ≠ 0))) ∧ en1 = va_up en r (f_chg (en r) b (decide (f_chg (sr (r * 12 + b)) a h ≠ 0)))
theorem s_put_lt {tg sr sta en tg1 sr1 sta1 en1 : Nat → Nat} {r a b : Nat} {h : Bool} (ha : a < 12) (hb : b < 12) (ht : ∀ j, tg j < 4096) (hs : ∀ j, sr j < 4096) (hst : ∀ j, sta j < 4096) (hen : ∀ j, en j < 4096) (hp : s_put tg sr sta en r a b h tg1 sr1 sta1 en1) : (∀ j, tg1 j < 4096) ∧ (∀ j, sr1 j < 4096) ∧ (∀ j, sta1 j < 4096) ∧ ∀ j, en1 j < 4096 := by
  obtain ⟨rfl, rfl, rfl, rfl⟩ := hp
  exact ⟨s_up_lt ht hb, s_up_lt hs ha, s_up_lt hst ha, s_up_lt hen hb⟩
theorem s_nz {y : Nat} (h : y < 4096) : decide (y ≠ 0) = true ↔ ∃ a, a < 12 ∧ y.testBit a = true := by
  rw [decide_eq_true_eq, ← s_bit_pos h]; omega
theorem s_put_ok {tg sr sta en tg1 sr1 sta1 en1 : Nat → Nat} {r a b : Nat} {h : Bool} (_hr : r < 8) (ha : a < 12) (hb : b < 12) (ht : ∀ j, tg j < 4096) (hs : ∀ j, sr j < 4096) (hst : ∀ j, sta j < 4096) (hen : ∀ j, en j < 4096) (hok : s_fok tg sr sta en) (hp : s_put tg sr sta en r a b h tg1 sr1 sta1 en1) : s_fok tg1 sr1 sta1 en1 := by
  obtain ⟨e1, e2, e3, e4⟩ := hp
  have t1 : ∀ r' a' b', a' < 12 → (tg1 (r' * 12 + a')).testBit b' = if r' = r ∧ a' = a ∧ b' = b then h else (tg (r' * 12 + a')).testBit b' := fun r' a' b' ha' => by
    rw [e1, s_up_bit ht hb]
    simp only [s_ix ha ha', and_assoc]
  have s1 : ∀ r' a' b', b' < 12 → (sr1 (r' * 12 + b')).testBit a' = if r' = r ∧ b' = b ∧ a' = a then h else (sr (r' * 12 + b')).testBit a' := fun r' a' b' hb' => by
    rw [e2, s_up_bit hs ha]
    simp only [s_ix hb hb', and_assoc]
  intro r' hr'
  obtain ⟨k1, k2, k3⟩ := hok r' hr'
  have htlt := (s_put_lt ha hb ht hs hst hen ⟨e1, e2, e3, e4⟩).1
  have hslt := (s_put_lt ha hb ht hs hst hen ⟨e1, e2, e3, e4⟩).2.1
  have hk1 : ∀ a' b', a' < 12 → b' < 12 → (sr1 (r' * 12 + b')).testBit a' = (tg1 (r' * 12 + a')).testBit b' := fun a' b' ha' hb' => by
    rw [s1 r' a' b' hb', t1 r' a' b' ha', k1 a' b' ha' hb']
    by_cases c : r' = r ∧ a' = a ∧ b' = b
    · rw [if_pos c, if_pos ⟨c.1, c.2.2, c.2.1⟩]
    · rw [if_neg c, if_neg (fun c' => c ⟨c'.1, c'.2.2, c'.2.1⟩)]
  refine ⟨hk1, fun a' ha' => ?_, fun b' hb' => ?_⟩
  · rw [e3, s_up_bit hst ha]
    by_cases c : r' = r ∧ a' = a
    · rw [if_pos c]
      have : f_chg (tg (r * 12 + a)) b h = tg1 (r' * 12 + a') := by rw [e1, c.1, c.2, up_s]
      rw [this]
      exact s_nz (htlt _)
    · rw [if_neg c, k2 a' ha']
      refine exists_congr fun b' => and_congr Iff.rfl ?_
      rw [t1 r' a' b' ha', if_neg (fun c' => c ⟨c'.1, c'.2.1⟩)]
  · rw [e4, s_up_bit hen hb]
    by_cases c : r' = r ∧ b' = b
    · rw [if_pos c]
      have : f_chg (sr (r * 12 + b)) a h = sr1 (r' * 12 + b') := by rw [e2, c.1, c.2, up_s]
      rw [this, s_nz (hslt _)]
      refine exists_congr fun a' => ⟨fun ⟨g1, g2⟩ => ⟨g1, by rw [← hk1 a' b' g1 hb']; exact g2⟩, fun ⟨g1, g2⟩ => ⟨g1, by rw [hk1 a' b' g1 hb']; exact g2⟩⟩
    · rw [if_neg c, k3 b' hb']
      refine exists_congr fun a' => ⟨fun ⟨g1, g2⟩ => ⟨g1, ?_⟩, fun ⟨g1, g2⟩ => ⟨g1, ?_⟩⟩
      · rw [t1 r' a' b' g1, if_neg (fun c' => c ⟨c'.1, c'.2.2⟩)]; exact g2
      · rw [t1 r' a' b' g1, if_neg (fun c' => c ⟨c'.1, c'.2.2⟩)] at g2; exact g2
/-- the bits after a change are the bits before, but at one place -/
def s_chg (mb tg mb1 tg1 : Nat → Nat) (X A B : Nat) (h : Bool) : Prop := ∀ x a b, s_val x → a < 12 → b < 12 → (s_bit mb1 tg1 x a b ↔ if x = X ∧ a = A ∧ (x < 32 ∨ b = B) then h = true else s_bit mb tg x a b)
theorem s_chg_r {mb tg tg1 : Nat → Nat} {r a b : Nat} {h : Bool} (ha : a < 12) (hb : b < 12) (ht : ∀ j, tg j < 4096) (e : tg1 = va_up tg (r * 12 + a) (f_chg (tg (r * 12 + a)) b h)) : s_chg mb tg mb tg1 (32 + r) a b h := by
  intro x a' b' hx ha' hb'
  unfold s_bit
  by_cases c : x < 32
  · rw [if_pos c, if_pos c, if_neg (by omega)]
  · rw [if_neg c, if_neg c, e, s_up_bit ht hb]
    by_cases c2 : x = 32 + r ∧ a' = a ∧ (x < 32 ∨ b' = b)
    · rw [if_pos c2, if_pos ⟨by rw [s_ix ha ha']; omega, by omega⟩]
    · rw [if_neg c2, if_neg (fun c3 => c2 (by rw [s_ix ha ha'] at c3; omega))]
theorem s_chg_c {mb tg mb1 : Nat → Nat} {x a : Nat} {h : Bool} (hx : x < 10) (ha : a < 12) (hm : ∀ j, mb j < 4096) (e : mb1 = va_up mb x (f_chg (mb x) a h)) : s_chg mb tg mb1 tg x a 0 h := by
  intro x' a' b' hx' ha' hb'
  unfold s_bit
  by_cases c : x' < 32
  · rw [if_pos c, if_pos c, e, s_up_bit hm ha]
    by_cases c2 : x' = x ∧ a' = a ∧ (x' < 32 ∨ b' = 0)
    · rw [if_pos c2, if_pos ⟨c2.1, c2.2.1⟩]
    · rw [if_neg c2, if_neg (fun c3 => c2 ⟨c3.1, c3.2, Or.inl c⟩)]
  · rw [if_neg c, if_neg c, if_neg (by omega)]
theorem s_rel_has {mb tg fn fo ft : Nat → Nat} {fc X A B : Nat} {o : Option Nat} (hr : s_rel mb tg fn fo ft fc) (hX : s_val X) (hA : A < 12) (hB : B < 12) (h : m_fat fn fo ft X A B fc o) : o = none ↔ ¬ s_bit mb tg X A B := by
  rw [hr.2.1 X A B hX hA hB]
  cases o with
  | none => exact ⟨fun _ ⟨k, hk, h2⟩ => h k hk h2, fun _ => rfl⟩
  | some k => exact ⟨fun h2 => (by cases h2), fun h2 => absurd ⟨k, h.1, h.2.1⟩ h2⟩
theorem s_rel_add {mb tg mb1 tg1 fn fo ft : Nat → Nat} {fc X A B : Nat} (hr : s_rel mb tg fn fo ft fc) (hX : s_val X) (hA : A < 12) (hB : B < 12) (hn : ¬ s_bit mb tg X A B) (hc : s_chg mb tg mb1 tg1 X A B true) : s_rel mb1 tg1 (va_up fn fc X) (va_up fo fc A) (va_up ft fc B) (fc + 1) := by
  have hno := fun h => hn ((hr.2.1 X A B hX hA hB).mpr h)
  have hlt : ∀ {k x a b}, k < fc → (m_is (va_up fn fc X) (va_up fo fc A) (va_up ft fc B) x a b k ↔ m_is fn fo ft x a b k) := fun {k x a b} hk => by
    unfold m_is; rw [up_n _ _ (by omega), up_n _ _ (by omega), up_n _ _ (by omega)]
  have hfc : ∀ {x a b}, m_is (va_up fn fc X) (va_up fo fc A) (va_up ft fc B) x a b fc ↔ X = x ∧ A = a ∧ (x < 32 ∨ B = b) := fun {x a b} => by
    unfold m_is; rw [up_s, up_s, up_s]
  refine ⟨fun k hk => ?_, fun x a b hx ha hb => ?_, fun i k hik hk => ?_⟩
  · by_cases e : k = fc
    · rw [e, up_s, up_s, up_s]; exact ⟨hX, hA, hB⟩
    · rw [up_n _ _ e, up_n _ _ e, up_n _ _ e]; exact hr.1 k (by omega)
  · rw [hc x a b hx ha hb]
    constructor
    · intro h
      by_cases c : x = X ∧ a = A ∧ (x < 32 ∨ b = B)
      · exact ⟨fc, by omega, hfc.mpr ⟨c.1.symm, c.2.1.symm, by omega⟩⟩
      · rw [if_neg c] at h
        obtain ⟨k, hk, h2⟩ := (hr.2.1 x a b hx ha hb).mp h
        exact ⟨k, by omega, (hlt hk).mpr h2⟩
    · rintro ⟨k, hk, h2⟩
      by_cases e : k = fc
      · rw [e] at h2
        have h3 := hfc.mp h2
        rw [if_pos (by omega)]
      · have h3 := (hlt (show k < fc by omega)).mp h2
        by_cases c : x = X ∧ a = A ∧ (x < 32 ∨ b = B)
        · rw [if_pos c]
        · rw [if_neg c]; exact (hr.2.1 x a b hx ha hb).mpr ⟨k, by omega, h3⟩
  · rw [hlt (by omega)]
    by_cases e : k = fc
    · rw [e, up_s, up_s, up_s]
      exact fun h => hno ⟨i, by omega, h⟩
    · rw [up_n _ _ e, up_n _ _ e, up_n _ _ e]; exact hr.2.2 i k hik (by omega)
theorem s_rel_nd {mb tg fn fo ft : Nat → Nat} {fc i k x a b : Nat} (hr : s_rel mb tg fn fo ft fc) (hi : i < fc) (hk : k < fc) (h1 : m_is fn fo ft x a b i) (h2 : m_is fn fo ft x a b k) : i = k := by
  unfold m_is at h1 h2
  rcases Nat.lt_trichotomy i k with h | h | h
  · refine absurd ?_ (hr.2.2 i k h hk)
    unfold m_is; omega
  · exact h
  · refine absurd ?_ (hr.2.2 k i h hi)
    unfold m_is; omega
theorem s_rel_del {mb tg mb1 tg1 fn fo ft : Nat → Nat} {fc X A B k : Nat} (hr : s_rel mb tg fn fo ft fc) (hk : k < fc) (hm : m_is fn fo ft X A B k) (hc : s_chg mb tg mb1 tg1 X A B false) : s_rel mb1 tg1 (va_up fn k (fn (fc - 1))) (va_up fo k (fo (fc - 1))) (va_up ft k (ft (fc - 1))) (fc - 1) := by
  have hat : ∀ {q x a b}, m_is (va_up fn k (fn (fc - 1))) (va_up fo k (fo (fc - 1))) (va_up ft k (ft (fc - 1))) x a b q ↔ m_is fn fo ft x a b (if q = k then fc - 1 else q) := fun {q x a b} => by
    unfold m_is
    by_cases e : q = k
    · rw [e, up_s, up_s, up_s, if_pos rfl]
    · rw [up_n _ _ e, up_n _ _ e, up_n _ _ e, if_neg e]
  have hval : ∀ q, q < fc - 1 → (if q = k then fc - 1 else q) < fc ∧ (if q = k then fc - 1 else q) ≠ k := fun q hq => by
    split <;> omega
  have hsame : ∀ {x a b q}, m_is fn fo ft x a b q → m_is fn fo ft X A B q → (x = X ∧ a = A ∧ (x < 32 ∨ b = B)) := fun {x a b q} g1 g2 => by
    unfold m_is at g1 g2; omega
  have hsame2 : ∀ {x a b q}, x = X ∧ a = A ∧ (x < 32 ∨ b = B) → (m_is fn fo ft x a b q ↔ m_is fn fo ft X A B q) := fun {x a b q} g => by
    unfold m_is; omega
  refine ⟨fun q hq => ?_, fun x a b hx ha hb => ?_, fun i q hiq hq => ?_⟩
  · by_cases e : q = k
    · rw [e, up_s, up_s, up_s]; exact hr.1 (fc - 1) (by omega)
    · rw [up_n _ _ e, up_n _ _ e, up_n _ _ e]; exact hr.1 q (by omega)
  · rw [hc x a b hx ha hb]
    by_cases c : x = X ∧ a = A ∧ (x < 32 ∨ b = B)
    · rw [if_pos c]
      refine ⟨fun h => (by cases h), ?_⟩
      rintro ⟨q, hq, h⟩
      rw [hat, hsame2 c] at h
      exact absurd (s_rel_nd hr (hval q hq).1 hk h hm) (hval q hq).2
    · rw [if_neg c, hr.2.1 x a b hx ha hb]
      constructor
      · rintro ⟨q, hq, h⟩
        have hqk : q ≠ k := fun e => c (hsame h (by rw [e]; exact hm))
        by_cases e : q = fc - 1
        · refine ⟨k, by omega, ?_⟩
          rw [hat, if_pos rfl, ← e]; exact h
        · refine ⟨q, by omega, ?_⟩
          rw [hat, if_neg hqk]; exact h
      · rintro ⟨q, hq, h⟩
        rw [hat] at h
        exact ⟨_, (hval q hq).1, h⟩
  · have e3 : ∀ {q}, va_up fn k (fn (fc - 1)) q = fn (if q = k then fc - 1 else q) ∧ va_up fo k (fo (fc - 1)) q = fo (if q = k then fc - 1 else q) ∧ va_up ft k (ft (fc - 1)) q = ft (if q = k then fc - 1 else q) := fun {q} => by
      by_cases e : q = k
      · rw [e, up_s, up_s, up_s, if_pos rfl]; exact ⟨rfl, rfl, rfl⟩
      · rw [up_n _ _ e, up_n _ _ e, up_n _ _ e, if_neg e]; exact ⟨rfl, rfl, rfl⟩
    rw [hat, (e3 (q := q)).1, (e3 (q := q)).2.1, (e3 (q := q)).2.2]
    intro h
    have := s_rel_nd hr (hval i (by omega)).1 (hval q hq).1 h ⟨rfl, rfl, Or.inr rfl⟩
    split at this <;> split at this <;> omega
