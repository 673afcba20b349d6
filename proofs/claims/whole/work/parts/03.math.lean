theorem nI_tb (n : Nat) : (nI n).toBitVec = BitVec.ofNat 32 n := rfl
theorem i_inj {x y : Int32} (h : x.toBitVec = y.toBitVec) : x = y := Int32.toBitVec_inj.mp h
theorem nI_or (a b : Nat) : nI a ||| nI b = nI (a ||| b) := i_inj (by
  show (nI a).toBitVec ||| (nI b).toBitVec = (nI (a ||| b)).toBitVec
  rw [nI_tb, nI_tb, nI_tb]; exact (BitVec.ofNat_or).symm)
theorem nI_and (a b : Nat) : nI a &&& nI b = nI (a &&& b) := i_inj (by
  show (nI a).toBitVec &&& (nI b).toBitVec = (nI (a &&& b)).toBitVec
  rw [nI_tb, nI_tb, nI_tb]; exact (BitVec.ofNat_and).symm)
theorem sh_l : ∀ n, n < 32 → ((nI n &&& 31).toBitVec.smod 32).toNat = n := by decide +kernel
theorem one_shl {t : Nat} (h : t < 12) : nI 1 <<< (nI t &&& 31) = nI (2 ^ t) := by
  rw [pk_shlN (nI t &&& 31) t (sh_l t (by omega)) (by have : 2 ^ t ≤ 2 ^ 11 := Nat.pow_le_pow_right (by decide) (by omega); omega), Nat.one_mul]
theorem shr_bit {x t : Nat} (hx : x < 4096) (h : t < 12) : nI x >>> (nI t &&& 31) = nI (x / 2 ^ t) := pk_shrN (by omega) (nI t &&& 31) t (sh_l t (by omega))
def f_chg (x t : Nat) (b : Bool) : Nat := if b = true then x ||| 2 ^ t else x &&& (4095 ^^^ 2 ^ t)
theorem f_chg_bit (x t : Nat) (b : Bool) (hx : x < 4096) (ht : t < 12) (j : Nat) : (f_chg x t b).testBit j = if j = t then b else x.testBit j := by
  have h4 : ∀ j, (4095 : Nat).testBit j = decide (j < 12) := fun j => by
    rw [show (4095 : Nat) = 2 ^ 12 - 1 from rfl, Nat.testBit_two_pow_sub_one]
  have hlt : x.testBit j = true → j < 12 := fun h => by
    rcases Nat.lt_or_ge j 12 with h2 | h2
    · exact h2
    · rw [Nat.testBit_lt_two_pow (Nat.lt_of_lt_of_le hx (by show 2 ^ 12 ≤ _; exact Nat.pow_le_pow_right (by decide) h2))] at h; cases h
  unfold f_chg
  by_cases hb : b = true
  · rw [if_pos hb, Nat.testBit_or, Nat.testBit_two_pow]
    by_cases hj : j = t
    · subst hj; simp [hb]
    · simp [hj, Ne.symm hj]
  · rw [if_neg hb, Nat.testBit_and, Nat.testBit_xor, h4, Nat.testBit_two_pow]
    by_cases hj : j = t
    · subst hj; simp [ht]; simpa using hb
    · cases hq : x.testBit j with
      | false => simp [hj]
      | true => simp [hj, hlt hq, Ne.symm hj]
theorem f_chg_lt {x t : Nat} (b : Bool) (hx : x < 4096) (ht : t < 12) : f_chg x t b < 4096 := by
  unfold f_chg
  split
  · exact Nat.or_lt_two_pow (n := 12) hx (by show 2 ^ t < 2 ^ 12; exact Nat.pow_lt_pow_right (by decide) ht)
  · exact Nat.lt_of_le_of_lt Nat.and_le_left hx
theorem i_andnot (x y : Nat) (hx : x < 4096) (hy : y < 4096) : nI x &&& (nI y ^^^ oI none) = nI (x &&& (4095 ^^^ y)) := by
  rw [show oI none = (-1 : Int32) from rfl]
  refine i_inj ?_
  show (nI x).toBitVec &&& ((nI y).toBitVec ^^^ (-1 : Int32).toBitVec) = (nI (x &&& (4095 ^^^ y))).toBitVec
  rw [nI_tb, nI_tb, nI_tb, show (-1 : Int32).toBitVec = BitVec.allOnes 32 from by decide]
  apply BitVec.eq_of_getLsbD_eq
  intro i hi
  have h4 : (4095 : Nat).testBit i = decide (i < 12) := by rw [show (4095 : Nat) = 2 ^ 12 - 1 from rfl, Nat.testBit_two_pow_sub_one]
  simp only [BitVec.getLsbD_and, BitVec.getLsbD_xor, BitVec.getLsbD_ofNat, BitVec.getLsbD_allOnes, Nat.testBit_and, Nat.testBit_xor, h4]
  rcases Nat.lt_or_ge i 12 with h2 | h2
  · simp [hi, h2]
  · have : x.testBit i = false := Nat.testBit_lt_two_pow (Nat.lt_of_lt_of_le hx (by show 2 ^ 12 ≤ _; exact Nat.pow_le_pow_right (by decide) h2))
    simp [this]
def f_cnt (pl : Nat → Nat) (v : Nat) : Nat → Nat
  | 0 => 0
  | k + 1 => f_cnt pl v k + if pl k = v then 1 else 0
def f_ren (pl : Nat → Nat) (k fr to : Nat) : Nat → Nat := fun j => if j < k ∧ pl j = fr then to else pl j
theorem f_ren_0 (pl : Nat → Nat) (fr to : Nat) : f_ren pl 0 fr to = pl := by
  funext j; simp [f_ren]
theorem f_ren_at (pl : Nat → Nat) (i fr to : Nat) : f_ren pl i fr to i = pl i := by simp [f_ren]
theorem f_ren_t {pl : Nat → Nat} {i fr : Nat} (to : Nat) (h : pl i = fr) : va_up (f_ren pl i fr to) i to = f_ren pl (i + 1) fr to := by
  funext j
  simp only [va_up, f_ren]
  by_cases hj : j = i
  · subst hj; simp [h]
  · by_cases h2 : j < i
    · simp [hj, h2, Nat.lt_succ_of_lt h2]
    · have h3 : ¬ j < i + 1 := by omega
      simp [hj, h2, h3]
theorem f_ren_f {pl : Nat → Nat} {i fr : Nat} (to : Nat) (h : ¬ pl i = fr) : f_ren pl i fr to = f_ren pl (i + 1) fr to := by
  funext j
  simp only [f_ren]
  by_cases hj : j = i
  · subst hj; simp [h]
  · by_cases h2 : j < i
    · simp [h2, Nat.lt_succ_of_lt h2]
    · have h3 : ¬ j < i + 1 := by omega
      simp [h2, h3]
def f_has (nm pl : Nat → Nat) (x a b : Nat) (k : Nat) : Prop := ∃ i, i < k ∧ nm i = x ∧ pl (2 * i) = a ∧ pl (2 * i + 1) = b
theorem f_has_s {nm pl : Nat → Nat} {x a b i : Nat} (h : ¬ f_has nm pl x a b i) (h2 : ¬ (nm i = x ∧ pl (2 * i) = a ∧ pl (2 * i + 1) = b)) : ¬ f_has nm pl x a b (i + 1) := by
  rintro ⟨j, hj, h3⟩
  by_cases hji : j = i
  · subst hji; exact h2 h3
  · exact h ⟨j, by omega, h3⟩
def f_put (pl : Nat → Nat) (i a b : Nat) : Nat → Nat := va_up (va_up pl (2 * i) a) (2 * i + 1) b
def f_wayn (w : Nat) : Nat := 32 + w / 2
def f_way1 (w x y : Nat) : Nat := if w % 2 = 0 then x else y
def f_way2 (w x y : Nat) : Nat := if w % 2 = 0 then y else x
def f_sortn (s : Nat) : Nat := if s < 20 then s else f_wayn (s - 20)
def f_sort1 (s x : Nat) : Nat := if s < 20 then x else f_way1 (s - 20) x 6
def f_sort2 (s x : Nat) : Nat := if s < 20 then 7 else f_way2 (s - 20) x 6
def f_mem (s x a b : Nat) : Nat := if s < 20 then (if x = s then a else 7) else if x = 32 + (s - 20) / 2 then (if s % 2 = 0 then (if b = 6 then a else 7) else (if a = 6 then b else 7)) else 7
/-- what stands for the atom (x, a, b) by the axiom (k, lf, rg) -/
def f_rw (k lf rg x a b : Nat) : Option (Nat × Nat × Nat) :=
  if k = 0 then (if f_mem rg x a b = 7 then none else some (f_sortn lf, f_sort1 lf (f_mem rg x a b), f_sort2 lf (f_mem rg x a b)))
  else if k = 1 ∧ x = 32 + rg / 2 then (if rg % 2 = 0 then some (f_wayn lf, f_way1 lf a b, f_way2 lf a b) else some (f_wayn lf, f_way1 lf b a, f_way2 lf b a))
  else none
def p_below (x : Int32) (n : Nat) : Bool := decide (¬ x < 0 ∧ ¬ nI n ≤ x)
def p_sort (x : Int32) : Bool := p_below x 10 || decide (¬ x < nI 20 ∧ ¬ nI 36 ≤ x)
def p_axiom (k a b : Int32) : Bool := if k = 0 ∨ k = nI 2 then p_sort a && p_sort b else if k = nI 1 ∨ k = nI 3 then p_below a 16 && p_below b 16 else false
def p_name (r : Bool) (x : Int32) : Bool := p_below x (if r = true then 8 else 10)
def p_fact (r : Bool) (x a b : Int32) : Bool := p_name r x && p_below a 12 && (!r || p_below b 12)
theorem p_below_t {x : Int32} {n : Nat} (hn : n < 2 ^ 31) (h : p_below x n = true) : ∃ j, j < n ∧ x = nI j := by
  have h := of_decide_eq_true h
  rcases pk_ix x hn with h1 | h1 | h1
  · exact absurd h1 h.1
  · exact absurd h1 h.2
  · exact h1
theorem p_below_n {j n : Nat} (hn : n < 2 ^ 31) (h : j < n) : p_below (nI j) n = true := by
  refine decide_eq_true ⟨nI_pos (by omega), fun h2 => ?_⟩
  exact absurd ((nI_leI hn (by omega)).mp h2) (by omega)
def f_rowb (jn : Bool) (n : Nat) (cd : Nat → Nat) : Nat → Nat
  | 0 => (if jn = true then 8 else 0) + n
  | i + 1 => f_rowb jn n cd i * 4096 + cd i
def f_row (jn : Bool) (n : Nat) (cd : Nat → Nat) : Nat := f_rowb jn n cd n * 2 ^ (12 * (4 - n))
theorem f_rowb_lt {jn : Bool} {n : Nat} {cd : Nat → Nat} (hn : n ≤ 4) (hcd : ∀ j, cd j < 4096) : ∀ i, f_rowb jn n cd i < 16 * 4096 ^ i := by
  intro i
  induction i with
  | zero => simp only [f_rowb]; split <;> omega
  | succ i ih =>
    simp only [f_rowb, Nat.pow_succ]
    have := hcd i
    omega
theorem f_rowb_s {jn : Bool} {n i : Nat} {cd : Nat → Nat} (hn : n ≤ 4) (hcd : ∀ j, cd j < 4096) (hi : i < 4) : f_rowb jn n cd i * 2 ^ (12 * (4 - i)) ||| cd i * 2 ^ (12 * (3 - i)) = f_rowb jn n cd (i + 1) * 2 ^ (12 * (4 - (i + 1))) := by
  have e : 12 * (4 - i) = 12 * (3 - i) + 12 := by omega
  have e2 : 12 * (4 - (i + 1)) = 12 * (3 - i) := by omega
  have hlt : cd i * 2 ^ (12 * (3 - i)) < 2 ^ (12 * (4 - i)) := by
    rw [e, Nat.pow_add, Nat.mul_comm (2 ^ (12 * (3 - i)))]
    exact Nat.mul_lt_mul_of_pos_right (hcd i) (Nat.two_pow_pos _)
  rw [or_add hlt, e2, e, Nat.pow_add]
  simp only [f_rowb]
  rw [Nat.add_mul, Nat.mul_assoc (f_rowb jn n cd i) 4096, Nat.mul_comm (2 ^ (12 * (3 - i))) (2 ^ 12)]
theorem or8 {n : Nat} (hn : n ≤ 4) : n * 2 ^ 48 ||| 8 * 2 ^ 48 = 8 * 2 ^ 48 + n * 2 ^ 48 := by
  rw [Nat.or_comm, show 8 * 2 ^ 48 = 1 * 2 ^ 51 from rfl]
  exact or_add (by omega)
theorem lcmp0 {a : Nat} (h : a < 2) : lg_cmp (lN a) (lN 0) = nI a := by
  rcases (show a = 0 ∨ a = 1 by omega) with h | h <;> subst h <;> decide
def f_rd (r : Nat) (g1 g2 : Nat → Nat) (k : Nat) : Prop := ∀ j, j < k → g1 j = r / 2 ^ (12 * (3 - j)) % 4096 / 64 ∧ g2 (2 * j) = r / 2 ^ (12 * (3 - j)) % 4096 / 8 % 8 ∧ g2 (2 * j + 1) = r / 2 ^ (12 * (3 - j)) % 4096 % 8
theorem up_lt {g : Nat → Nat} {k x b : Nat} (h : ∀ j, g j < b) (hx : x < b) : ∀ j, va_up g k x j < b := by
  intro j
  simp only [va_up]
  split
  · exact hx
  · exact h j
theorem f_rd_s {r : Nat} {g1 g2 : Nat → Nat} {i : Nat} (h : f_rd r g1 g2 i) : f_rd r (va_up g1 i (r / 2 ^ (12 * (3 - i)) % 4096 / 64)) (f_put g2 i (r / 2 ^ (12 * (3 - i)) % 4096 / 8 % 8) (r / 2 ^ (12 * (3 - i)) % 4096 % 8)) (i + 1) := by
  intro j hj
  by_cases hji : j = i
  · subst hji
    refine ⟨up_s _ _ _, ?_, up_s _ _ _⟩
    rw [f_put, up_n _ _ (by omega)]
    exact up_s _ _ _
  · obtain ⟨a, b, c⟩ := h j (by omega)
    refine ⟨by rw [up_n _ _ hji]; exact a, ?_, ?_⟩
    · rw [f_put, up_n _ _ (by omega), up_n _ _ (by omega)]; exact b
    · rw [f_put, up_n _ _ (by omega), up_n _ _ (by omega)]; exact c
def f_rpl (o : Option (Nat × Nat × Nat)) (nm pl : Nat → Nat) (k : Nat) (b : Bool) (nm1 pl1 : Nat → Nat) : Prop := match o with
  | none => b = false ∧ nm1 = nm ∧ pl1 = pl
  | some q => b = true ∧ nm1 = va_up nm k q.1 ∧ pl1 = f_put pl k q.2.1 q.2.2
def f_ff (k lf rg : Nat) (nm pl nm1 pl1 : Nat → Nat) : Prop :=
  if k = 2 then nm1 = va_up (va_up nm 0 (f_sortn lf)) 1 (f_sortn rg) ∧ pl1 = f_put (f_put pl 0 (f_sort1 lf 8) (f_sort2 lf 8)) 1 (f_sort1 rg 8) (f_sort2 rg 8)
  else nm1 = va_up (va_up nm 0 (f_wayn lf)) 1 (f_wayn rg) ∧ pl1 = f_put (f_put pl 0 (f_way1 lf 8 9) (f_way2 lf 8 9)) 1 (f_way1 rg 8 9) (f_way2 rg 8 9)
theorem f_mem_lt (s x : Nat) {a b : Nat} (ha : a < 16) (hb : b < 16) : f_mem s x a b < 16 := by
  unfold f_mem
  split <;> (try split) <;> (try split) <;> (try split) <;> omega
def f_cnto (g : Nat → Option Nat) : Nat → Nat
  | 0 => 0
  | k + 1 => f_cnto g k + if g k = none then 0 else 1
theorem f_cnto_le (g : Nat → Option Nat) : ∀ k, f_cnto g k ≤ k := by
  intro k
  induction k with
  | zero => exact Nat.le_refl 0
  | succ k ih => simp only [f_cnto]; split <;> omega
def f_scan (g : Nat → Option Nat) (i : Int32) : Nat → Nat → Nat → Option Nat
  | 0, _, _ => none
  | fu + 1, k, c => if g k = none then f_scan g i fu (k + 1) c else if nI c = i then some k else f_scan g i fu (k + 1) (c + 1)
def f_fhas (ro : Bool) (mb tg : Nat → Nat) (x a : Nat) (b : Int32) : Bool := if ro = true then (tg (x * 12 + a)).testBit b.toNatClampNeg else (mb x).testBit a
def f_fput (ro : Bool) (mb tg sr sta en : Nat → Nat) (x a : Nat) (b : Int32) (h : Bool) (mb1 tg1 sr1 sta1 en1 : Nat → Nat) : Prop :=
  if ro = true then mb1 = mb ∧ tg1 = va_up tg (x * 12 + a) (f_chg (tg (x * 12 + a)) b.toNatClampNeg h) ∧ sr1 = va_up sr (x * 12 + b.toNatClampNeg) (f_chg (sr (x * 12 + b.toNatClampNeg)) a h) ∧ sta1 = va_up sta x (f_chg (sta x) a (decide (f_chg (tg (x * 12 + a)) b.toNatClampNeg h ≠ 0))) ∧ en1 = va_up en x (f_chg (en x) b.toNatClampNeg (decide (f_chg (sr (x * 12 + b.toNatClampNeg)) a h ≠ 0)))
  else mb1 = va_up mb x (f_chg (mb x) a h) ∧ tg1 = tg ∧ sr1 = sr ∧ sta1 = sta ∧ en1 = en
def f_lps (tg : Nat → Nat) (x y k : Nat) : Prop := y < 4096 ∧ ∀ j, y.testBit j = (decide (j < k) && (tg (x * 12 + j)).testBit j)
theorem f_lps_0 (tg : Nat → Nat) (x : Nat) : f_lps tg x 0 0 := ⟨by decide, fun j => by simp⟩
theorem f_lps_s {tg : Nat → Nat} {x y i : Nat} (h : f_lps tg x y i) (ht : tg (x * 12 + i) < 4096) (hi : i < 12) : f_lps tg x (y ||| tg (x * 12 + i) &&& 2 ^ i) (i + 1) := by
  refine ⟨Nat.or_lt_two_pow (n := 12) h.1 (Nat.lt_of_le_of_lt Nat.and_le_left ht), fun j => ?_⟩
  rw [Nat.testBit_or, Nat.testBit_and, Nat.testBit_two_pow, h.2 j]
  by_cases hj : j = i
  · subst hj; simp
  · have : (decide (i = j)) = false := by simp; omega
    rw [this]
    by_cases h2 : j < i
    · simp [h2, Nat.lt_succ_of_lt h2]
    · have h3 : ¬ j < i + 1 := by omega
      simp [h2, h3]
theorem nI_m1 {x : Nat} (h : 0 < x) : nI x + oI none = nI (x - 1) := by
  obtain ⟨y, rfl⟩ : ∃ y, x = y + 1 := ⟨x - 1, by omega⟩
  exact pk_m1 y
def f_ne (nm mb sta : Nat → Nat) (i : Nat) : Prop := if nm i < 32 then 0 < mb (nm i) else 0 < sta (nm i - 32)
def f_nok (nm : Nat → Nat) (n : Nat) : Prop := ∀ j, j < n → nm j < 10 ∨ 32 ≤ nm j ∧ nm j < 40
def f_th (tv : Nat → Option Nat) (v : Nat) : Option Nat := if v < 6 then tv v else none
def f_alt (o : Option Nat) (r t : Nat) (f g : Nat → Nat) : Bool := match o with
  | none => (f r).testBit t
  | some u => (g (r * 12 + u)).testBit t
/-- whether thing t may be variable v's as far as atom i says -/
def f_fit (nm pl mb tg sr sta en : Nat → Nat) (tv : Nat → Option Nat) (v i t : Nat) : Bool :=
  if nm i < 32 then (if pl (2 * i) = v then (mb (nm i)).testBit t else true)
  else if pl (2 * i) = v ∧ pl (2 * i + 1) = v then (tg ((nm i - 32) * 12 + t)).testBit t
  else if pl (2 * i) = v then f_alt (f_th tv (pl (2 * i + 1))) (nm i - 32) t sta sr
  else if pl (2 * i + 1) = v then f_alt (f_th tv (pl (2 * i))) (nm i - 32) t en tg
  else true
def f_fits (nm pl mb tg sr sta en : Nat → Nat) (tv : Nat → Option Nat) (v k y : Nat) : Prop := y < 4096 ∧ ∀ t, y.testBit t = true ↔ t < 12 ∧ ∀ i, i < k → f_fit nm pl mb tg sr sta en tv v i t = true
theorem bit_lt {y t : Nat} (hy : y < 4096) (h : y.testBit t = true) : t < 12 := by
  rcases Nat.lt_or_ge t 12 with h2 | h2
  · exact h2
  · rw [Nat.testBit_lt_two_pow (Nat.lt_of_lt_of_le hy (by show 2 ^ 12 ≤ _; exact Nat.pow_le_pow_right (by decide) h2))] at h; cases h
theorem f_fits_0 (nm pl mb tg sr sta en : Nat → Nat) (tv : Nat → Option Nat) (v : Nat) : f_fits nm pl mb tg sr sta en tv v 0 4095 := by
  refine ⟨by decide, fun t => ?_⟩
  rw [show (4095 : Nat) = 2 ^ 12 - 1 from rfl, Nat.testBit_two_pow_sub_one, decide_eq_true_eq]
  exact ⟨fun h => ⟨h, fun i hi => absurd hi (Nat.not_lt_zero i)⟩, fun h => h.1⟩
theorem f_fits_s {nm pl mb tg sr sta en : Nat → Nat} {tv : Nat → Option Nat} {v k y z : Nat} (h : f_fits nm pl mb tg sr sta en tv v k y) (hz : z < 4096) (hzt : ∀ t, t < 12 → z.testBit t = f_fit nm pl mb tg sr sta en tv v k t) : f_fits nm pl mb tg sr sta en tv v (k + 1) (y &&& z) := by
  refine ⟨Nat.lt_of_le_of_lt Nat.and_le_left h.1, fun t => ?_⟩
  rw [Nat.testBit_and, Bool.and_eq_true, h.2 t]
  constructor
  · rintro ⟨⟨h1, h2⟩, h3⟩
    refine ⟨h1, fun i hi => ?_⟩
    by_cases hik : i = k
    · subst hik; rw [← hzt t h1]; exact h3
    · exact h2 i (by omega)
  · rintro ⟨h1, h2⟩
    exact ⟨⟨h1, fun i hi => h2 i (by omega)⟩, by rw [hzt t h1]; exact h2 k (by omega)⟩
theorem f_fits_n {nm pl mb tg sr sta en : Nat → Nat} {tv : Nat → Option Nat} {v k y : Nat} (h : f_fits nm pl mb tg sr sta en tv v k y) (hzt : ∀ t, t < 12 → f_fit nm pl mb tg sr sta en tv v k t = true) : f_fits nm pl mb tg sr sta en tv v (k + 1) y := by
  refine ⟨h.1, fun t => ?_⟩
  rw [h.2 t]
  constructor
  · rintro ⟨h1, h2⟩
    refine ⟨h1, fun i hi => ?_⟩
    by_cases hik : i = k
    · subst hik; exact hzt t h1
    · exact h2 i (by omega)
  · rintro ⟨h1, h2⟩
    exact ⟨h1, fun i hi => h2 i (by omega)⟩
theorem all_bit {t : Nat} (h : t < 12) : (4095 : Nat).testBit t = true := by
  rw [show (4095 : Nat) = 2 ^ 12 - 1 from rfl, Nat.testBit_two_pow_sub_one, decide_eq_true_eq]; exact h
theorem f_th_lt {tv : Nat → Option Nat} (h : ∀ j k, tv j = some k → k < 12) {v u : Nat} (e : f_th tv v = some u) : u < 12 := by
  unfold f_th at e
  split at e
  · exact h _ _ e
  · cases e
def f_comp (nm pl mb tg sr sta en : Nat → Nat) (n : Nat) : Nat → Nat → (Nat → Option Nat) → Prop
  | 0, _, _ => True
  | d + 1, v, tv => f_cnt pl v (2 * n) = 0 ∨ ∃ t, t < 12 ∧ (∀ i, i < n → f_fit nm pl mb tg sr sta en tv v i t = true) ∧ f_comp nm pl mb tg sr sta en n d (v + 1) (va_up tv v (some t))
theorem f_cs_f {cm : Bool} {i : Nat} {F G : Nat → Prop} (hc : cm = true ↔ ∃ t, t < i ∧ F t ∧ G t) (hn : ¬ F i) : cm = true ↔ ∃ t, t < i + 1 ∧ F t ∧ G t := by
  rw [hc]
  constructor
  · rintro ⟨t, h1, h2⟩; exact ⟨t, by omega, h2⟩
  · rintro ⟨t, h1, h2, h3⟩
    by_cases ht : t = i
    · subst ht; exact absurd h2 hn
    · exact ⟨t, by omega, h2, h3⟩
theorem f_cs_t {cm b : Bool} {i : Nat} {F G : Nat → Prop} (hc : cm = true ↔ ∃ t, t < i ∧ F t ∧ G t) (hf : cm = false) (hF : F i) (hb : b = true ↔ G i) : b = true ↔ ∃ t, t < i + 1 ∧ F t ∧ G t := by
  rw [hb]
  constructor
  · intro h; exact ⟨i, by omega, hF, h⟩
  · rintro ⟨t, h1, h2, h3⟩
    by_cases ht : t = i
    · subst ht; exact h3
    · have : cm = true := hc.mpr ⟨t, by omega, h2, h3⟩
      rw [hf] at this; cases this
theorem f_comp_end {nm pl mb tg sr sta en : Nat → Nat} {n d v i : Nat} {tv : Nat → Option Nat} {cm : Bool} (h0 : 0 < f_cnt pl v (2 * n)) (hi : i ≤ 12) (hc : cm = true ↔ ∃ t, t < i ∧ (∀ j, j < n → f_fit nm pl mb tg sr sta en tv v j t = true) ∧ f_comp nm pl mb tg sr sta en n d (v + 1) (va_up tv v (some t))) (h : 12 ≤ i ∨ cm = true) : cm = true ↔ f_comp nm pl mb tg sr sta en n (d + 1) v tv := by
  constructor
  · intro h1
    obtain ⟨t, h2, h3⟩ := hc.mp h1
    exact Or.inr ⟨t, by omega, h3⟩
  · intro h1
    rcases h1 with h1 | ⟨t, h2, h3⟩
    · omega
    · rcases h with h | h
      · exact hc.mpr ⟨t, by omega, h3⟩
      · exact h
theorem up_up {α : Type} {g f : Nat → α} {v : Nat} (h : ∀ j, j ≠ v → g j = f j) (x : α) : va_up g v x = va_up f v x := by
  funext j
  by_cases hj : j = v
  · rw [hj, up_s, up_s]
  · rw [up_n _ _ hj, up_n _ _ hj]; exact h j hj
theorem up_back {α : Type} {g f : Nat → α} {v : Nat} (h : ∀ j, j ≠ v → g j = f j) {x : α} (hx : f v = x) : va_up g v x = f := by
  funext j
  by_cases hj : j = v
  · rw [hj, up_s, hx]
  · rw [up_n _ _ hj]; exact h j hj
theorem up_olt {g : Nat → Option Nat} {k x b : Nat} (h : ∀ j m, g j = some m → m < b) (hx : x < b) : ∀ j m, va_up g k (some x) j = some m → m < b := by
  intro j m hj
  by_cases h9 : j = k
  · rw [h9, up_s] at hj; cases hj; exact hx
  · rw [up_n _ _ h9] at hj; exact h j m hj
theorem f_cnt_le (pl : Nat → Nat) (v : Nat) : ∀ k, f_cnt pl v k ≤ k := by
  intro k
  induction k with
  | zero => exact Nat.le_refl 0
  | succ k ih => simp only [f_cnt]; split <;> omega
