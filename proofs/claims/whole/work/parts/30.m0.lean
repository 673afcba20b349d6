/-- the reference's own cell -/
def mO (ax : Nat) (z1 : Nat) (z2 : Nat) (z3 : Nat) (fc : Nat) (z5 : Nat) (z6 : Nat) (z7 : Nat) (qs : Nat) (z9 : Nat) (z10 : Nat) (z11 : Nat) (z12 : Nat) (z13 : Nat) (hd : Option Nat) (lg : Bool) (fcn : Nat) (z17 : Nat) (z18 : Nat) (z19 : Nat) (md : Nat) (z21 : Nat) (z22 : Nat) (z23 : Nat) (z24 : Nat) (hc : Nat) (z26 : Nat) (z27 : Nat) (z28 : Nat) (z29 : Nat) (z30 : Nat) (z31 : Nat) (sm : Bool) (z33 : Nat) (z34 : Nat) : List Value := [.int (nI ax), .ref z1, .ref z2, .ref z3, .int (nI fc), .ref z5, .ref z6, .ref z7, .int (nI qs), .ref z9, .ref z10, .ref z11, .ref z12, .ref z13, .int (oI hd), .int (bI lg), .int (nI fcn), .ref z17, .ref z18, .ref z19, .int (nI md), .ref z21, .ref z22, .ref z23, .ref z24, .int (nI hc), .ref z26, .ref z27, .ref z28, .ref z29, .ref z30, .ref z31, .int (bI sm), .ref z33, .ref z34]
def bF (g : Nat → Bool) : Nat → Int32 := fun j => bI (g j)
theorem bF_up (g : Nat → Bool) (k : Nat) (x : Bool) : upd (bF g) k (bI x) = bF (va_up g k x) := by
  funext j
  by_cases h : j = k
  · subst h; simp [upd, bF, va_up]
  · simp [upd, bF, va_up, h]
section QZ
variable {p : Program} {l : Launch} {e : Env} {R : Room} {s : State} {m : MethodId} {args : Array Value} {below : List Frame} {meth : Method} {c : Code} {H : Heap} {locs : List Loc} {cells slots : Nat} {Q : State → Prop}
variable {cc : ByteArray} {pc : Nat} {ls : Array Slot} {rest : List Value} {D : va_G} {cl : List vw_C} {A : Nat → Prop} {a : Nat} {tys : List (ClassId × FieldType)} {ws : va_W} {H0 : Heap}
theorem q_zald (hexec : p.tables.exec = Jvm.exec) (hb : c.code = cc) (hK : va_K D cl tys s) (hP : va_P D cl ws H) (q0 t0 : Nat) {cA : ClassId} {n : Nat} {g : Nat → Bool} (ha : ws[q0]? = some (a, .inl (cA, n, .inl (bF g)))) (ht : tys[t0]? = some (cA, .boolean)) {j : Nat} (hj : j < n) (hn : n < 2 ^ 31) (hdg : decode cc pc = .ok (.baload, 1))
    (kk : W p l e R s m args below meth c H locs cells slots Q (F0 m (pc + 1) ls (.int (bI (g j)) :: rest))) : W p l e R s m args below meth c H locs cells slots Q (F0 m pc ls (.int (nI j) :: .ref a :: rest)) := va_zald hexec hb hK hP q0 t0 ha ht (vp_in_nI hj hn) hdg (by rw [nI_clamp (Nat.lt_trans hj hn)]; exact kk)
theorem nar_b (x : Bool) : vp_nar .boolean (bI x) = bI x := by cases x <;> decide
theorem q_zast (hexec : p.tables.exec = Jvm.exec) (hb : c.code = cc) (hK : va_K D cl tys s) (hP : va_P D cl ws H) (hD : va_D A ws) (hS : va_S A H0 H locs) (q0 t0 : Nat) {cA : ClassId} {n : Nat} {g : Nat → Bool} (ha : ws[q0]? = some (a, .inl (cA, n, .inl (bF g)))) (ht : tys[t0]? = some (cA, .boolean)) {j : Nat} {x : Bool} (hj : j < n) (hn : n < 2 ^ 31) (hdg : decode cc pc = .ok (.bastore, 1))
    (kk : ∀ (H1 : Heap) (locs1 : List Loc), va_P D cl (ws.set q0 (a, .inl (cA, n, .inl (bF (va_up g j x))))) H1 → va_D A (ws.set q0 (a, .inl (cA, n, .inl (bF (va_up g j x))))) → va_S A H0 H1 locs1 → W p l e R s m args below meth c H1 locs1 cells slots Q (F0 m (pc + 1) ls rest)) : W p l e R s m args below meth c H locs cells slots Q (F0 m pc ls (.int (bI x) :: .int (nI j) :: .ref a :: rest)) :=
  va_zast hexec hb hK hP hD hS q0 t0 ha ht (vp_in_nI hj hn) hdg (fun H1 L1 h1 h2 h3 => by rw [nI_clamp (Nat.lt_trans hj hn), nar_b, bF_up] at h1 h2; exact kk H1 L1 h1 h2 h3)
end QZ
def m_in (v lo hi : Int32) : Bool := decide (¬ v < lo ∧ ¬ hi < v)
def m_sort (v : Int32) : Bool := m_in v (nI 0) (nI 9) || m_in v (nI 20) (nI 35)
def m_may (ro : Bool) (x a b : Int32) : Bool := m_in a (nI 0) (nI 11) && (if ro = true then m_in x (nI 0) (nI 7) && m_in b (nI 0) (nI 11) else m_in x (nI 0) (nI 9))
/-- fact k is this one -/
def m_is (fn fo ft : Nat → Nat) (x a b k : Nat) : Prop := fn k = x ∧ fo k = a ∧ (x < 32 ∨ ft k = b)
def m_fat (fn fo ft : Nat → Nat) (x a b n : Nat) (o : Option Nat) : Prop := match o with
  | none => ∀ k, k < n → ¬ m_is fn fo ft x a b k
  | some k => k < n ∧ m_is fn fo ft x a b k ∧ ∀ j, j < k → ¬ m_is fn fo ft x a b j
def m_head (he : Nat → Nat) (hc v : Nat) : Bool := decide (0 < hc ∧ v = he 0 ∨ 1 < hc ∧ v = he 1)
/-- how often v stands in the atoms -/
def m_stn (pp pa pb : Nat → Nat) (v : Nat) : Nat → Nat
  | 0 => 0
  | k + 1 => m_stn pp pa pb v k + (if pa k = v then 1 else 0) + (if 32 ≤ pp k ∧ pb k = v then 1 else 0)
theorem m_stn_le (pp pa pb : Nat → Nat) (v : Nat) : ∀ k, m_stn pp pa pb v k ≤ 2 * k := by
  intro k
  induction k with
  | zero => exact Nat.le_refl 0
  | succ k ih => simp only [m_stn]; split <;> split <;> omega
def m_lone (pp pa pb he : Nat → Nat) (md hc v : Nat) : Bool := decide (v ≠ 6) && !m_head he hc v && decide (m_stn pp pa pb v md = 1)
/-- without place k -/
def m_del (g : Nat → Nat) (k : Nat) : Nat → Nat := fun j => if j < k then g j else g (j + 1)
def m_hn (he : Nat → Nat) (hc i : Nat) : Option Nat := if hc ≤ i then none else if i = 1 ∧ he 1 ≠ he 0 then some 1 else some 0

def m_dl (g : Nat → Nat) (k i : Nat) : Nat → Nat := fun j => if k ≤ j ∧ j < i then g (j + 1) else g j
theorem m_dl_0 (g : Nat → Nat) (k : Nat) : m_dl g k k = g := by
  funext j
  unfold m_dl
  rw [if_neg (by omega)]
theorem m_dl_s {g : Nat → Nat} {k i : Nat} (h : k ≤ i) : va_up (m_dl g k i) i (m_dl g k i (i + 1)) = m_dl g k (i + 1) := by
  funext j
  by_cases hj : j = i
  · rw [hj, up_s]; unfold m_dl; rw [if_neg (by omega), if_pos (by omega)]
  · rw [up_n _ _ hj]; unfold m_dl
    by_cases h2 : k ≤ j ∧ j < i
    · rw [if_pos h2, if_pos (by omega)]
    · rw [if_neg h2, if_neg (by omega)]
def m_eq (pp pa pb : Nat → Nat) (i k : Nat) : Prop := pp i = pp k ∧ pa i = pa k ∧ pb i = pb k
def m_ndp (pp pa pb : Nat → Nat) (n : Nat) : Prop := ∀ a c, a < c → c < n → ¬ m_eq pp pa pb a c
theorem m_ndp_s {pp pa pb : Nat → Nat} {k : Nat} (h : m_ndp pp pa pb k) (h2 : ∀ j, j < k → ¬ m_eq pp pa pb j k) : m_ndp pp pa pb (k + 1) := by
  intro a c hac hc
  by_cases hck : c = k
  · rw [hck]; exact h2 a (by omega)
  · exact h a c hac (by omega)
def m_nol (pp pa pb he : Nat → Nat) (md hc j : Nat) : Prop := m_lone pp pa pb he md hc (pa j) = false ∧ (32 ≤ pp j → m_lone pp pa pb he md hc (pb j) = false)
def m_less (pp pa pb he : Nat → Nat) (md hc : Nat) (b1 : Bool) (md1 : Nat) (pp1 pa1 pb1 : Nat → Nat) : Prop :=
  (b1 = true ∧ ((∃ i k, i < k ∧ k < md ∧ m_eq pp pa pb i k ∧ md1 = md - 1 ∧ pp1 = m_dl pp k (md - 1) ∧ pa1 = m_dl pa k (md - 1) ∧ pb1 = m_dl pb k (md - 1))
    ∨ (m_ndp pp pa pb md ∧ ∃ k, k < md ∧ m_lone pp pa pb he md hc (pa k) = true ∧ md1 = md ∧ pp1 = pp ∧ pa1 = va_up pa k 6 ∧ pb1 = pb)
    ∨ (m_ndp pp pa pb md ∧ ∃ k, k < md ∧ 32 ≤ pp k ∧ m_lone pp pa pb he md hc (pb k) = true ∧ md1 = md ∧ pp1 = pp ∧ pa1 = pa ∧ pb1 = va_up pb k 6)))
  ∨ (b1 = false ∧ md1 = md ∧ pp1 = pp ∧ pa1 = pa ∧ pb1 = pb ∧ m_ndp pp pa pb md ∧ ∀ j, j < md → m_nol pp pa pb he md hc j)

def m_h (he : Nat → Option Nat) (i : Nat) : Nat := (he i).getD 0
def m_hok (he : Nat → Option Nat) (hc : Nat) : Prop := ∀ j, j < hc → he j = some (m_h he j) ∧ m_h he j < 18
