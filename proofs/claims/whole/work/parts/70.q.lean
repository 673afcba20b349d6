section QCR
variable {p : Program} {l : Launch} {e : Env} {R : Room} {s : State} {m : MethodId} {args : Array Value} {below : List Frame} {meth : Method} {c : Code} {H : Heap} {locs : List Loc} {cells slots : Nat} {Q : State → Prop}
variable {pc : Nat} {ls : Array Slot} {rest st0 : List Value} {a : Array Value} {A : Nat → Prop} {H0 : Heap} {D : va_G} {cl : List vw_C} {tys : List (ClassId × FieldType)} {ws wc wr : va_W} {b : Nat} {As : List Value}
theorem q_joinr {S : Type} {ad : Nat} {post : S → Prop} {w1 : S → va_W} (hr : va_Run p l e R s m args below meth c H locs cells slots 0 0 (F0 m pc ls st0) rest (va_Qr post (fun u ra t => ra = ad ∧ va_P D cl (w1 u) t.heap) (q_A wc) a) (q_A wc)) (hP : va_P D cl ws H) (hD : va_D A ws) (hS : va_S A H0 H locs) (isC isR : List Nat) (hC : isC.map (fun i => ws[i]?) = wc.map some) (hR : isR.map (fun i => ws[i]?) = wr.map some) (hn : va_nd (isR ++ isC) = true) (haddr : ∀ u, (w1 u).map Prod.fst = wc.map Prod.fst)
    (kk : ∀ (u : S) (H1 : Heap) (locs1 : List Loc), post u → va_P D cl (wr ++ w1 u) H1 → va_D A (wr ++ w1 u) → va_S A H0 H1 locs1 → W p l e R s m args below meth c H1 locs1 cells slots Q (F0 m (pc + 3) ls (.ref ad :: rest))) : W p l e R s m args below meth c H locs cells slots Q (F0 m pc ls st0) := by
  refine va_callr hr hS (fun q _ h => q_inA hD isC hC q h) (q_inA hD isC hC) (fun u ra t H1 locs1 ht hvm hp hB hz hk hS1 => ?_)
  obtain ⟨hra, hB⟩ := hB
  subst hra
  rw [ht] at hB
  obtain ⟨h1, h2⟩ := q_join hP hD isC isR hC hR hn (haddr u) hk hB
  exact kk u H1 locs1 hp h1 h2 hS1
end QCR
theorem q_forms {rs : Nat → Nat} {sz : Nat} {lg : Bool} : s_forms (cq_of rs sz, lg) (if lg = true then (-3) else nI sz) := by
  show _ = if lg = true then -3 else nI (cq_of rs sz).length
  rw [cq_len]
theorem lg_ge2 {b : Bool} {n : Nat} (hn : n < 2 ^ 31) (h : 0 ≤ (if b = true then (-3 : Int32) else nI n)) : b = false := by
  cases b with
  | false => rfl
  | true => rw [if_pos rfl] at h; exact absurd h (by decide)
theorem lg_gt2 {b : Bool} {n : Nat} (hn : n < 2 ^ 31) (h : ¬ 0 ≤ (if b = true then (-3 : Int32) else nI n)) : b = true := by
  cases b with
  | true => rfl
  | false => rw [if_neg (by decide)] at h; exact absurd (Int32.not_lt.mp (nI_pos hn)) h
theorem q_what {w : Nat} {x : Int32} (h4 : d_n w ≤ 4) (hn : d_n w = w / 2 ^ 48 % 8) (h1 : ¬ x < nI 3) (h2 : x < nI (3 + w / 2 ^ 48 % 8)) : ∃ k, k < d_n w ∧ x = nI (3 + k) := by
  have h0 : ¬ x < 0 := fun h => h1 (by
    rw [Int32.lt_iff_toInt_lt] at h ⊢
    rw [nI_toInt (by decide)]
    have : (0 : Int32).toInt = 0 := by decide
    omega)
  obtain ⟨j, h3, e⟩ := nI_of2 (M := nI (3 + w / 2 ^ 48 % 8)) (nI_toInt (by omega)) h0 (Int32.le_of_lt h2)
  subst e
  rw [nI_ltI (by omega) (by omega)] at h2
  have h1 : ¬ j < 3 := fun h => h1 ((nI_ltI (by omega) (by decide)).mpr h)
  exact ⟨j - 3, by omega, by rw [show 3 + (j - 3) = j by omega]⟩
theorem q_frm1 {an w : Nat} {x r : Int32} (e : x = nI 1) (h : (1 ≤ an ∧ r = nI 0) ∨ (an < 1 ∧ r = -1)) : s_frm an w x r := by
  unfold s_frm
  rw [if_neg (by rw [e]; exact nI_ne (by decide) (by decide) (by decide)), if_pos e]
  unfold m_hs0
  rcases h with ⟨h, h2⟩ | ⟨h, h2⟩
  · rw [if_neg (by omega)]; exact Or.inr ⟨rfl, h2⟩
  · rw [if_pos (by omega)]; exact Or.inl ⟨rfl, h2⟩
theorem q_frm2 {an w : Nat} {x r : Int32} (e : x = nI 2) (h : (an < 2 ∧ r = -1) ∨ (2 ≤ an ∧ d_j w = true ∧ r = nI 0) ∨ (2 ≤ an ∧ d_j w = false ∧ r = nI 1)) : s_frm an w x r := by
  unfold s_frm
  rw [if_neg (by rw [e]; exact nI_ne (by decide) (by decide) (by decide)), if_neg (by rw [e]; exact nI_ne (by decide) (by decide) (by decide)), if_pos e]
  unfold m_hs1
  rcases h with ⟨h, h2⟩ | ⟨h, h3, h2⟩ | ⟨h, h3, h2⟩
  · rw [if_pos h]; exact Or.inl ⟨rfl, h2⟩
  · rw [if_neg (by omega), h3]; exact Or.inr ⟨0, rfl, h2⟩
  · rw [if_neg (by omega), h3]; exact Or.inr ⟨1, rfl, h2⟩
theorem q_frmx {an w : Nat} {x : Int32} (h4 : d_n w ≤ 4) (hn : d_n w = w / 2 ^ 48 % 8) (h0 : ¬ x = nI 0) (h1 : ¬ x = nI 1) (h2 : ¬ x = nI 2) (h : x < nI 3 ∨ ¬ x < nI (3 + w / 2 ^ 48 % 8)) : s_frm an w x (-1) := by
  unfold s_frm
  rw [if_neg h0, if_neg h1, if_neg h2]
  refine Or.inr ⟨fun k hk e => ?_, rfl⟩
  subst e
  rw [nI_ltI (by omega) (by omega), nI_ltI (by omega) (by omega)] at h
  omega
theorem q_frmc {an w k : Nat} {x : Int32} (hn : d_n w = w / 2 ^ 48 % 8) (e : x = nI (3 + k)) (hk : k < d_n w) (h4 : d_n w ≤ 4) : s_frm an w x (nI (w / 2 ^ (12 * (3 - (3 + k - 3))) % 4096)) := by
  unfold s_frm
  rw [if_neg (by rw [e]; exact nI_ne (by omega) (by decide) (by omega)), if_neg (by rw [e]; exact nI_ne (by omega) (by decide) (by omega)), if_neg (by rw [e]; exact nI_ne (by omega) (by decide) (by omega))]
  refine Or.inl ⟨k, hk, e, ?_⟩
  rw [show 3 + k - 3 = k by omega]; rfl
