theorem c_ways_le (k : Nat) : 1 ≤ c_ways k ∧ c_ways k ≤ 24 := by
  unfold c_ways
  split
  · omega
  · split
    · omega
    · split <;> omega
theorem c_fix_up {z : Nat → Nat} {v x : Nat} (h : c_fix z) (ho : f_oth v = true) : c_fix (va_up z v x) := by
  simp only [f_oth, decide_eq_true_eq] at ho
  obtain ⟨a, b, c, d⟩ := h
  exact ⟨by rw [up_n _ _ (by omega)]; exact a, by rw [up_n _ _ (by omega)]; exact b, by rw [up_n _ _ (by omega)]; exact c, by rw [up_n _ _ (by omega)]; exact d⟩
def c_nmd (z os : Nat → Nat) (o i : Nat) : Prop := ∀ a, a < i → z (os a) = 2 + c_tbC o a
theorem c_nmd_0 (z os : Nat → Nat) (o : Nat) : c_nmd z os o 0 := fun a h => absurd h (Nat.not_lt_zero a)
theorem c_nmd_s {z os : Nat → Nat} {o i k : Nat} (h : c_nmd z os o i) (hi : i < k) (hd : ∀ a b, a < b → b < k → os a ≠ os b) : c_nmd (va_up z (os i) (2 + c_ord (4 * o + i))) os o (i + 1) := by
  intro a ha
  by_cases e : a = i
  · rw [e, up_s]; rfl
  · rw [up_n _ _ (hd a i (by omega) hi)]; exact h a (by omega)
/-- the class's least row by now: none before the first order -/
def c_lsw (R : Nat × Nat × Nat → Prop) (jn : Bool) (os : Nat → Nat) (k : Nat) (tb : Nat → Nat → Nat) (o w : Nat) : Prop := (o = 0 ∧ w = 0) ∨ (0 < o ∧ c_lst R jn os k tb o w)
theorem c_lsw_z {R : Nat × Nat × Nat → Prop} {jn : Bool} {os nd : Nat → Nat} {k o w : Nat} {tb : Nat → Nat → Nat} (ho : c_oth R os k) (h0 : o = 0) (hn : c_ndt nd os k (tb o)) (hr : c_rowof R jn nd w) : c_lsw R jn os k tb (o + 1) w := by
  subst h0
  exact Or.inr ⟨by omega, c_lst_1 ho hn hr⟩
theorem c_lsw_lt {R : Nat × Nat × Nat → Prop} {jn : Bool} {os nd : Nat → Nat} {k o w w2 : Nat} {tb : Nat → Nat → Nat} (ho : c_oth R os k) (h : c_lsw R jn os k tb o w) (h0 : 0 < o) (hn : c_ndt nd os k (tb o)) (hr : c_rowof R jn nd w2) (hlt : w2 < w) : c_lsw R jn os k tb (o + 1) w2 := by
  rcases h with h | h
  · omega
  · exact Or.inr ⟨by omega, c_lst_lt ho h.2 hn hr hlt⟩
theorem c_lsw_ge {R : Nat × Nat × Nat → Prop} {jn : Bool} {os nd : Nat → Nat} {k o w w2 : Nat} {tb : Nat → Nat → Nat} (ho : c_oth R os k) (h : c_lsw R jn os k tb o w) (h0 : 0 < o) (hn : c_ndt nd os k (tb o)) (hr : c_rowof R jn nd w2) (hge : ¬ w2 < w) : c_lsw R jn os k tb (o + 1) w := by
  rcases h with h | h
  · omega
  · exact Or.inr ⟨by omega, c_lst_ge ho h.2 hn hr hge⟩
theorem c_lsw_end {S : Nat × Nat × Nat → Prop} {jn : Bool} {os nm pl : Nat → Nat} {k o w n : Nat} {tb : Nat → Nat → Nat} (hk : k ≤ 4) (hR : c_rest S nm pl n) (ho : c_oth (c_set nm pl n) os k) (hf : c_full tb k (c_ways k)) (h : c_lsw (c_set nm pl n) jn os k tb o w) (he : o = c_ways k) : c_can S jn w := by
  rcases h with h | h
  · have := (c_ways_le k).1; omega
  · rw [he] at h
    exact c_can_of hR (c_lst_end hk ho hf h.2)
/-! bounds, bundled -/
def c_nmk (nd os cd : Nat → Nat) : Prop := (∀ j, nd j < 8) ∧ c_fix nd ∧ (∀ j, os j < 16) ∧ ∀ j, cd j < 4096
def c_fmk (n : Nat) (nm pl : Nat → Nat) : Prop := n ≤ 4 ∧ (∀ j, nm j < 64) ∧ ∀ j, pl j < 16
def b_inv (hc : Nat) (rs : Nat → Nat) (sz : Nat) (lg : Bool) : Prop := (∀ j, rs j < 2 ^ 52) ∧ b_ok hc (cq_of rs sz, lg)
theorem b_inv_sz {hc : Nat} {rs : Nat → Nat} {sz : Nat} {lg : Bool} (h : b_inv hc rs sz lg) : sz ≤ 90 := (b_ok_rows h.2).1
theorem b_inv_0 {hc : Nat} {rs : Nat → Nat} (h : ∀ j, rs j < 2 ^ 52) : b_inv hc rs 0 false := ⟨h, by show (cq_of rs 0).length ≤ 90; rw [cq_len]; omega, fun w hw => by obtain ⟨j, hj, _⟩ := cq_mem.mp hw; omega⟩
theorem f_come_lt {rs rs1 : Nat → Nat} {sz sz1 w b : Nat} {lg lg1 : Bool} (h : f_come rs sz w lg sz1 lg1 rs1) (hr : ∀ j, rs j < b) (hw : w < b) : ∀ j, rs1 j < b := by
  rcases h with ⟨_, _, _, rfl⟩ | ⟨_, _, _, _, rfl⟩ | ⟨_, _, _, _, rfl⟩
  · exact hr
  · exact hr
  · exact up_lt hr hw
theorem b_inv_come {hc : Nat} {rs rs1 : Nat → Nat} {sz sz1 w : Nat} {lg lg1 : Bool} (hi : b_inv hc rs sz lg) (h : f_come rs sz w lg sz1 lg1 rs1) (hw : c_rok hc w) : b_inv hc rs1 sz1 lg1 := ⟨f_come_lt h hi.1 hw.1, by rw [b_come_f h]; exact b_ok_come hi.2 hw⟩
theorem f_mem_out (s x a b : Nat) : f_mem s x a b = a ∨ f_mem s x a b = b ∨ f_mem s x a b = 7 := by
  unfold f_mem
  repeat' split
  all_goals simp
theorem f_sort_lt {s x : Nat} (hs : s < 64) (hx : x < 16) : f_sortn s < 64 ∧ f_sort1 s x < 16 ∧ f_sort2 s x < 16 := by
  unfold f_sortn f_sort1 f_sort2 f_wayn f_way1 f_way2
  by_cases h : s < 20
  · rw [if_pos h, if_pos h, if_pos h]; omega
  · rw [if_neg h, if_neg h, if_neg h]
    refine ⟨by omega, ?_, ?_⟩ <;> split <;> omega
theorem f_way_lt {s x y : Nat} (hs : s < 64) (hx : x < 16) (hy : y < 16) : f_wayn s < 64 ∧ f_way1 s x y < 16 ∧ f_way2 s x y < 16 := by
  unfold f_wayn f_way1 f_way2
  refine ⟨by omega, ?_, ?_⟩ <;> split <;> omega
theorem f_rw_lt {k lf rg x a b : Nat} {q : Nat × Nat × Nat} (hl : lf < 64) (ha : a < 16) (hb : b < 16) (h : f_rw k lf rg x a b = some q) : q.1 < 64 ∧ q.2.1 < 16 ∧ q.2.2 < 16 := by
  unfold f_rw at h
  split at h
  · split at h
    · cases h
    · cases h
      have := f_mem_out rg x a b
      exact f_sort_lt hl (by omega)
  · split at h
    · split at h
      · cases h; exact f_way_lt hl ha hb
      · cases h; exact f_way_lt hl hb ha
    · cases h
theorem f_rpl_k {n k lf rg i : Nat} {nm pl nm1 pl1 : Nat → Nat} {b : Bool} (hl : lf < 64) (hf : c_fmk n nm pl) (h : f_rpl (f_rw k lf rg (nm i) (pl (2 * i)) (pl (2 * i + 1))) nm pl i b nm1 pl1) : c_fmk n nm1 pl1 := by
  cases e : f_rw k lf rg (nm i) (pl (2 * i)) (pl (2 * i + 1)) with
  | none => rw [e] at h; obtain ⟨_, rfl, rfl⟩ := h; exact hf
  | some q =>
    rw [e] at h
    obtain ⟨_, rfl, rfl⟩ := h
    have := f_rw_lt hl (hf.2.2 _) (hf.2.2 _) e
    exact ⟨hf.1, up_lt hf.2.1 this.1, up_lt (up_lt hf.2.2 this.2.1) this.2.2⟩
theorem b_rep_go {hc : Nat} {kd lf rg nm pl nm1 pl1 : Nat → Nat} {r i x : Nat} {b : Bool} {s : List Nat × Bool} (hs : f_same (d_n r) nm pl (d_nm r) (d_pl r)) (hr : c_rok hc r) (hi : i < d_n r) (hax : m_axn (kd x) (lf x) (rg x)) (h : f_rpl (f_rw (kd x) (lf x) (rg x) (nm i) (pl (2 * i)) (pl (2 * i + 1))) nm pl i b nm1 pl1) : (b = false → b_rep kd lf rg r i x s = s) ∧ (b = true → ∀ w, c_can (c_set nm1 pl1 (d_n r)) (d_j r) w → b_rep kd lf rg r i x s = b_come s w ∧ c_rok hc w) := by
  obtain ⟨e1, e2, e3⟩ := hs i hi
  rw [e1, e2, e3] at h
  cases e : f_rw (kd x) (lf x) (rg x) (d_nm r i) (d_pl r (2 * i)) (d_pl r (2 * i + 1)) with
  | none =>
    rw [e] at h
    exact ⟨fun _ => b_rep_n e, fun hb => (by rw [h.1] at hb; cases hb)⟩
  | some q =>
    rw [e] at h
    obtain ⟨h1, rfl, rfl⟩ := h
    exact ⟨fun hb => (by rw [h1] at hb; cases hb), fun _ w hw => b_rep_s (f_same_put hs i q.1 q.2.1 q.2.2) e hax hi hr hw⟩
theorem f_unP_lt {pl : Nat → Nat} {n i k sd : Nat} (h : ∀ j, pl j < 16) : ∀ j, f_unP pl n i k sd j < 16 := by
  have h1 := h (2 * i + sd)
  have h2 := h (2 * k + sd)
  unfold f_unP
  split
  · exact up_lt h h2
  · split
    · exact up_lt h h1
    · split
      · exact h
      · exact f_ren_lt h (by omega)
theorem f_unI_lt {pl : Nat → Nat} {n i k : Nat} (h : ∀ j, pl j < 16) : ∀ j, f_unI pl n i k 2 j < 16 := f_unP_lt (sd := 1) (f_unP_lt (sd := 0) h)
theorem b_uni_go {hc : Nat} {nm pl : Nat → Nat} {r i k : Nat} {s : List Nat × Bool} (hs : f_same (d_n r) nm pl (d_nm r) (d_pl r)) (hr : c_rok hc r) (hik : i < k) (hk : k < d_n r) : (nm i ≠ nm k → b_uni r i k s = s) ∧ (nm i = nm k → ∀ w, c_can (c_set nm (f_unI pl (d_n r) i k 2) (d_n r)) (f_unK pl (d_n r) i k (d_j r) 2) w → b_uni r i k s = b_come s w ∧ c_rok hc w) := by
  have e1 := (hs i (by omega)).1
  have e2 := (hs k hk).1
  obtain ⟨u1, u2⟩ := f_same_un hs (show i < d_n r by omega) hk
  refine ⟨fun h => b_uni_n (by rw [← e1, ← e2]; exact h), fun h w hw => ?_⟩
  rw [u2] at hw
  exact b_uni_s u1 rfl (by rw [← e1, ← e2]; exact h) hik hk hr hw
theorem b_rows_at {hc sz i : Nat} {rs : Nat → Nat} {lg : Bool} (h : b_inv hc rs sz lg) (hi : i < sz) : c_rok hc (rs i) := (b_ok_rows h.2).2 i hi
/-- the first form -/
theorem b_first {hc w sz1 : Nat} {jn lg1 : Bool} {nm pl rs rs1 : Nat → Nat} {n : Nat} (hf : c_fok hc jn nm pl n) (hw : c_can (c_set nm pl n) jn w) (hrs : ∀ j, rs j < 2 ^ 52) (h : f_come rs 0 w false sz1 lg1 rs1) : b_inv hc rs1 sz1 lg1 ∧ (cq_of rs1 sz1, lg1) = b_come ([], false) (c_cn (c_set nm pl n) jn) := by
  refine ⟨b_inv_come (b_inv_0 hrs) h (c_can_rok hw hf).1, ?_⟩
  rw [b_come_f h, c_cn_eq hw]; rfl
theorem b_it_go {na : Nat} {kd lf rg rs : Nat → Nat} {sz i : Nat} {lg : Bool} {s0 sA sB : List Nat × Bool} (h : (cq_of rs sz, lg) = b_it na kd lf rg i s0) (hl : lg = false) (hi : i < sz) (hA : sA = b_r1 na kd lf rg (rs i) (d_n (rs i)) (cq_of rs sz, lg)) (hB : sB = b_u1 (rs i) (d_n (rs i)) sA) : sB = b_it na kd lf rg (i + 1) s0 := by
  have h1 := b_it_s h hl (by show i < (cq_of rs sz).length; rw [cq_len]; exact hi)
  rw [show (cq_of rs sz, lg).1.getD i 0 = rs i from cq_getD rs hi] at h1
  rw [← h1, hB, hA]; rfl
theorem b_it_end {na : Nat} {kd lf rg rs : Nat → Nat} {sz i : Nat} {lg : Bool} {s0 : List Nat × Bool} (h : (cq_of rs sz, lg) = b_it na kd lf rg i s0) (hi : i ≤ 91) (hx : sz ≤ i ∨ lg = true) : (cq_of rs sz, lg) = b_it na kd lf rg 91 s0 := b_it_x h hi (by
  rcases hx with hx | hx
  · right; show (cq_of rs sz).length ≤ i; rw [cq_len]; exact hx
  · exact Or.inl hx)
