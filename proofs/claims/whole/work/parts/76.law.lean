/-! Both sides' states, side by side -/
def LA (na : Nat) (kd lf rg : Nat → Nat) : Prop := na ≤ 16 ∧ (∀ j, kd j < 4) ∧ (∀ j, lf j < 64) ∧ (∀ j, rg j < 64) ∧ ∀ j, j < na → m_axn (kd j) (lf j) (rg j)
def LF (fs : Nat) (mb tg sr sta en fn fo ft : Nat → Nat) : Prop := fs ≤ 60 ∧ ((∀ j, mb j < 4096) ∧ (∀ j, tg j < 4096) ∧ (∀ j, sr j < 4096) ∧ (∀ j, sta j < 4096) ∧ ∀ j, en j < 4096) ∧ s_fok tg sr sta en ∧ s_rel mb tg fn fo ft fs ∧ (∀ j, fn j < 64) ∧ (∀ j, fo j < 12) ∧ ∀ j, ft j < 12
def m_qp8 (qx qy qz : Nat → Nat) (an q : Nat) : Nat → Nat := m_pv (fun k => m_v8 an (qy (4 * q + k))) (fun k => if qx (4 * q + k) < 32 then 7 else m_v8 an (qz (4 * q + k)))
def LQ1 (qa qn qx qy qz : Nat → Nat) : Prop := (∀ j, qa j ≤ 2) ∧ (∀ j, qn j ≤ 4) ∧ (∀ j, qx j < 64) ∧ (∀ j, qy j < 8) ∧ ∀ j, qz j < 8
def LQ (qs : Nat) (an on : Nat → Nat) (onm opl : Nat → Nat → Nat) (qa qn qx qy qz : Nat → Nat) : Prop := qs ≤ 6 ∧ LQ1 qa qn qx qy qz ∧ (∀ k, k < 6 → c_fmk (on k) (onm k) (opl k) ∧ an k ≤ 2) ∧ ∀ k, k < qs → an k = qa k ∧ on k = qn k ∧ m_qok qx qy qz k (qn k) ∧ f_same (qn k) (onm k) (opl k) (m_qn qx k) (m_qp8 qx qy qz (qa k) k)
def LC1 (na : Nat) (kd lf rg mb tg sr sta en : Nat → Nat) (an on : Nat) (onm opl rs : Nat → Nat) (sz : Nat) (lg se : Bool) (fd : Nat → Option Nat) : Prop := b_inv an rs sz lg ∧ b_rel na kd lf rg (c_set onm opl on) false (cq_of rs sz, lg) ∧ (se = true → f_srch (fun q7 q8 => f_finds mb tg sr sta en an (rs q7) q8) sz fd)
def LC (qs na : Nat) (kd lf rg mb tg sr sta en an on : Nat → Nat) (onm opl rs : Nat → Nat → Nat) (sz : Nat → Nat) (lg rwn se : Nat → Bool) (fd : Nat → Nat → Option Nat) : Prop := (∀ k, k < 6 → ∀ j, rs k j < 2 ^ 52) ∧ ∀ k, k < qs → rwn k = true → LC1 na kd lf rg mb tg sr sta en (an k) (on k) (onm k) (opl k) (rs k) (sz k) (lg k) (se k) (fd k)
def LB (na : Nat) (kd lf rg mb tg sr sta en : Nat → Nat) (bkn : Bool) (brk : Int32) : Prop := bkn = true → s_bk 8 9 na kd lf rg (f_finds mb tg sr sta en 0) na 0 brk
def LW (nd os cd : Nat → Nat) (xz : Nat) (xnm xpl : Nat → Nat) (fz : Nat) (fnm fpl gnm gpl : Nat → Nat) (bon : Nat) (bonm bopl brs : Nat → Nat) : Prop := c_nmk nd os cd ∧ c_fmk xz xnm xpl ∧ c_fmk fz fnm fpl ∧ ((∀ j, gnm j < 64) ∧ ∀ j, gpl j < 16) ∧ c_fmk bon bonm bopl ∧ ∀ j, brs j < 2 ^ 52
def LM (qs na : Nat) (kd lf rg qa qn qx qy qz : Nat → Nat) (md : Nat) (pp pa pb ndM le rq fe pk zs cs : Nat → Nat) (hs : Nat → Option Nat) (fcn : Nat) (lgM : Bool) (hd : Option Nat) (bd : Nat → Option Nat) : Prop := m_ppk md pp pa pb ∧ m_wkk ndM le rq fe pk ∧ m_arr zs cs hs ∧ (∀ j k, bd j = some k → k < 12) ∧ fcn ≤ 90 ∧ ∀ q, hd = some q → q < qs ∧ m_han na kd lf rg qa qn qx qy qz zs cs hs fcn lgM q
theorem m_axn_lt {k a b : Nat} (h : m_axn k a b) : k < 4 ∧ a < 64 ∧ b < 64 := by
  obtain ⟨h1, h2, h3⟩ := h
  rcases (show k % 2 = 0 ∨ k % 2 = 1 by omega) with h4 | h4
  · have := h2 h4
    unfold m_sok at this
    omega
  · have := h3 h4
    omega
theorem L_axm {k a b r r' : Int32} {qs na na1 ax1 : Nat} {kd lf rg kd1 lf1 rg1 kdM lfM rgM : Nat → Nat} {bkn bkn1 : Bool} {se rwn se1 rwn1 : Nat → Bool} {hd hd1 : Option Nat} (hA : LA na kd lf rg) (h : s_kaxm k a b qs na kd lf rg bkn se rwn r na1 kd1 lf1 rg1 bkn1 se1 rwn1) (h' : s_axm (m_axg k a b) k a b na kd lf rg hd r' ax1 kdM lfM rgM hd1) : r = r' ∧ ax1 = na1 ∧ kdM = kd1 ∧ lfM = lf1 ∧ rgM = rg1 ∧ LA na1 kd1 lf1 rg1 ∧ ((na1 = na ∧ kd1 = kd ∧ lf1 = lf ∧ rg1 = rg ∧ bkn1 = bkn ∧ se1 = se ∧ rwn1 = rwn ∧ hd1 = hd) ∨ (bkn1 = false ∧ (∀ k, k < qs → rwn1 k = false) ∧ hd1 = none)) := by
  unfold s_kaxm at h
  rw [axiom_eq] at h
  have hA1 := hA.1
  rcases h with ⟨c1, rfl, rfl, rfl, rfl, rfl, rfl, rfl, rfl⟩ | ⟨c1, c2, rfl, rfl, rfl, rfl, rfl, rfl, rfl, rfl⟩ | ⟨c1, c2, k', a', b', hn, ek, ea, eb, rfl, rfl, rfl, rfl, rfl, rfl, rfl, rfl⟩ <;> rcases h' with ⟨d1, rfl, rfl, rfl, rfl, rfl, rfl⟩ | ⟨d1, d2, rfl, rfl, rfl, rfl, rfl, rfl⟩ | ⟨d1, d2, k2, a2, b2, hn2, ek2, ea2, eb2, rfl, rfl, rfl, rfl, rfl, rfl⟩
  · exact ⟨rfl, rfl, rfl, rfl, rfl, hA, Or.inl ⟨rfl, rfl, rfl, rfl, rfl, rfl, rfl, rfl⟩⟩
  · rw [c1] at d1; cases d1
  · rw [c1] at d1; cases d1
  · rw [c1] at d1; cases d1
  · exact ⟨rfl, rfl, rfl, rfl, rfl, hA, Or.inl ⟨rfl, rfl, rfl, rfl, rfl, rfl, rfl, rfl⟩⟩
  · omega
  · rw [c1] at d1; cases d1
  · omega
  · have l1 := m_axn_lt hn
    have l2 := m_axn_lt hn2
    have e1 : k' = k2 := (nI_eq (by omega) (by omega)).mp (ek.symm.trans ek2)
    have e2 : a' = a2 := (nI_eq (by omega) (by omega)).mp (ea.symm.trans ea2)
    have e3 : b' = b2 := (nI_eq (by omega) (by omega)).mp (eb.symm.trans eb2)
    subst e1; subst e2; subst e3
    obtain ⟨A1, A2, A3, A4, A5⟩ := hA
    refine ⟨rfl, rfl, rfl, rfl, rfl, ⟨by omega, up_lt A2 l1.1, up_lt A3 l1.2.1, up_lt A4 l1.2.2, fun j hj => ?_⟩, Or.inr ⟨rfl, fun q hq => ?_, rfl⟩⟩
    · by_cases e : j = na
      · rw [e, up_s, up_s, up_s]; exact hn
      · rw [up_n _ _ e, up_n _ _ e, up_n _ _ e]; exact A5 j (by omega)
    · unfold f_cut; rw [if_pos hq]
theorem L_axm_C {qs na na1 : Nat} {kd lf rg kd1 lf1 rg1 mb tg sr sta en an on sz : Nat → Nat} {onm opl rs : Nat → Nat → Nat} {lg rwn se rwn1 se1 : Nat → Bool} {fd : Nat → Nat → Option Nat} {bkn bkn1 : Bool} {brk : Int32} {hd hd1 : Option Nat} (hC : LC qs na kd lf rg mb tg sr sta en an on onm opl rs sz lg rwn se fd) (hB : LB na kd lf rg mb tg sr sta en bkn brk) (h : (na1 = na ∧ kd1 = kd ∧ lf1 = lf ∧ rg1 = rg ∧ bkn1 = bkn ∧ se1 = se ∧ rwn1 = rwn ∧ hd1 = hd) ∨ (bkn1 = false ∧ (∀ k, k < qs → rwn1 k = false) ∧ hd1 = none)) : LC qs na1 kd1 lf1 rg1 mb tg sr sta en an on onm opl rs sz lg rwn1 se1 fd ∧ LB na1 kd1 lf1 rg1 mb tg sr sta en bkn1 brk := by
  rcases h with ⟨rfl, rfl, rfl, rfl, rfl, rfl, rfl, rfl⟩ | ⟨rfl, h2, rfl⟩
  · exact ⟨hC, hB⟩
  · exact ⟨⟨hC.1, fun k hk hr => by rw [h2 k hk] at hr; cases hr⟩, fun h => by cases h⟩
theorem L_axm_M {qs na na1 md fcn : Nat} {kd lf rg kd1 lf1 rg1 qa qn qx qy qz pp pa pb ndM le rq fe pk zs cs : Nat → Nat} {hs bd : Nat → Option Nat} {lgM bkn bkn1 : Bool} {hd hd1 : Option Nat} {se se1 rwn rwn1 : Nat → Bool} (hM : LM qs na kd lf rg qa qn qx qy qz md pp pa pb ndM le rq fe pk zs cs hs fcn lgM hd bd) (h : (na1 = na ∧ kd1 = kd ∧ lf1 = lf ∧ rg1 = rg ∧ bkn1 = bkn ∧ se1 = se ∧ rwn1 = rwn ∧ hd1 = hd) ∨ (bkn1 = false ∧ (∀ k, k < qs → rwn1 k = false) ∧ hd1 = none)) : LM qs na1 kd1 lf1 rg1 qa qn qx qy qz md pp pa pb ndM le rq fe pk zs cs hs fcn lgM hd1 bd := by
  rcases h with ⟨rfl, rfl, rfl, rfl, rfl, rfl, rfl, rfl⟩ | ⟨rfl, h2, rfl⟩
  · exact hM
  · exact ⟨hM.1, hM.2.1, hM.2.2.1, hM.2.2.2.1, hM.2.2.2.2.1, fun q h => by cases h⟩
/-- a fact's numbers, on both sides -/
theorem L_fx {ro : Bool} {x a b : Int32} {x' a' X A Bv : Nat} {mb tg : Nat → Nat} (hx : x' < (if ro = true then 8 else 10)) (ha : a' < 12) (ex : x = nI x') (ea : a = nI a') (hb : ro = true → ∃ j, j < 12 ∧ b = nI j) (h : s_fx ro x a b X A Bv) : s_val X ∧ A < 12 ∧ Bv < 12 ∧ A = a' ∧ (f_fhas ro mb tg x' a' b = true ↔ s_bit mb tg X A Bv) ∧ (ro = true → X = 32 + x' ∧ x' < 8 ∧ b.toNatClampNeg = Bv) ∧ (ro = false → X = x' ∧ x' < 10 ∧ Bv = 0) := by
  rcases h with ⟨hr, x2, a2, b2, h1, h2, h3, e1, e2, e3, rfl, rfl, rfl⟩ | ⟨hr, x2, a2, h1, h2, e1, e2, rfl, rfl, rfl⟩
  · rw [if_pos hr] at hx
    have q1 : x' = x2 := (nI_eq (by omega) (by omega)).mp (ex.symm.trans e1)
    have q2 : a' = A := (nI_eq (by omega) (by omega)).mp (ea.symm.trans e2)
    subst q1; subst q2
    have q3 : b.toNatClampNeg = Bv := by rw [e3]; exact nI_clamp (by omega)
    refine ⟨Or.inr (by omega), h2, h3, rfl, ?_, fun _ => ⟨rfl, h1, q3⟩, fun h => by rw [hr] at h; cases h⟩
    unfold f_fhas s_bit
    rw [if_pos hr, if_neg (by omega), q3, show 32 + x' - 32 = x' by omega]
  · rw [if_neg (by rw [hr]; decide)] at hx
    have q1 : x' = X := (nI_eq (by omega) (by omega)).mp (ex.symm.trans e1)
    have q2 : a' = A := (nI_eq (by omega) (by omega)).mp (ea.symm.trans e2)
    subst q1; subst q2
    refine ⟨Or.inl h1, h2, by decide, rfl, ?_, fun h => (by rw [hr] at h; cases h), fun _ => ⟨rfl, h1, rfl⟩⟩
    unfold f_fhas s_bit
    rw [if_neg (by rw [hr]; decide), if_pos (by omega)]
theorem L_put {ro h : Bool} {b : Int32} {x' X A Bv : Nat} {mb tg sr sta en mb1 tg1 sr1 sta1 en1 : Nat → Nat} (hl : (∀ j, mb j < 4096) ∧ (∀ j, tg j < 4096) ∧ (∀ j, sr j < 4096) ∧ (∀ j, sta j < 4096) ∧ ∀ j, en j < 4096) (hok : s_fok tg sr sta en) (hA : A < 12) (hB : Bv < 12) (hr : ro = true → X = 32 + x' ∧ x' < 8 ∧ b.toNatClampNeg = Bv) (hc : ro = false → X = x' ∧ x' < 10 ∧ Bv = 0) (hp : f_fput ro mb tg sr sta en x' A b h mb1 tg1 sr1 sta1 en1) : ((∀ j, mb1 j < 4096) ∧ (∀ j, tg1 j < 4096) ∧ (∀ j, sr1 j < 4096) ∧ (∀ j, sta1 j < 4096) ∧ ∀ j, en1 j < 4096) ∧ s_fok tg1 sr1 sta1 en1 ∧ s_chg mb tg mb1 tg1 X A Bv h := by
  obtain ⟨l1, l2, l3, l4, l5⟩ := hl
  unfold f_fput at hp
  cases hro : ro with
  | true =>
    obtain ⟨e1, e2, e3⟩ := hr hro
    rw [if_pos hro, e3] at hp
    obtain ⟨rfl, hp⟩ := hp
    have hp : s_put tg sr sta en x' A Bv h tg1 sr1 sta1 en1 := hp
    have := s_put_lt hA hB l2 l3 l4 l5 hp
    exact ⟨⟨l1, this⟩, s_put_ok e2 hA hB l2 l3 l4 l5 hok hp, by rw [e1]; exact s_chg_r hA hB l2 hp.1⟩
  | false =>
    obtain ⟨e1, e2, e3⟩ := hc hro
    rw [if_neg (by rw [hro]; decide)] at hp
    obtain ⟨rfl, rfl, rfl, rfl, rfl⟩ := hp
    refine ⟨⟨s_up_lt l1 hA, l2, l3, l4, l5⟩, hok, ?_⟩
    rw [e1, e3]; exact s_chg_c e2 hA l1 rfl
def Lsame (qs : Nat) (bkn : Bool) (se : Nat → Bool) (mb tg sr sta en mb1 tg1 sr1 sta1 en1 : Nat → Nat) (bkn1 : Bool) (se1 : Nat → Bool) : Prop := (mb1 = mb ∧ tg1 = tg ∧ sr1 = sr ∧ sta1 = sta ∧ en1 = en ∧ bkn1 = bkn ∧ se1 = se) ∨ (bkn1 = false ∧ ∀ k, k < qs → se1 k = false)
theorem L_cut {qs : Nat} {se : Nat → Bool} : ∀ k, k < qs → f_cut se qs k = false := fun k hk => by unfold f_cut; rw [if_pos hk]
theorem L_fct {ro : Bool} {x a b r r' : Int32} {qs fs fs1 fc1 : Nat} {mb tg sr sta en mb1 tg1 sr1 sta1 en1 fn fo ft fn1 fo1 ft1 : Nat → Nat} {bkn bkn1 : Bool} {se se1 : Nat → Bool} (hF : LF fs mb tg sr sta en fn fo ft) (h : s_kfct ro x a b qs fs mb tg sr sta en bkn se r fs1 mb1 tg1 sr1 sta1 en1 bkn1 se1) (h' : s_fct ro x a b fs fn fo ft r' fc1 fn1 fo1 ft1) : r = r' ∧ fc1 = fs1 ∧ LF fs1 mb1 tg1 sr1 sta1 en1 fn1 fo1 ft1 ∧ Lsame qs bkn se mb tg sr sta en mb1 tg1 sr1 sta1 en1 bkn1 se1 := by
  unfold s_kfct at h
  rw [fact_eq] at h
  obtain ⟨F1, F2, F3, F4, F5, F6, F7⟩ := hF
  rcases h with ⟨c1, rfl, rfl, rfl, rfl, rfl, rfl, rfl, rfl, rfl⟩ | ⟨c1, x', a', hx, ha, ex, ea, hb, h⟩ <;> rcases h' with ⟨d1, rfl, rfl, rfl, rfl, rfl⟩ | ⟨d1, X, A, Bv, hf, o, ho, h'⟩
  · exact ⟨rfl, rfl, ⟨F1, F2, F3, F4, F5, F6, F7⟩, Or.inl ⟨rfl, rfl, rfl, rfl, rfl, rfl, rfl⟩⟩
  · rw [c1] at d1; cases d1
  · rw [c1] at d1; cases d1
  · obtain ⟨v1, v2, v3, v4, v5, v6, v7⟩ := L_fx (mb := mb) (tg := tg) hx ha ex ea hb hf
    have hno := s_rel_has F4 v1 v2 v3 ho
    subst v4
    rcases h with ⟨g1, rfl, rfl, rfl, rfl, rfl, rfl, rfl, rfl, rfl⟩ | ⟨g1, g2, rfl, rfl, rfl, rfl, rfl, rfl, rfl, rfl, rfl⟩ | ⟨g1, g2, rfl, rfl, hp, rfl, rfl⟩ <;> rcases h' with ⟨k1, rfl, rfl, rfl, rfl, rfl⟩ | ⟨k1, k2, rfl, rfl, rfl, rfl, rfl⟩ | ⟨k1, k2, rfl, rfl, rfl, rfl, rfl⟩
    · exact ⟨rfl, rfl, ⟨F1, F2, F3, F4, F5, F6, F7⟩, Or.inl ⟨rfl, rfl, rfl, rfl, rfl, rfl, rfl⟩⟩
    · exact absurd (v5.mp g1) (hno.mp k1)
    · exact absurd (v5.mp g1) (hno.mp k1)
    · exact absurd (hno.mpr (fun h => by rw [v5.mpr h] at g1; cases g1)) k1
    · exact ⟨rfl, rfl, ⟨F1, F2, F3, F4, F5, F6, F7⟩, Or.inl ⟨rfl, rfl, rfl, rfl, rfl, rfl, rfl⟩⟩
    · omega
    · exact absurd (hno.mpr (fun h => by rw [v5.mpr h] at g1; cases g1)) k1
    · omega
    · obtain ⟨p1, p2, p3⟩ := L_put F2 F3 v2 v3 v6 v7 hp
      refine ⟨rfl, rfl, ⟨by omega, p1, p2, s_rel_add F4 v1 v2 v3 (hno.mp k1) p3, up_lt F5 (by unfold s_val at v1; omega), up_lt F6 v2, up_lt F7 v3⟩, Or.inr ⟨rfl, L_cut⟩⟩
theorem L_fgt {ro : Bool} {x a b r r' : Int32} {qs fs fs1 fc1 : Nat} {mb tg sr sta en mb1 tg1 sr1 sta1 en1 fn fo ft fn1 fo1 ft1 : Nat → Nat} {bkn bkn1 : Bool} {se se1 : Nat → Bool} (hF : LF fs mb tg sr sta en fn fo ft) (h : s_kfgt ro x a b qs fs mb tg sr sta en bkn se r fs1 mb1 tg1 sr1 sta1 en1 bkn1 se1) (h' : s_fgt ro x a b fs fn fo ft r' fc1 fn1 fo1 ft1) : r = r' ∧ fc1 = fs1 ∧ LF fs1 mb1 tg1 sr1 sta1 en1 fn1 fo1 ft1 ∧ Lsame qs bkn se mb tg sr sta en mb1 tg1 sr1 sta1 en1 bkn1 se1 := by
  unfold s_kfgt at h
  rw [fact_eq] at h
  obtain ⟨F1, F2, F3, F4, F5, F6, F7⟩ := hF
  rcases h with ⟨c1, rfl, rfl, rfl, rfl, rfl, rfl, rfl, rfl, rfl⟩ | ⟨c1, x', a', hx, ha, ex, ea, hb, h⟩ <;> rcases h' with ⟨d1, rfl, rfl, rfl, rfl, rfl⟩ | ⟨d1, X, A, Bv, hf, h'⟩
  · exact ⟨rfl, rfl, ⟨F1, F2, F3, F4, F5, F6, F7⟩, Or.inl ⟨rfl, rfl, rfl, rfl, rfl, rfl, rfl⟩⟩
  · rw [c1] at d1; cases d1
  · rw [c1] at d1; cases d1
  · obtain ⟨v1, v2, v3, v4, v5, v6, v7⟩ := L_fx (mb := mb) (tg := tg) hx ha ex ea hb hf
    subst v4
    rcases h with ⟨g1, rfl, rfl, rfl, rfl, rfl, rfl, rfl, rfl, rfl⟩ | ⟨g1, rfl, rfl, hp, rfl, rfl⟩ <;> rcases h' with ⟨k1, rfl, rfl, rfl, rfl, rfl⟩ | ⟨k, k1, rfl, rfl, rfl, rfl, rfl⟩
    · exact ⟨rfl, rfl, ⟨F1, F2, F3, F4, F5, F6, F7⟩, Or.inl ⟨rfl, rfl, rfl, rfl, rfl, rfl, rfl⟩⟩
    · have hb2 := (F4.2.1 _ _ _ v1 v2 v3).mpr ⟨k, k1.1, k1.2.1⟩
      rw [v5.mpr hb2] at g1; cases g1
    · exact absurd (v5.mp g1) ((s_rel_has F4 v1 v2 v3 k1).mp rfl)
    · obtain ⟨p1, p2, p3⟩ := L_put F2 F3 v2 v3 v6 v7 hp
      have hk := k1.1
      refine ⟨rfl, rfl, ⟨by omega, p1, p2, s_rel_del F4 k1.1 k1.2.1 p3, up_lt F5 (F5 _), up_lt F6 (F6 _), up_lt F7 (F7 _)⟩, Or.inr ⟨rfl, L_cut⟩⟩
theorem L_hpos {ro : Bool} {x a b : Int32} {fs : Nat} {mb tg sr sta en fn fo ft : Nat → Nat} (hF : LF fs mb tg sr sta en fn fo ft) : s_hpos ro x a b mb tg fs := by
  intro x' a' hx ha hb ex ea h
  have hp : ∃ X A Bv, s_fx ro x a b X A Bv := by
    cases hr : ro with
    | true =>
      rw [if_pos hr] at hx
      obtain ⟨j, hj, ej⟩ := hb hr
      exact ⟨_, _, _, Or.inl ⟨rfl, x', a', j, hx, ha, hj, ex, ea, ej, rfl, rfl, rfl⟩⟩
    | false =>
      rw [if_neg (by rw [hr]; decide)] at hx
      exact ⟨_, _, _, Or.inr ⟨rfl, x', a', hx, ha, ex, ea, rfl, rfl, rfl⟩⟩
  obtain ⟨X, A, Bv, hf⟩ := hp
  obtain ⟨v1, v2, v3, v4, v5, v6, v7⟩ := L_fx (mb := mb) (tg := tg) hx ha ex ea hb hf
  obtain ⟨k, hk, _⟩ := (hF.2.2.2.1.2.1 X A Bv v1 v2 v3).mp (v5.mp h)
  omega
theorem L_fct_C {qs na : Nat} {kd lf rg mb tg sr sta en mb1 tg1 sr1 sta1 en1 an on sz : Nat → Nat} {onm opl rs : Nat → Nat → Nat} {lg rwn se se1 : Nat → Bool} {fd : Nat → Nat → Option Nat} {bkn bkn1 : Bool} {brk : Int32} (hC : LC qs na kd lf rg mb tg sr sta en an on onm opl rs sz lg rwn se fd) (hB : LB na kd lf rg mb tg sr sta en bkn brk) (h : Lsame qs bkn se mb tg sr sta en mb1 tg1 sr1 sta1 en1 bkn1 se1) : LC qs na kd lf rg mb1 tg1 sr1 sta1 en1 an on onm opl rs sz lg rwn se1 fd ∧ LB na kd lf rg mb1 tg1 sr1 sta1 en1 bkn1 brk := by
  rcases h with ⟨rfl, rfl, rfl, rfl, rfl, rfl, rfl⟩ | ⟨rfl, h2⟩
  · exact ⟨hC, hB⟩
  · refine ⟨⟨hC.1, fun k hk hr => ?_⟩, fun h => by cases h⟩
    obtain ⟨a, b, _⟩ := hC.2 k hk hr
    exact ⟨a, b, fun h => by rw [h2 k hk] at h; cases h⟩
/-! Questions -/
theorem up_k {α : Type} {f : Nat → α} {q k : Nat} {x : α} {P : Nat → α → Prop} (h : P q x) (h2 : k ≠ q → P k (f k)) : P k (va_up f q x k) := by
  by_cases e : k = q
  · rw [e, up_s]; exact h
  · rw [up_n _ _ e]; exact h2 e
theorem L_qst {x r' : Int32} {qs qs1 : Nat} {qa qn qa1 qn1 : Nat → Nat} (hq : qs ≤ 6) (h' : s_quest x qs qa qn r' qs1 qa1 qn1) : (¬ (p_below x 3 = true ∧ qs < 6) → ((p_below x 3 = false ∧ r' = -1) ∨ (p_below x 3 = true ∧ qs = 6 ∧ r' = -2)) ∧ qs1 = qs ∧ qa1 = qa ∧ qn1 = qn) ∧ ∀ v, x = nI v → v < 3 → qs < 6 → r' = nI qs ∧ qs1 = qs + 1 ∧ qa1 = va_up qa qs v ∧ qn1 = va_up qn qs 0 := by
  have e : p_below x 3 = m_in x (nI 0) (nI 2) := below_in (n := 2) (by decide)
  rcases h' with ⟨c, rfl, rfl, rfl, rfl⟩ | ⟨c, d, rfl, rfl, rfl, rfl⟩ | ⟨d, j, hj, ej, rfl, rfl, rfl, rfl⟩
  · refine ⟨fun _ => ⟨Or.inl ⟨by rw [e]; exact c, rfl⟩, rfl, rfl, rfl⟩, fun v ev hv _ => ?_⟩
    rw [← e, ev, p_below_n (by decide) hv] at c; cases c
  · exact ⟨fun _ => ⟨Or.inr ⟨by rw [e]; exact c, d, rfl⟩, rfl, rfl, rfl⟩, fun v ev hv h6 => by omega⟩
  · refine ⟨fun h => absurd ⟨by rw [ej]; exact p_below_n (by decide) (by omega), by omega⟩ h, fun v ev hv _ => ?_⟩
    have : v = j := (nI_eq (by omega) (by omega)).mp (ev.symm.trans ej)
    subst this
    exact ⟨rfl, rfl, rfl, rfl⟩
theorem L_qst_Q {qs v : Nat} {an on qa qn qx qy qz : Nat → Nat} {onm opl : Nat → Nat → Nat} (h : LQ qs an on onm opl qa qn qx qy qz) (h6 : qs < 6) (hv : v < 3) : LQ (qs + 1) (va_up an qs v) (va_up on qs 0) onm opl (va_up qa qs v) (va_up qn qs 0) qx qy qz := by
  obtain ⟨h1, ⟨q1, q2, q3, q4, q5⟩, h3, h4⟩ := h
  refine ⟨by omega, ⟨fun j => ?_, fun j => ?_, q3, q4, q5⟩, fun k hk => ?_, fun k hk => ?_⟩
  · by_cases e : j = qs
    · rw [e, up_s]; omega
    · rw [up_n _ _ e]; exact q1 j
  · by_cases e : j = qs
    · rw [e, up_s]; omega
    · rw [up_n _ _ e]; exact q2 j
  · by_cases e : k = qs
    · rw [e, up_s, up_s]; exact ⟨⟨by omega, (h3 qs h6).1.2⟩, by omega⟩
    · rw [up_n _ _ e, up_n _ _ e]; exact h3 k hk
  · by_cases e : k = qs
    · rw [e, up_s, up_s, up_s, up_s]
      exact ⟨rfl, rfl, ⟨by omega, fun j hj => absurd hj (Nat.not_lt_zero j)⟩, fun j hj => absurd hj (Nat.not_lt_zero j)⟩
    · rw [up_n _ _ e, up_n _ _ e, up_n _ _ e, up_n _ _ e]; exact h4 k (by omega)
theorem L_qst_C {qs na v : Nat} {kd lf rg mb tg sr sta en an on sz : Nat → Nat} {onm opl rs : Nat → Nat → Nat} {lg rwn se : Nat → Bool} {fd : Nat → Nat → Option Nat} (hC : LC qs na kd lf rg mb tg sr sta en an on onm opl rs sz lg rwn se fd) : LC (qs + 1) na kd lf rg mb tg sr sta en (va_up an qs v) (va_up on qs 0) onm opl rs sz lg (va_up rwn qs false) se fd := by
  refine ⟨hC.1, fun k hk hr => ?_⟩
  by_cases e : k = qs
  · rw [e, up_s] at hr; cases hr
  · rw [up_n _ _ e] at hr
    rw [up_n _ _ e, up_n _ _ e]
    exact hC.2 k (by omega) hr
theorem m_qn_up {qx : Nat → Nat} {q k : Nat} {n x : Nat} (hn : n < 4) (h : q ≠ k) : ∀ j, j < 4 → va_up qx (4 * q + n) x (4 * k + j) = qx (4 * k + j) := fun j hj => up_n _ _ (by omega)
theorem L_qst_M {qs na md fcn v : Nat} {kd lf rg qa qn qx qy qz pp pa pb ndM le rq fe pk zs cs : Nat → Nat} {hs bd : Nat → Option Nat} {lgM : Bool} {hd : Option Nat} (hM : LM qs na kd lf rg qa qn qx qy qz md pp pa pb ndM le rq fe pk zs cs hs fcn lgM hd bd) : LM (qs + 1) na kd lf rg (va_up qa qs v) (va_up qn qs 0) qx qy qz md pp pa pb ndM le rq fe pk zs cs hs fcn lgM hd bd := by
  refine ⟨hM.1, hM.2.1, hM.2.2.1, hM.2.2.2.1, hM.2.2.2.2.1, fun q h => ?_⟩
  obtain ⟨h1, h2⟩ := hM.2.2.2.2.2 q h
  refine ⟨by omega, ?_⟩
  unfold m_han at h2 ⊢
  rw [up_n _ _ (show q ≠ qs by omega), up_n _ _ (show q ≠ qs by omega)]
  exact h2
theorem L_clr {qs na md fcn : Nat} {kd lf rg qa qn qx qy qz pp pa pb ndM le rq fe pk zs cs : Nat → Nat} {hs bd : Nat → Option Nat} {lgM : Bool} {hd : Option Nat} (hM : LM qs na kd lf rg qa qn qx qy qz md pp pa pb ndM le rq fe pk zs cs hs fcn lgM hd bd) : LM 0 na kd lf rg qa qn qx qy qz md pp pa pb ndM le rq fe pk zs cs hs fcn lgM none bd := ⟨hM.1, hM.2.1, hM.2.2.1, hM.2.2.2.1, hM.2.2.2.2.1, fun q h => by cases h⟩
/-! Asking -/
theorem L_v8 (an v : Nat) (hv : v < 8) : c_rho (m_v8 an v) = m_v10 an v := by
  unfold m_v8 m_v10
  split
  · unfold c_rho; rw [if_pos hv]
  · unfold c_rho; rw [if_neg (by omega), if_pos (by omega)]; omega
theorem L_ren {qs k : Nat} {an on qa qn qx qy qz : Nat → Nat} {onm opl : Nat → Nat → Nat} (h : LQ qs an on onm opl qa qn qx qy qz) (hk : k < qs) : f_same (qn k) (m_qn qx k) (m_qp qx qy qz (qa k) k) (onm k) (fun j => c_rho (opl k j)) := by
  obtain ⟨_, _, h3, h4⟩ := h.2.2.2 k hk
  intro j hj
  obtain ⟨a, b, c⟩ := h4 j hj
  obtain ⟨g1, g2, g3, g4⟩ := h3.2 j hj
  refine ⟨a.symm, ?_, ?_⟩
  · show _ = c_rho (opl k (2 * j))
    rw [b]
    unfold m_qp m_qp8
    rw [m_pv_e, m_pv_e]; exact (L_v8 _ _ g2).symm
  · show _ = c_rho (opl k (2 * j + 1))
    rw [c]
    unfold m_qp m_qp8
    rw [m_pv_o, m_pv_o]
    by_cases e : qx (4 * k + j) < 32
    · simp only [if_pos e]; rfl
    · simp only [if_neg e]; exact (L_v8 _ _ g3).symm
theorem L_st {qs k na : Nat} {kd lf rg an on qa qn qx qy qz : Nat → Nat} {onm opl : Nat → Nat → Nat} {st st' : List Nat × Bool} (h : LQ qs an on onm opl qa qn qx qy qz) (hk : k < qs) (hc : b_rel na kd lf rg (c_set (onm k) (opl k) (on k)) false st) (hm : b_rel na kd lf rg (c_set (m_qn qx k) (m_qp qx qy qz (qa k) k) (qn k)) false st') : st = st' := by
  obtain ⟨_, e, _, _⟩ := h.2.2.2 k hk
  rw [e] at hc
  exact b_rel_eq (b_rel_ren (L_ren h hk) hc) hm
theorem L_fok {qs k : Nat} {an on qa qn qx qy qz : Nat → Nat} {onm opl : Nat → Nat → Nat} (h : LQ qs an on onm opl qa qn qx qy qz) (hk : k < qs) : c_fok (an k) false (onm k) (opl k) (on k) := by
  obtain ⟨e1, e2, h3, h4⟩ := h.2.2.2 k hk
  rw [e1, e2]
  refine c_fok_sm h4 ⟨h3.1, h.2.1.1 k, fun h => (by cases h), fun j hj => ?_⟩
  obtain ⟨g1, g2, g3, g4⟩ := h3.2 j hj
  have hv : ∀ v, v < 8 → c_vok (qa k) false (m_v8 (qa k) v) := fun v hv => by
    unfold m_v8 c_vok
    have := h.2.1.1 k
    split
    · exact ⟨by omega, fun h => (by omega), fun h => ⟨by omega, rfl⟩⟩
    · exact ⟨by omega, fun h => (by omega), fun h => (by omega)⟩
  unfold m_qp8
  rw [m_at]
  refine ⟨?_, hv _ g2⟩
  rcases g1 with g1 | g1
  · exact Or.inl ⟨g1, by show (if qx (4 * k + j) < 32 then 7 else _) = 7; rw [if_pos (by omega)]⟩
  · refine Or.inr ⟨g1.1, g1.2, ?_⟩
    show c_vok _ _ (if qx (4 * k + j) < 32 then 7 else m_v8 (qa k) (qz (4 * k + j)))
    rw [if_neg (by omega)]; exact hv _ g3
theorem L_FD {fs an w j : Nat} {mb tg sr sta en fn fo ft : Nat → Nat} (hF : LF fs mb tg sr sta en fn fo ft) (hw : c_rok an w) : f_finds mb tg sr sta en an w j ↔ m_fd fn fo ft fs an w j := by
  obtain ⟨_, ⟨l1, l2, l3, l4, l5⟩, F3, F4, _⟩ := hF
  exact s_same l1 l4 F3 F4 hw
