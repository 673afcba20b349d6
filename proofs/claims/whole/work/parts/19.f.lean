def d_cd (r i : Nat) : Nat := r / 2 ^ (12 * (3 - i)) % 4096
def d_nm (r i : Nat) : Nat := d_cd r i / 64
def d_pl (r k : Nat) : Nat := if k % 2 = 0 then d_cd r (k / 2) / 8 % 8 else d_cd r (k / 2) % 8
def d_n (r : Nat) : Nat := min (r / 2 ^ 48 % 8) 4
def d_j (r : Nat) : Bool := decide (r / 2 ^ 51 % 2 = 1)
def f_same (n : Nat) (nm pl nm' pl' : Nat → Nat) : Prop := ∀ i, i < n → nm i = nm' i ∧ pl (2 * i) = pl' (2 * i) ∧ pl (2 * i + 1) = pl' (2 * i + 1)
theorem f_same_rd {r n : Nat} {nm pl : Nat → Nat} (h : f_rd r nm pl n) : f_same n nm pl (d_nm r) (d_pl r) := by
  intro i hi
  obtain ⟨a, b, c⟩ := h i hi
  refine ⟨a, ?_, ?_⟩
  · rw [b, d_pl, if_pos (by omega), show 2 * i / 2 = i by omega]; rfl
  · rw [c, d_pl, if_neg (by omega), show (2 * i + 1) / 2 = i by omega]; rfl
theorem f_same_pl {n : Nat} {nm pl nm' pl' : Nat → Nat} (h : f_same n nm pl nm' pl') : ∀ j, j < 2 * n → pl j = pl' j := by
  intro j hj
  rcases (show j % 2 = 0 ∨ j % 2 = 1 by omega) with h1 | h1
  · have := (h (j / 2) (by omega)).2.1; rw [show 2 * (j / 2) = j by omega] at this; exact this
  · have := (h (j / 2) (by omega)).2.2; rw [show 2 * (j / 2) + 1 = j by omega] at this; exact this
theorem f_cnt_cg {pl pl' : Nat → Nat} {v : Nat} : ∀ {k : Nat}, (∀ j, j < k → pl j = pl' j) → f_cnt pl v k = f_cnt pl' v k := by
  intro k
  induction k with
  | zero => intro _; rfl
  | succ k ih => intro h; simp only [f_cnt]; rw [ih (fun j hj => h j (by omega)), h k (by omega)]
theorem f_fit_sm {n : Nat} {nm pl nm' pl' mb tg sr sta en : Nat → Nat} (h : f_same n nm pl nm' pl') (tv : Nat → Option Nat) (v : Nat) {i : Nat} (hi : i < n) (t : Nat) : f_fit nm pl mb tg sr sta en tv v i t = f_fit nm' pl' mb tg sr sta en tv v i t := by
  obtain ⟨a, b, c⟩ := h i hi
  unfold f_fit
  rw [a, b, c]
theorem f_comp_sm {n : Nat} {nm pl nm' pl' mb tg sr sta en : Nat → Nat} (h : f_same n nm pl nm' pl') : ∀ (d v : Nat) (tv : Nat → Option Nat), f_comp nm pl mb tg sr sta en n d v tv ↔ f_comp nm' pl' mb tg sr sta en n d v tv := by
  intro d
  induction d with
  | zero => intro v tv; exact Iff.rfl
  | succ d ih =>
    intro v tv
    simp only [f_comp]
    rw [f_cnt_cg (f_same_pl h)]
    refine or_congr Iff.rfl (exists_congr fun t => and_congr Iff.rfl (and_congr ⟨fun h1 i hi => ?_, fun h1 i hi => ?_⟩ (ih _ _)))
    · rw [← f_fit_sm h tv v hi t]; exact h1 i hi
    · rw [f_fit_sm h tv v hi t]; exact h1 i hi
theorem f_all_sm {n : Nat} {nm pl nm' pl' mb tg sr sta en : Nat → Nat} (h : f_same n nm pl nm' pl') (tv : Nat → Option Nat) (v t : Nat) : (∀ i, i < n → f_fit nm pl mb tg sr sta en tv v i t = true) ↔ ∀ i, i < n → f_fit nm' pl' mb tg sr sta en tv v i t = true := by
  refine ⟨fun h1 i hi => ?_, fun h1 i hi => ?_⟩
  · rw [← f_fit_sm h tv v hi t]; exact h1 i hi
  · rw [f_fit_sm h tv v hi t]; exact h1 i hi
theorem f_col_sm {n an : Nat} {jn : Bool} {nm pl nm' pl' mb tg sr sta en : Nat → Nat} (h : f_same n nm pl nm' pl') (a b : Nat) : f_col nm pl mb tg sr sta en n an jn a b ↔ f_col nm' pl' mb tg sr sta en n an jn a b := by
  unfold f_col f_cok f_sec
  rw [f_cnt_cg (f_same_pl h), f_cnt_cg (v := 1) (f_same_pl h), f_all_sm h, f_all_sm h, f_comp_sm h]
theorem f_ne_sm {n : Nat} {nm pl nm' pl' mb sta : Nat → Nat} (h : f_same n nm pl nm' pl') : (∀ i, i < n → f_ne nm mb sta i) ↔ ∀ i, i < n → f_ne nm' mb sta i := by
  refine ⟨fun h1 i hi => ?_, fun h1 i hi => ?_⟩
  · have := h1 i hi; unfold f_ne at *; rw [(h i hi).1] at this; exact this
  · have := h1 i hi; unfold f_ne at *; rw [(h i hi).1]; exact this
theorem f_nok_rd {r n : Nat} {nm pl : Nat → Nat} (h : f_rd r nm pl n) (h2 : f_nok (d_nm r) n) : f_nok nm n := by
  intro j hj
  rw [(f_same_rd h j hj).1]; exact h2 j hj
/-- what the form of row r finds in the facts -/
def f_finds (mb tg sr sta en : Nat → Nat) (an r j : Nat) : Prop := (∀ i, i < d_n r → f_ne (d_nm r) mb sta i) ∧ (if an = 0 then j = 0 ∧ f_comp (d_nm r) (d_pl r) mb tg sr sta en (d_n r) 4 2 (fun _ => none) else j / 16 < 12 ∧ j % 16 < 12 ∧ f_col (d_nm r) (d_pl r) mb tg sr sta en (d_n r) an (d_j r) (j / 16) (j % 16))
def f_srch (F : Nat → Nat → Prop) (k : Nat) (fd : Nat → Option Nat) : Prop := ∀ j, (fd j = none ↔ ∀ i, i < k → ¬ F i j) ∧ ∀ i, fd j = some i → i < k ∧ F i j ∧ ∀ i', i' < i → ¬ F i' j
theorem f_srch_0 (F : Nat → Nat → Prop) : f_srch F 0 (fun _ => none) := fun j => ⟨⟨fun _ i hi => absurd hi (Nat.not_lt_zero i), fun _ => rfl⟩, fun i h => by cases h⟩
theorem f_srch_s {F : Nat → Nat → Prop} {i : Nat} {fd fd1 : Nat → Option Nat} (h : f_srch F i fd) (h1 : ∀ j, fd j ≠ none → fd1 j = fd j) (h2 : ∀ j, fd j = none → (F i j → fd1 j = some i) ∧ (¬ F i j → fd1 j = none)) : f_srch F (i + 1) fd1 := by
  intro j
  by_cases h0 : fd j = none
  · by_cases hF : F i j
    · have e := (h2 j h0).1 hF
      refine ⟨⟨fun h3 => (by rw [e] at h3; cases h3), fun h3 => absurd hF (h3 i (by omega))⟩, fun q hq => ?_⟩
      rw [e] at hq; cases hq
      exact ⟨by omega, hF, fun i' hi' => (h j).1.mp h0 i' hi'⟩
    · have e := (h2 j h0).2 hF
      refine ⟨⟨fun _ q hq => ?_, fun _ => e⟩, fun q hq => by rw [e] at hq; cases hq⟩
      by_cases hqi : q = i
      · subst hqi; exact hF
      · exact (h j).1.mp h0 q (by omega)
  · have e := h1 j h0
    rw [e]
    refine ⟨⟨fun h3 => absurd h3 h0, fun h3 => (h j).1.mpr (fun q hq => h3 q (by omega))⟩, fun q hq => ?_⟩
    obtain ⟨a, b, c⟩ := (h j).2 q hq
    exact ⟨by omega, b, c⟩
theorem f_srch_col {mb tg sr sta en : Nat → Nat} {an i r n : Nat} {jn : Bool} {nm pl : Nat → Nat} {F : Nat → Nat → Prop} {fd fd1 : Nat → Option Nat} (h : f_srch F i fd) (hF : ∀ j, F i j ↔ f_finds mb tg sr sta en an r j) (han : 0 < an) (hn : n = d_n r) (hj : jn = d_j r) (hrd : f_rd r nm pl n) (hne : ∀ q, q < n → f_ne nm mb sta q) (hc : f_colr (f_col nm pl mb tg sr sta en n an jn) i fd fd1) : f_srch F (i + 1) fd1 := by
  subst hn; subst hj
  have hs := f_same_rd hrd
  have hF2 : ∀ j, F i j ↔ j / 16 < 12 ∧ j % 16 < 12 ∧ f_col nm pl mb tg sr sta en (d_n r) an (d_j r) (j / 16) (j % 16) := by
    intro j
    rw [hF j]
    unfold f_finds
    rw [if_neg (by omega), f_col_sm hs]
    exact ⟨fun h => h.2, fun h => ⟨(f_ne_sm hs).mp hne, h⟩⟩
  exact f_srch_s h (fun j h0 => (hc j).1 h0) (fun j h0 => ⟨fun h1 => ((hc j).2 h0).1 ((hF2 j).mp h1), fun h1 => ((hc j).2 h0).2 (fun h2 => h1 ((hF2 j).mpr h2))⟩)
theorem f_srch_no {mb tg sr sta en : Nat → Nat} {an i r n : Nat} {nm pl : Nat → Nat} {F : Nat → Nat → Prop} {fd : Nat → Option Nat} (h : f_srch F i fd) (hF : ∀ j, F i j ↔ f_finds mb tg sr sta en an r j) (hn : n = d_n r) (hrd : f_rd r nm pl n) (hne : ¬ ∀ q, q < n → f_ne nm mb sta q) : f_srch F (i + 1) fd := by
  subst hn
  exact f_srch_s h (fun j _ => rfl) (fun j h0 => ⟨fun h1 => absurd ((f_ne_sm (f_same_rd hrd)).mpr ((hF j).mp h1).1) hne, fun _ => h0⟩)
theorem f_srch_z {mb tg sr sta en : Nat → Nat} {an i r n : Nat} {nm pl : Nat → Nat} {F : Nat → Nat → Prop} {fd : Nat → Option Nat} {b : Bool} (h : f_srch F i fd) (hF : ∀ j, F i j ↔ f_finds mb tg sr sta en an r j) (han : an = 0) (hn : n = d_n r) (hrd : f_rd r nm pl n) (hne : ∀ q, q < n → f_ne nm mb sta q) (h0 : fd 0 = none) (hb : b = true ↔ f_comp nm pl mb tg sr sta en n 4 2 (fun _ => none)) : (b = true → f_srch F (i + 1) (va_up fd 0 (some i))) ∧ (b = false → f_srch F (i + 1) fd) := by
  subst hn
  have hs := f_same_rd hrd
  have hF2 : ∀ j, F i j ↔ j = 0 ∧ b = true := by
    intro j
    rw [hF j, hb, f_comp_sm hs]
    unfold f_finds
    rw [if_pos han]
    exact ⟨fun h => h.2, fun h => ⟨(f_ne_sm hs).mp hne, h⟩⟩
  refine ⟨fun hb1 => f_srch_s h (fun j h1 => ?_) (fun j h1 => ⟨fun h2 => ?_, fun h2 => ?_⟩), fun hb1 => f_srch_s h (fun j _ => rfl) (fun j h1 => ⟨fun h2 => ?_, fun _ => h1⟩)⟩
  · rw [up_n]; intro h2; rw [h2] at h1; exact h1 h0
  · rw [((hF2 j).mp h2).1, up_s]
  · by_cases hj : j = 0
    · exact absurd ((hF2 j).mpr ⟨hj, hb1⟩) h2
    · rw [up_n _ _ hj]; exact h1
  · have := ((hF2 j).mp h2).2; rw [hb1] at this; cases this
theorem f_srch_k {mb tg sr sta en : Nat → Nat} {an i r : Nat} {F : Nat → Nat → Prop} {fd : Nat → Option Nat} (h : f_srch F i fd) (hF : ∀ j, F i j ↔ f_finds mb tg sr sta en an r j) (han : an = 0) (h0 : ¬ fd 0 = none) : f_srch F (i + 1) fd := by
  refine f_srch_s h (fun j _ => rfl) (fun j h1 => ⟨fun h2 => ?_, fun _ => h1⟩)
  have h3 := ((hF j).mp h2).2
  rw [if_pos han] at h3
  rw [h3.1] at h1; exact absurd h1 h0
theorem f_srch_lt {F : Nat → Nat → Prop} {k : Nat} {fd : Nat → Option Nat} (h : f_srch F k fd) : ∀ j m, fd j = some m → m < k := fun j m hm => ((h j).2 m hm).1
abbrev cX2_search : ByteArray := prog_4_method_2_code
def yX2_search : MethodName := ⟨RX2, "search", "(LQlRewrite$Question;)V"⟩
def wkX2_search : List Cond := .code yX2_search cX2_search 3 none :: qW
set_option maxRecDepth 40000 in
theorem gkX2_search : GoodIn qW wkX2_search := q_good (qw 493 rfl rfl)
set_option maxRecDepth 40000 in
theorem knX2_search : Cond.instanceMethod yX2_search ∈ qW := qw 491 rfl rfl
set_option maxRecDepth 40000 in
theorem klX2_search : Cond.selects RX2 yX2_search yX2_search ∈ qW := qw 492 rfl rfl
theorem dX2_search_0 : decode cX2_search 0 = .ok (.aload_n 1, 1) := by decide +kernel
theorem dX2_search_1 : decode cX2_search 1 = .ok (.getfield 26, 3) := by decide +kernel
theorem dX2_search_4 : decode cX2_search 4 = .ok (.iconst (-1), 1) := by decide +kernel
theorem dX2_search_5 : decode cX2_search 5 = .ok (.invokestatic 31, 3) := by decide +kernel
theorem dX2_search_8 : decode cX2_search 8 = .ok (.iconst 0, 1) := by decide +kernel
theorem dX2_search_9 : decode cX2_search 9 = .ok (.istore_n 2, 1) := by decide +kernel
theorem dX2_search_10 : decode cX2_search 10 = .ok (.iload_n 2, 1) := by decide +kernel
theorem dX2_search_11 : decode cX2_search 11 = .ok (.aload_n 1, 1) := by decide +kernel
theorem dX2_search_12 : decode cX2_search 12 = .ok (.getfield 37, 3) := by decide +kernel
theorem dX2_search_15 : decode cX2_search 15 = .ok (.if_icmp .ge 81, 3) := by decide +kernel
theorem dX2_search_18 : decode cX2_search 18 = .ok (.aload_n 0, 1) := by decide +kernel
theorem dX2_search_19 : decode cX2_search 19 = .ok (.getfield 12, 3) := by decide +kernel
theorem dX2_search_22 : decode cX2_search 22 = .ok (.aload_n 1, 1) := by decide +kernel
theorem dX2_search_23 : decode cX2_search 23 = .ok (.getfield 41, 3) := by decide +kernel
theorem dX2_search_26 : decode cX2_search 26 = .ok (.iload_n 2, 1) := by decide +kernel
theorem dX2_search_27 : decode cX2_search 27 = .ok (.laload, 1) := by decide +kernel
theorem dX2_search_28 : decode cX2_search 28 = .ok (.invokevirtual 45, 3) := by decide +kernel
theorem dX2_search_31 : decode cX2_search 31 = .ok (.aload_n 0, 1) := by decide +kernel
theorem dX2_search_32 : decode cX2_search 32 = .ok (.getfield 18, 3) := by decide +kernel
theorem dX2_search_35 : decode cX2_search 35 = .ok (.iconst (-1), 1) := by decide +kernel
theorem dX2_search_36 : decode cX2_search 36 = .ok (.invokestatic 31, 3) := by decide +kernel
theorem dX2_search_39 : decode cX2_search 39 = .ok (.aload_n 0, 1) := by decide +kernel
theorem dX2_search_40 : decode cX2_search 40 = .ok (.invokevirtual 49, 3) := by decide +kernel
theorem dX2_search_43 : decode cX2_search 43 = .ok (.ifCond .ne 6, 3) := by decide +kernel
theorem dX2_search_46 : decode cX2_search 46 = .ok (.goto 44, 3) := by decide +kernel
theorem dX2_search_49 : decode cX2_search 49 = .ok (.aload_n 1, 1) := by decide +kernel
theorem dX2_search_50 : decode cX2_search 50 = .ok (.getfield 53, 3) := by decide +kernel
theorem dX2_search_53 : decode cX2_search 53 = .ok (.ifCond .le 12, 3) := by decide +kernel
theorem dX2_search_56 : decode cX2_search 56 = .ok (.aload_n 0, 1) := by decide +kernel
theorem dX2_search_57 : decode cX2_search 57 = .ok (.aload_n 1, 1) := by decide +kernel
theorem dX2_search_58 : decode cX2_search 58 = .ok (.iload_n 2, 1) := by decide +kernel
theorem dX2_search_59 : decode cX2_search 59 = .ok (.invokevirtual 56, 3) := by decide +kernel
theorem dX2_search_62 : decode cX2_search 62 = .ok (.goto 28, 3) := by decide +kernel
theorem dX2_search_65 : decode cX2_search 65 = .ok (.aload_n 1, 1) := by decide +kernel
theorem dX2_search_66 : decode cX2_search 66 = .ok (.getfield 26, 3) := by decide +kernel
theorem dX2_search_69 : decode cX2_search 69 = .ok (.iconst 0, 1) := by decide +kernel
theorem dX2_search_70 : decode cX2_search 70 = .ok (.iaload, 1) := by decide +kernel
theorem dX2_search_71 : decode cX2_search 71 = .ok (.iconst (-1), 1) := by decide +kernel
theorem dX2_search_72 : decode cX2_search 72 = .ok (.if_icmp .ne 18, 3) := by decide +kernel
theorem dX2_search_75 : decode cX2_search 75 = .ok (.aload_n 0, 1) := by decide +kernel
theorem dX2_search_76 : decode cX2_search 76 = .ok (.iconst 2, 1) := by decide +kernel
theorem dX2_search_77 : decode cX2_search 77 = .ok (.invokevirtual 60, 3) := by decide +kernel
theorem dX2_search_80 : decode cX2_search 80 = .ok (.ifCond .eq 10, 3) := by decide +kernel
theorem dX2_search_83 : decode cX2_search 83 = .ok (.aload_n 1, 1) := by decide +kernel
theorem dX2_search_84 : decode cX2_search 84 = .ok (.getfield 26, 3) := by decide +kernel
theorem dX2_search_87 : decode cX2_search 87 = .ok (.iconst 0, 1) := by decide +kernel
theorem dX2_search_88 : decode cX2_search 88 = .ok (.iload_n 2, 1) := by decide +kernel
theorem dX2_search_89 : decode cX2_search 89 = .ok (.iastore, 1) := by decide +kernel
theorem dX2_search_90 : decode cX2_search 90 = .ok (.iinc 2 1, 3) := by decide +kernel
theorem dX2_search_93 : decode cX2_search 93 = .ok (.goto (-83), 3) := by decide +kernel
theorem dX2_search_96 : decode cX2_search 96 = .ok (.aload_n 1, 1) := by decide +kernel
theorem dX2_search_97 : decode cX2_search 97 = .ok (.iconst 1, 1) := by decide +kernel
theorem dX2_search_98 : decode cX2_search 98 = .ok (.putfield 64, 3) := by decide +kernel
theorem dX2_search_101 : decode cX2_search 101 = .ok (.return_, 1) := by decide +kernel
set_option maxRecDepth 40000 in
theorem kmX2_31 : Cond.methodLink RX2 31 yJA_fill ∈ qW := qw 494 rfl rfl
set_option maxRecDepth 40000 in
theorem kfX2_37 : Cond.fieldLink RX2 37 "QlRewrite$Question" "size" "I" ∈ qW := qw 169 rfl rfl
set_option maxRecDepth 40000 in
theorem kfX2_64 : Cond.fieldLink RX2 64 "QlRewrite$Question" "searched" "Z" ∈ qW := qw 182 rfl rfl
set_option maxRecDepth 40000 in
theorem kfX2_41 : Cond.fieldLink RX2 41 "QlRewrite$Question" "rows" "[J" ∈ qW := qw 164 rfl rfl
set_option maxRecDepth 40000 in
theorem kmX2_45 : Cond.methodLink RX2 45 yX3_read ∈ qW := qw 497 rfl rfl
set_option maxRecDepth 40000 in
theorem kmX2_49 : Cond.methodLink RX2 49 yX2_holdsAnywhere ∈ qW := qw 498 rfl rfl
set_option maxRecDepth 40000 in
theorem kmX2_56 : Cond.methodLink RX2 56 yX2_collect ∈ qW := qw 502 rfl rfl
abbrev rm_c_Finder_search : Room := { frames := 7, cells := 0, slots := 0, locals := 174 }
set_option maxHeartbeats 4000000 in
set_option maxRecDepth 100000 in
theorem c_Finder_search (l : Launch) (dC : Nat → ClassId) (dI : Nat → Nat → Nat) (cI cL cQ cZ : ClassId) (n0 : Nat) (fc0 : Nat) (fm0 : Nat) (th : Nat) (m1 : Nat) (t1 : Nat) (s1 : Nat) (st1 : Nat) (e1 : Nat) (fs : Nat) (mb : Nat → Nat) (tg : Nat → Nat) (sr : Nat → Nat) (sta : Nat → Nat) (en : Nat → Nat) (a1 : Nat) (a2 : Nat) (n : Nat) (jn : Bool) (nm : Nat → Nat) (pl : Nat → Nat) (tv : Nat → Option Nat) (q0 : Nat) (ow : Nat) (an : Nat) (ra : Nat) (sz : Nat) (lg : Bool) (rw9 : Bool) (fa : Nat) (se : Bool) (rs : Nat → Nat) (fd : Nat → Option Nat) (hmb : ∀ j, mb j < 4096) (htg : ∀ j, tg j < 4096) (hsr : ∀ j, sr j < 4096) (hsta : ∀ j, sta j < 4096) (hen : ∀ j, en j < 4096) (hnm : ∀ j, nm j < 64) (hpl : ∀ j, pl j < 16) (hsz : sz ≤ 90) (han : an ≤ 2) (hrs : ∀ q7, q7 < sz → rs q7 < 2 ^ 52 ∧ f_nok (d_nm (rs q7)) (d_n (rs q7))) : Met l yX2_search wkX2_search rm_c_Finder_search (q_W (dC, dI) qCl (qT cI cL cQ cZ) [(n0, .inr (2, [.ref fc0, .ref fm0, .ref th])), (th, .inl (cI, 6, .inl (oF tv))), (fc0, .inr (1, [.ref m1, .ref t1, .ref s1, .ref st1, .ref e1, .int (nI (fs))])), (m1, .inl (cI, 10, .inl (nF mb))), (t1, .inl (cI, 96, .inl (nF tg))), (s1, .inl (cI, 96, .inl (nF sr))), (st1, .inl (cI, 8, .inl (nF sta))), (e1, .inl (cI, 8, .inl (nF en))), (fm0, .inr (3, [.ref a1, .ref a2, .int (nI (n)), .int (bI (jn))])), (a1, .inl (cI, 4, .inl (nF nm))), (a2, .inl (cI, 8, .inl (nF pl))), (q0, .inr (5, [.ref ow, .int (nI (an)), .ref ra, .int (nI (sz)), .int (bI (lg)), .int (bI (rw9)), .ref fa, .int (bI (se))])), (ra, .inl (cL, 90, .inr (.inl (lF rs)))), (fa, .inl (cI, 192, .inl (oF fd)))] [.ref n0, .ref q0]) (va_Qv (fun (u : (Nat → Option Nat) × Nat × Bool × (Nat → Nat) × (Nat → Nat) × (Nat → Option Nat)) => (∀ j, u.2.2.2.1 j < 64) ∧ (∀ j, u.2.2.2.2.1 j < 16) ∧ (f_srch (fun q7 q8 => f_finds mb tg sr sta en an (rs q7) q8) sz u.2.2.2.2.2)) (fun (u : (Nat → Option Nat) × Nat × Bool × (Nat → Nat) × (Nat → Nat) × (Nat → Option Nat)) t => va_P (dC, dI) qCl [(n0, .inr (2, [.ref fc0, .ref fm0, .ref th])), (th, .inl (cI, 6, .inl (oF u.1))), (fc0, .inr (1, [.ref m1, .ref t1, .ref s1, .ref st1, .ref e1, .int (nI (fs))])), (m1, .inl (cI, 10, .inl (nF mb))), (t1, .inl (cI, 96, .inl (nF tg))), (s1, .inl (cI, 96, .inl (nF sr))), (st1, .inl (cI, 8, .inl (nF sta))), (e1, .inl (cI, 8, .inl (nF en))), (fm0, .inr (3, [.ref a1, .ref a2, .int (nI (u.2.1)), .int (bI (u.2.2.1))])), (a1, .inl (cI, 4, .inl (nF u.2.2.2.1))), (a2, .inl (cI, 8, .inl (nF u.2.2.2.2.1))), (q0, .inr (5, [.ref ow, .int (nI (an)), .ref ra, .int (nI (sz)), .int (bI (lg)), .int (bI (rw9)), .ref fa, .int (bI (true))])), (ra, .inl (cL, 90, .inr (.inl (lF rs)))), (fa, .inl (cI, 192, .inl (oF u.2.2.2.2.2)))] t.heap) (q_A [(n0, .inr (2, [.ref fc0, .ref fm0, .ref th])), (th, .inl (cI, 6, .inl (oF tv))), (fc0, .inr (1, [.ref m1, .ref t1, .ref s1, .ref st1, .ref e1, .int (nI (fs))])), (m1, .inl (cI, 10, .inl (nF mb))), (t1, .inl (cI, 96, .inl (nF tg))), (s1, .inl (cI, 96, .inl (nF sr))), (st1, .inl (cI, 8, .inl (nF sta))), (e1, .inl (cI, 8, .inl (nF en))), (fm0, .inr (3, [.ref a1, .ref a2, .int (nI (n)), .int (bI (jn))])), (a1, .inl (cI, 4, .inl (nF nm))), (a2, .inl (cI, 8, .inl (nF pl))), (q0, .inr (5, [.ref ow, .int (nI (an)), .ref ra, .int (nI (sz)), .int (bI (lg)), .int (bI (rw9)), .ref fa, .int (bI (se))])), (ra, .inl (cL, 90, .inr (.inl (lF rs)))), (fa, .inl (cI, 192, .inl (oF fd)))])) 0 0 (q_A [(n0, .inr (2, [.ref fc0, .ref fm0, .ref th])), (th, .inl (cI, 6, .inl (oF tv))), (fc0, .inr (1, [.ref m1, .ref t1, .ref s1, .ref st1, .ref e1, .int (nI (fs))])), (m1, .inl (cI, 10, .inl (nF mb))), (t1, .inl (cI, 96, .inl (nF tg))), (s1, .inl (cI, 96, .inl (nF sr))), (st1, .inl (cI, 8, .inl (nF sta))), (e1, .inl (cI, 8, .inl (nF en))), (fm0, .inr (3, [.ref a1, .ref a2, .int (nI (n)), .int (bI (jn))])), (a1, .inl (cI, 4, .inl (nF nm))), (a2, .inl (cI, 8, .inl (nF pl))), (q0, .inr (5, [.ref ow, .int (nI (an)), .ref ra, .int (nI (sz)), .int (bI (lg)), .int (bI (rw9)), .ref fa, .int (bI (se))])), (ra, .inl (cL, 90, .inr (.inl (lF rs)))), (fa, .inl (cI, 192, .inl (oF fd)))]) := by
  refine Met.ofW (cc := cX2_search) (maxL := 3) (ret := none) (by decide) rfl ?_
  intro p e s m args below meth c s₁ B hml hv
  obtain ⟨hargs, hP, hK, hD0⟩ := hv
  have hx := B.exec
  have hb := B.bytes
  have hr := B.returns
  have hts : ∀ w ∈ qW, w.before args s = true := fun w h => atoms_spec (ws := wkX2_search) B.pre w (List.mem_cons_of_mem _ h)
  have hown : s.vm.findClass RX2 = some m.cls := findClass_of_methodNamed B.named
  have hlocks := B.notSynchronized
  refine q_named (fun Q hQ => ?_)
  have hD : va_D (q_A [(n0, .inr (2, [.ref fc0, .ref fm0, .ref th])), (th, .inl (cI, 6, .inl (oF tv))), (fc0, .inr (1, [.ref m1, .ref t1, .ref s1, .ref st1, .ref e1, .int (nI (fs))])), (m1, .inl (cI, 10, .inl (nF mb))), (t1, .inl (cI, 96, .inl (nF tg))), (s1, .inl (cI, 96, .inl (nF sr))), (st1, .inl (cI, 8, .inl (nF sta))), (e1, .inl (cI, 8, .inl (nF en))), (fm0, .inr (3, [.ref a1, .ref a2, .int (nI (n)), .int (bI (jn))])), (a1, .inl (cI, 4, .inl (nF nm))), (a2, .inl (cI, 8, .inl (nF pl))), (q0, .inr (5, [.ref ow, .int (nI (an)), .ref ra, .int (nI (sz)), .int (bI (lg)), .int (bI (rw9)), .ref fa, .int (bI (se))])), (ra, .inl (cL, 90, .inr (.inl (lF rs)))), (fa, .inl (cI, 192, .inl (oF fd)))]) [(n0, .inr (2, [.ref fc0, .ref fm0, .ref th])), (th, .inl (cI, 6, .inl (oF tv))), (fc0, .inr (1, [.ref m1, .ref t1, .ref s1, .ref st1, .ref e1, .int (nI (fs))])), (m1, .inl (cI, 10, .inl (nF mb))), (t1, .inl (cI, 96, .inl (nF tg))), (s1, .inl (cI, 96, .inl (nF sr))), (st1, .inl (cI, 8, .inl (nF sta))), (e1, .inl (cI, 8, .inl (nF en))), (fm0, .inr (3, [.ref a1, .ref a2, .int (nI (n)), .int (bI (jn))])), (a1, .inl (cI, 4, .inl (nF nm))), (a2, .inl (cI, 8, .inl (nF pl))), (q0, .inr (5, [.ref ow, .int (nI (an)), .ref ra, .int (nI (sz)), .int (bI (lg)), .int (bI (rw9)), .ref fa, .int (bI (se))])), (ra, .inl (cL, 90, .inr (.inl (lF rs)))), (fa, .inl (cI, 192, .inl (oF fd)))] := ⟨hD0.1, fun k q h => ⟨k, q.2, h⟩⟩
  generalize hAe : q_A [(n0, .inr (2, [.ref fc0, .ref fm0, .ref th])), (th, .inl (cI, 6, .inl (oF tv))), (fc0, .inr (1, [.ref m1, .ref t1, .ref s1, .ref st1, .ref e1, .int (nI (fs))])), (m1, .inl (cI, 10, .inl (nF mb))), (t1, .inl (cI, 96, .inl (nF tg))), (s1, .inl (cI, 96, .inl (nF sr))), (st1, .inl (cI, 8, .inl (nF sta))), (e1, .inl (cI, 8, .inl (nF en))), (fm0, .inr (3, [.ref a1, .ref a2, .int (nI (n)), .int (bI (jn))])), (a1, .inl (cI, 4, .inl (nF nm))), (a2, .inl (cI, 8, .inl (nF pl))), (q0, .inr (5, [.ref ow, .int (nI (an)), .ref ra, .int (nI (sz)), .int (bI (lg)), .int (bI (rw9)), .ref fa, .int (bI (se))])), (ra, .inl (cL, 90, .inr (.inl (lF rs)))), (fa, .inl (cI, 192, .inl (oF fd)))] = A at hD
  have hS : va_S A s.heap s.heap [] := va_S.rf
  refine q_entry hargs (Nat.le_of_ble_eq_true rfl) (fun ls hl => ?_)
  have hl : lv_has ls 3 [(0, .ref n0), (1, .ref q0)] := hl
  obtain ⟨H, locs, eH, eL⟩ : ∃ (H : Heap) (locs : List Loc), s.heap = H ∧ ([] : List Loc) = locs := ⟨_, _, rfl, rfl⟩
  have hS : va_S A s.heap H locs := by rw [← eH, ← eL]; exact hS
  have hP : va_P (dC, dI) qCl [(n0, .inr (2, [.ref fc0, .ref fm0, .ref th])), (th, .inl (cI, 6, .inl (oF tv))), (fc0, .inr (1, [.ref m1, .ref t1, .ref s1, .ref st1, .ref e1, .int (nI (fs))])), (m1, .inl (cI, 10, .inl (nF mb))), (t1, .inl (cI, 96, .inl (nF tg))), (s1, .inl (cI, 96, .inl (nF sr))), (st1, .inl (cI, 8, .inl (nF sta))), (e1, .inl (cI, 8, .inl (nF en))), (fm0, .inr (3, [.ref a1, .ref a2, .int (nI (n)), .int (bI (jn))])), (a1, .inl (cI, 4, .inl (nF nm))), (a2, .inl (cI, 8, .inl (nF pl))), (q0, .inr (5, [.ref ow, .int (nI (an)), .ref ra, .int (nI (sz)), .int (bI (lg)), .int (bI (rw9)), .ref fa, .int (bI (se))])), (ra, .inl (cL, 90, .inr (.inl (lF rs)))), (fa, .inl (cI, 192, .inl (oF fd)))] H := by rw [← eH]; exact hP
  refine W_at eH eL ?_
  refine lv_aload_n hx hb dX2_search_0 rfl (lv_at hl 1 rfl) ?_
  refine va_get (D := (dC, dI)) (ci := 5) (v := .ref fa) (C := RX5) (T := TX5) (N := 8) hx hb hts uX5 hown hK hP 11 rfl rfl 6 (by decide) (hts _ kfX2_26) (fun _ h9 => h9) rfl dX2_search_1 ?_
  refine lv_iconst (v := (oI (none))) hx hb dX2_search_4 (by decide) ?_
  refine q_joinv (wr := [(n0, .inr (2, [.ref fc0, .ref fm0, .ref th])), (th, .inl (cI, 6, .inl (oF tv))), (fc0, .inr (1, [.ref m1, .ref t1, .ref s1, .ref st1, .ref e1, .int (nI (fs))])), (m1, .inl (cI, 10, .inl (nF mb))), (t1, .inl (cI, 96, .inl (nF tg))), (s1, .inl (cI, 96, .inl (nF sr))), (st1, .inl (cI, 8, .inl (nF sta))), (e1, .inl (cI, 8, .inl (nF en))), (fm0, .inr (3, [.ref a1, .ref a2, .int (nI (n)), .int (bI (jn))])), (a1, .inl (cI, 4, .inl (nF nm))), (a2, .inl (cI, 8, .inl (nF pl))), (q0, .inr (5, [.ref ow, .int (nI (an)), .ref ra, .int (nI (sz)), .int (bI (lg)), .int (bI (rw9)), .ref fa, .int (bI (se))])), (ra, .inl (cL, 90, .inr (.inl (lF rs))))]) (va_runS (As := [.ref fa, .int (oI (none))]) (rest := []) ⟨hx, hb, hml, hown, hts⟩ (c_Arrays_fill l dC dI cI cL cQ cZ fa 192 fd none (show 192 < 2 ^ 31 from by first | assumption | omega)) (q_cwS 2 hts gkJA_fill kmX2_31 ksJA_fill kiJA rfl rfl rfl (by decide +kernel) ⟨Nat.le_of_ble_eq_true rfl, Nat.le_of_ble_eq_true rfl⟩) (q_preSW hK hP hD [13] rfl (by decide)) rfl rfl hl.1 rfl (lv_room (Nat.le_of_ble_eq_true rfl)) dX2_search_5 ⟨Nat.zero_le _, Nat.zero_le _⟩) hP hD hS [13] [0, 1, 2, 3, 4, 5, 6, 7, 8, 9, 10, 11, 12] rfl rfl (by decide) (fun _ => rfl) (fun _ H locs hq2 hP hD hS => ?_)
  have hP : va_P (dC, dI) qCl [(n0, .inr (2, [.ref fc0, .ref fm0, .ref th])), (th, .inl (cI, 6, .inl (oF tv))), (fc0, .inr (1, [.ref m1, .ref t1, .ref s1, .ref st1, .ref e1, .int (nI (fs))])), (m1, .inl (cI, 10, .inl (nF mb))), (t1, .inl (cI, 96, .inl (nF tg))), (s1, .inl (cI, 96, .inl (nF sr))), (st1, .inl (cI, 8, .inl (nF sta))), (e1, .inl (cI, 8, .inl (nF en))), (fm0, .inr (3, [.ref a1, .ref a2, .int (nI (n)), .int (bI (jn))])), (a1, .inl (cI, 4, .inl (nF nm))), (a2, .inl (cI, 8, .inl (nF pl))), (q0, .inr (5, [.ref ow, .int (nI (an)), .ref ra, .int (nI (sz)), .int (bI (lg)), .int (bI (rw9)), .ref fa, .int (bI (se))])), (ra, .inl (cL, 90, .inr (.inl (lF rs)))), (fa, .inl (cI, 192, .inl (oF (fun _ => none))))] H := hP
  have hD : va_D A [(n0, .inr (2, [.ref fc0, .ref fm0, .ref th])), (th, .inl (cI, 6, .inl (oF tv))), (fc0, .inr (1, [.ref m1, .ref t1, .ref s1, .ref st1, .ref e1, .int (nI (fs))])), (m1, .inl (cI, 10, .inl (nF mb))), (t1, .inl (cI, 96, .inl (nF tg))), (s1, .inl (cI, 96, .inl (nF sr))), (st1, .inl (cI, 8, .inl (nF sta))), (e1, .inl (cI, 8, .inl (nF en))), (fm0, .inr (3, [.ref a1, .ref a2, .int (nI (n)), .int (bI (jn))])), (a1, .inl (cI, 4, .inl (nF nm))), (a2, .inl (cI, 8, .inl (nF pl))), (q0, .inr (5, [.ref ow, .int (nI (an)), .ref ra, .int (nI (sz)), .int (bI (lg)), .int (bI (rw9)), .ref fa, .int (bI (se))])), (ra, .inl (cL, 90, .inr (.inl (lF rs)))), (fa, .inl (cI, 192, .inl (oF (fun _ => none))))] := hD
  refine lv_iconst (v := (nI (0))) hx hb dX2_search_8 (by decide) ?_
  refine lv_istore_n (lv' := [(2, .int (nI (0))), (0, .ref n0), (1, .ref q0)]) hx hb dX2_search_9 rfl hl (by decide) rfl (fun ls hl => ?_)
  have L10 : ∀ (fu : Nat) (tz : Nat → Option Nat) (nn : Nat) (jj : Bool) (gn : Nat → Nat) (gp : Nat → Nat) (g : Nat → Option Nat) (i : Nat) (ls : Array Slot) (H : Heap) (locs : List Loc), sz - i < fu → (∀ j, gn j < 64) → (∀ j, gp j < 16) → (f_srch (fun q7 q8 => f_finds mb tg sr sta en an (rs q7) q8) i g) → (i ≤ sz) → lv_has ls 3 [(2, .int (nI (i))), (0, .ref n0), (1, .ref q0)] → va_P (dC, dI) qCl [(n0, .inr (2, [.ref fc0, .ref fm0, .ref th])), (th, .inl (cI, 6, .inl (oF tz))), (fc0, .inr (1, [.ref m1, .ref t1, .ref s1, .ref st1, .ref e1, .int (nI (fs))])), (m1, .inl (cI, 10, .inl (nF mb))), (t1, .inl (cI, 96, .inl (nF tg))), (s1, .inl (cI, 96, .inl (nF sr))), (st1, .inl (cI, 8, .inl (nF sta))), (e1, .inl (cI, 8, .inl (nF en))), (fm0, .inr (3, [.ref a1, .ref a2, .int (nI (nn)), .int (bI (jj))])), (a1, .inl (cI, 4, .inl (nF gn))), (a2, .inl (cI, 8, .inl (nF gp))), (q0, .inr (5, [.ref ow, .int (nI (an)), .ref ra, .int (nI (sz)), .int (bI (lg)), .int (bI (rw9)), .ref fa, .int (bI (se))])), (ra, .inl (cL, 90, .inr (.inl (lF rs)))), (fa, .inl (cI, 192, .inl (oF g)))] H → va_D A [(n0, .inr (2, [.ref fc0, .ref fm0, .ref th])), (th, .inl (cI, 6, .inl (oF tz))), (fc0, .inr (1, [.ref m1, .ref t1, .ref s1, .ref st1, .ref e1, .int (nI (fs))])), (m1, .inl (cI, 10, .inl (nF mb))), (t1, .inl (cI, 96, .inl (nF tg))), (s1, .inl (cI, 96, .inl (nF sr))), (st1, .inl (cI, 8, .inl (nF sta))), (e1, .inl (cI, 8, .inl (nF en))), (fm0, .inr (3, [.ref a1, .ref a2, .int (nI (nn)), .int (bI (jj))])), (a1, .inl (cI, 4, .inl (nF gn))), (a2, .inl (cI, 8, .inl (nF gp))), (q0, .inr (5, [.ref ow, .int (nI (an)), .ref ra, .int (nI (sz)), .int (bI (lg)), .int (bI (rw9)), .ref fa, .int (bI (se))])), (ra, .inl (cL, 90, .inr (.inl (lF rs)))), (fa, .inl (cI, 192, .inl (oF g)))] → va_S A s.heap H locs → W p l e (headSpec wkX2_search rm_c_Finder_search).room s m args below meth c H locs 0 0 Q (F0 m 10 ls []) := by
    intro fu
    induction fu with
    | zero => intro tz nn jj gn gp g i ls H locs hmu; exact absurd hmu (Nat.not_lt_zero _)
    | succ fu ih10 =>
      intro tz nn jj gn gp g i ls H locs hmu hgn hgp hg hi hl hP hD hS
      refine lv_iload_n hx hb dX2_search_10 rfl (lv_at hl 0 rfl) ?_
      refine lv_aload_n hx hb dX2_search_11 rfl (lv_at hl 2 rfl) ?_
      refine va_get (D := (dC, dI)) (ci := 5) (v := .int (nI (sz))) (C := RX5) (T := TX5) (N := 8) hx hb hts uX5 hown hK hP 11 rfl rfl 3 (by decide) (hts _ kfX2_37) (fun _ h9 => h9) rfl dX2_search_12 ?_
      refine q_icmp_ge (x := i) (y := sz) (tgt := 96) hx hb dX2_search_15 (by decide) (by omega) (by omega) (fun c15_3 => ?_) (fun c15_3 => ?_)
      · refine lv_aload_n hx hb dX2_search_96 rfl (lv_at hl 2 rfl) ?_
        refine lv_iconst (v := (nI (1))) hx hb dX2_search_97 (by decide) ?_
        refine va_put (D := (dC, dI)) (ci := 5) (v := .int (bI (true))) (ty := .boolean) (C := RX5) (T := TX5) (N := 8) hx hb hts uX5 tyX5 tyX5_ok nmX5 hown hK hP hD hS 11 rfl rfl 7 (by decide) (hts _ kfX2_64) (fun _ h9 => h9) rfl (by decide +kernel) (bI_nar _) (rfl) (Nat.le_of_ble_eq_true rfl) dX2_search_98 (fun H locs hP hD hS => ?_)
        have hP : va_P (dC, dI) qCl [(n0, .inr (2, [.ref fc0, .ref fm0, .ref th])), (th, .inl (cI, 6, .inl (oF tz))), (fc0, .inr (1, [.ref m1, .ref t1, .ref s1, .ref st1, .ref e1, .int (nI (fs))])), (m1, .inl (cI, 10, .inl (nF mb))), (t1, .inl (cI, 96, .inl (nF tg))), (s1, .inl (cI, 96, .inl (nF sr))), (st1, .inl (cI, 8, .inl (nF sta))), (e1, .inl (cI, 8, .inl (nF en))), (fm0, .inr (3, [.ref a1, .ref a2, .int (nI (nn)), .int (bI (jj))])), (a1, .inl (cI, 4, .inl (nF gn))), (a2, .inl (cI, 8, .inl (nF gp))), (q0, .inr (5, [.ref ow, .int (nI (an)), .ref ra, .int (nI (sz)), .int (bI (lg)), .int (bI (rw9)), .ref fa, .int (bI (true))])), (ra, .inl (cL, 90, .inr (.inl (lF rs)))), (fa, .inl (cI, 192, .inl (oF g)))] H := hP
        have hD : va_D A [(n0, .inr (2, [.ref fc0, .ref fm0, .ref th])), (th, .inl (cI, 6, .inl (oF tz))), (fc0, .inr (1, [.ref m1, .ref t1, .ref s1, .ref st1, .ref e1, .int (nI (fs))])), (m1, .inl (cI, 10, .inl (nF mb))), (t1, .inl (cI, 96, .inl (nF tg))), (s1, .inl (cI, 96, .inl (nF sr))), (st1, .inl (cI, 8, .inl (nF sta))), (e1, .inl (cI, 8, .inl (nF en))), (fm0, .inr (3, [.ref a1, .ref a2, .int (nI (nn)), .int (bI (jj))])), (a1, .inl (cI, 4, .inl (nF gn))), (a2, .inl (cI, 8, .inl (nF gp))), (q0, .inr (5, [.ref ow, .int (nI (an)), .ref ra, .int (nI (sz)), .int (bI (lg)), .int (bI (rw9)), .ref fa, .int (bI (true))])), (ra, .inl (cL, 90, .inr (.inl (lF rs)))), (fa, .inl (cI, 192, .inl (oF g)))] := hD
        subst hQ
        subst hAe
        have hP9 := hP.sub (ws' := [(n0, .inr (2, [.ref fc0, .ref fm0, .ref th])), (th, .inl (cI, 6, .inl (oF tz))), (fc0, .inr (1, [.ref m1, .ref t1, .ref s1, .ref st1, .ref e1, .int (nI (fs))])), (m1, .inl (cI, 10, .inl (nF mb))), (t1, .inl (cI, 96, .inl (nF tg))), (s1, .inl (cI, 96, .inl (nF sr))), (st1, .inl (cI, 8, .inl (nF sta))), (e1, .inl (cI, 8, .inl (nF en))), (fm0, .inr (3, [.ref a1, .ref a2, .int (nI (nn)), .int (bI (jj))])), (a1, .inl (cI, 4, .inl (nF gn))), (a2, .inl (cI, 8, .inl (nF gp))), (q0, .inr (5, [.ref ow, .int (nI (an)), .ref ra, .int (nI (sz)), .int (bI (lg)), .int (bI (rw9)), .ref fa, .int (bI (true))])), (ra, .inl (cL, 90, .inr (.inl (lF rs)))), (fa, .inl (cI, 192, .inl (oF g)))]) [0, 1, 2, 3, 4, 5, 6, 7, 8, 9, 10, 11, 12, 13] rfl
        exact W.vret hx hb hr (fun t9 h9 _ => ⟨⟨(tz, nn, jj, gn, gp, g), rfl, ⟨(show ∀ j, gn j < 64 from by (exact hgn)), (show ∀ j, gp j < 16 from by (exact hgp)), (show f_srch (fun q7 q8 => f_finds mb tg sr sta en an (rs q7) q8) sz g from by (rw [show sz = i by omega]; exact hg))⟩, by show va_P _ _ _ t9.heap; rw [h9]; exact hP9⟩, hS.F h9⟩) hS.2.2 dX2_search_101
      · refine lv_aload_n hx hb dX2_search_18 rfl (lv_at hl 1 rfl) ?_
        refine va_get (D := (dC, dI)) (ci := 2) (v := .ref fm0) (C := RX2) (T := TX2) (N := 3) hx hb hts uX2 hown hK hP 0 rfl rfl 1 (by decide) (hts _ kfX2_12) (fun _ h9 => h9) rfl dX2_search_19 ?_
        refine lv_aload_n hx hb dX2_search_22 rfl (lv_at hl 2 rfl) ?_
        refine va_get (D := (dC, dI)) (ci := 5) (v := .ref ra) (C := RX5) (T := TX5) (N := 8) hx hb hts uX5 hown hK hP 11 rfl rfl 2 (by decide) (hts _ kfX2_41) (fun _ h9 => h9) rfl dX2_search_23 ?_
        refine lv_iload_n hx hb dX2_search_26 rfl (lv_at hl 0 rfl) ?_
        refine q_laldN hx hb hK hP 12 1 rfl rfl (j := i) (by omega) (by omega) dX2_search_27 ?_
        refine q_joinv (wr := [(n0, .inr (2, [.ref fc0, .ref fm0, .ref th])), (th, .inl (cI, 6, .inl (oF tz))), (fc0, .inr (1, [.ref m1, .ref t1, .ref s1, .ref st1, .ref e1, .int (nI (fs))])), (m1, .inl (cI, 10, .inl (nF mb))), (t1, .inl (cI, 96, .inl (nF tg))), (s1, .inl (cI, 96, .inl (nF sr))), (st1, .inl (cI, 8, .inl (nF sta))), (e1, .inl (cI, 8, .inl (nF en))), (q0, .inr (5, [.ref ow, .int (nI (an)), .ref ra, .int (nI (sz)), .int (bI (lg)), .int (bI (rw9)), .ref fa, .int (bI (se))])), (ra, .inl (cL, 90, .inr (.inl (lF rs)))), (fa, .inl (cI, 192, .inl (oF g)))]) (va_runV (As := [.long (lN (rs i))]) (rest := []) ⟨hx, hb, hml, hown, hts⟩ (c_Form_read l dC dI cI cL cQ cZ fm0 a1 a2 nn jj gn gp (rs i) (show (rs i) < 2 ^ 52 from by (exact (hrs i (by omega)).1)) (show ∀ j, gn j < 64 from by first | assumption | omega) (show ∀ j, gp j < 16 from by first | assumption | omega)) (q_cwV 1 hts gkX3_read kmX2_45 knX3_read klX3_read kiX3 rfl rfl rfl (by decide +kernel) ⟨Nat.le_of_ble_eq_true rfl, Nat.le_of_ble_eq_true rfl⟩) (q_preVW hK hP hD [8, 9, 10] rfl (by decide) 8 (ci := 3) (r := (RX3, TX3, 4)) rfl rfl) rfl rfl hl.1 rfl (lv_room (Nat.le_of_ble_eq_true rfl)) dX2_search_28 ⟨Nat.zero_le _, Nat.zero_le _⟩) hP hD hS [8, 9, 10] [0, 1, 2, 3, 4, 5, 6, 7, 11, 12, 13] rfl rfl (by decide) (fun _ => rfl) (fun u9 H locs hq7 hP hD hS => ?_)
        obtain ⟨nm1_4, pl1_5⟩ := u9
        have hq7 : (∀ j, nm1_4 j < 64) ∧ (∀ j, pl1_5 j < 16) ∧ (f_rd (rs i) nm1_4 pl1_5 (min ((rs i) / 2 ^ 48 % 8) 4)) := hq7
        obtain ⟨hnm1_8, hpl1_9, hat_10⟩ := hq7
        have hlast := hat_10
        have hP : va_P (dC, dI) qCl [(n0, .inr (2, [.ref fc0, .ref fm0, .ref th])), (th, .inl (cI, 6, .inl (oF tz))), (fc0, .inr (1, [.ref m1, .ref t1, .ref s1, .ref st1, .ref e1, .int (nI (fs))])), (m1, .inl (cI, 10, .inl (nF mb))), (t1, .inl (cI, 96, .inl (nF tg))), (s1, .inl (cI, 96, .inl (nF sr))), (st1, .inl (cI, 8, .inl (nF sta))), (e1, .inl (cI, 8, .inl (nF en))), (q0, .inr (5, [.ref ow, .int (nI (an)), .ref ra, .int (nI (sz)), .int (bI (lg)), .int (bI (rw9)), .ref fa, .int (bI (se))])), (ra, .inl (cL, 90, .inr (.inl (lF rs)))), (fa, .inl (cI, 192, .inl (oF g))), (fm0, .inr (3, [.ref a1, .ref a2, .int (nI (min ((rs i) / 2 ^ 48 % 8) 4)), .int (bI (decide ((rs i) / 2 ^ 51 % 2 = 1)))])), (a1, .inl (cI, 4, .inl (nF nm1_4))), (a2, .inl (cI, 8, .inl (nF pl1_5)))] H := hP
        have hD : va_D A [(n0, .inr (2, [.ref fc0, .ref fm0, .ref th])), (th, .inl (cI, 6, .inl (oF tz))), (fc0, .inr (1, [.ref m1, .ref t1, .ref s1, .ref st1, .ref e1, .int (nI (fs))])), (m1, .inl (cI, 10, .inl (nF mb))), (t1, .inl (cI, 96, .inl (nF tg))), (s1, .inl (cI, 96, .inl (nF sr))), (st1, .inl (cI, 8, .inl (nF sta))), (e1, .inl (cI, 8, .inl (nF en))), (q0, .inr (5, [.ref ow, .int (nI (an)), .ref ra, .int (nI (sz)), .int (bI (lg)), .int (bI (rw9)), .ref fa, .int (bI (se))])), (ra, .inl (cL, 90, .inr (.inl (lF rs)))), (fa, .inl (cI, 192, .inl (oF g))), (fm0, .inr (3, [.ref a1, .ref a2, .int (nI (min ((rs i) / 2 ^ 48 % 8) 4)), .int (bI (decide ((rs i) / 2 ^ 51 % 2 = 1)))])), (a1, .inl (cI, 4, .inl (nF nm1_4))), (a2, .inl (cI, 8, .inl (nF pl1_5)))] := hD
        have hrd := hlast
        have hnk := f_nok_rd hrd (hrs i (by omega)).2
        refine lv_aload_n hx hb dX2_search_31 rfl (lv_at hl 1 rfl) ?_
        refine va_get (D := (dC, dI)) (ci := 2) (v := .ref th) (C := RX2) (T := TX2) (N := 3) hx hb hts uX2 hown hK hP 0 rfl rfl 2 (by decide) (hts _ kfX2_18) (fun _ h9 => h9) rfl dX2_search_32 ?_
        refine lv_iconst (v := (oI (none))) hx hb dX2_search_35 (by decide) ?_
        refine q_joinv (wr := [(n0, .inr (2, [.ref fc0, .ref fm0, .ref th])), (fc0, .inr (1, [.ref m1, .ref t1, .ref s1, .ref st1, .ref e1, .int (nI (fs))])), (m1, .inl (cI, 10, .inl (nF mb))), (t1, .inl (cI, 96, .inl (nF tg))), (s1, .inl (cI, 96, .inl (nF sr))), (st1, .inl (cI, 8, .inl (nF sta))), (e1, .inl (cI, 8, .inl (nF en))), (q0, .inr (5, [.ref ow, .int (nI (an)), .ref ra, .int (nI (sz)), .int (bI (lg)), .int (bI (rw9)), .ref fa, .int (bI (se))])), (ra, .inl (cL, 90, .inr (.inl (lF rs)))), (fa, .inl (cI, 192, .inl (oF g))), (fm0, .inr (3, [.ref a1, .ref a2, .int (nI (min ((rs i) / 2 ^ 48 % 8) 4)), .int (bI (decide ((rs i) / 2 ^ 51 % 2 = 1)))])), (a1, .inl (cI, 4, .inl (nF nm1_4))), (a2, .inl (cI, 8, .inl (nF pl1_5)))]) (va_runS (As := [.ref th, .int (oI (none))]) (rest := []) ⟨hx, hb, hml, hown, hts⟩ (c_Arrays_fill l dC dI cI cL cQ cZ th 6 tz none (show 6 < 2 ^ 31 from by first | assumption | omega)) (q_cwS 2 hts gkJA_fill kmX2_31 ksJA_fill kiJA rfl rfl rfl (by decide +kernel) ⟨Nat.le_of_ble_eq_true rfl, Nat.le_of_ble_eq_true rfl⟩) (q_preSW hK hP hD [1] rfl (by decide)) rfl rfl hl.1 rfl (lv_room (Nat.le_of_ble_eq_true rfl)) dX2_search_36 ⟨Nat.zero_le _, Nat.zero_le _⟩) hP hD hS [1] [0, 2, 3, 4, 5, 6, 7, 8, 9, 10, 11, 12, 13] rfl rfl (by decide) (fun _ => rfl) (fun _ H locs hq12 hP hD hS => ?_)
        have hP : va_P (dC, dI) qCl [(n0, .inr (2, [.ref fc0, .ref fm0, .ref th])), (fc0, .inr (1, [.ref m1, .ref t1, .ref s1, .ref st1, .ref e1, .int (nI (fs))])), (m1, .inl (cI, 10, .inl (nF mb))), (t1, .inl (cI, 96, .inl (nF tg))), (s1, .inl (cI, 96, .inl (nF sr))), (st1, .inl (cI, 8, .inl (nF sta))), (e1, .inl (cI, 8, .inl (nF en))), (q0, .inr (5, [.ref ow, .int (nI (an)), .ref ra, .int (nI (sz)), .int (bI (lg)), .int (bI (rw9)), .ref fa, .int (bI (se))])), (ra, .inl (cL, 90, .inr (.inl (lF rs)))), (fa, .inl (cI, 192, .inl (oF g))), (fm0, .inr (3, [.ref a1, .ref a2, .int (nI (min ((rs i) / 2 ^ 48 % 8) 4)), .int (bI (decide ((rs i) / 2 ^ 51 % 2 = 1)))])), (a1, .inl (cI, 4, .inl (nF nm1_4))), (a2, .inl (cI, 8, .inl (nF pl1_5))), (th, .inl (cI, 6, .inl (oF (fun _ => none))))] H := hP
        have hD : va_D A [(n0, .inr (2, [.ref fc0, .ref fm0, .ref th])), (fc0, .inr (1, [.ref m1, .ref t1, .ref s1, .ref st1, .ref e1, .int (nI (fs))])), (m1, .inl (cI, 10, .inl (nF mb))), (t1, .inl (cI, 96, .inl (nF tg))), (s1, .inl (cI, 96, .inl (nF sr))), (st1, .inl (cI, 8, .inl (nF sta))), (e1, .inl (cI, 8, .inl (nF en))), (q0, .inr (5, [.ref ow, .int (nI (an)), .ref ra, .int (nI (sz)), .int (bI (lg)), .int (bI (rw9)), .ref fa, .int (bI (se))])), (ra, .inl (cL, 90, .inr (.inl (lF rs)))), (fa, .inl (cI, 192, .inl (oF g))), (fm0, .inr (3, [.ref a1, .ref a2, .int (nI (min ((rs i) / 2 ^ 48 % 8) 4)), .int (bI (decide ((rs i) / 2 ^ 51 % 2 = 1)))])), (a1, .inl (cI, 4, .inl (nF nm1_4))), (a2, .inl (cI, 8, .inl (nF pl1_5))), (th, .inl (cI, 6, .inl (oF (fun _ => none))))] := hD
        refine lv_aload_n hx hb dX2_search_39 rfl (lv_at hl 1 rfl) ?_
        refine vp_callSi (va_Run.run (va_runV (As := []) (rest := []) ⟨hx, hb, hml, hown, hts⟩ (c_Finder_holdsAnywhere l dC dI cI cL cQ cZ n0 fc0 fm0 th m1 t1 s1 st1 e1 fs mb tg sr sta en a1 a2 (min ((rs i) / 2 ^ 48 % 8) 4) (decide ((rs i) / 2 ^ 51 % 2 = 1)) nm1_4 pl1_5 (fun _ => none) (show ∀ j, mb j < 4096 from by first | assumption | omega) (show ∀ j, tg j < 4096 from by first | assumption | omega) (show ∀ j, sr j < 4096 from by first | assumption | omega) (show ∀ j, sta j < 4096 from by first | assumption | omega) (show ∀ j, en j < 4096 from by first | assumption | omega) (show (min ((rs i) / 2 ^ 48 % 8) 4) ≤ 4 from by first | assumption | omega) (show f_nok nm1_4 (min ((rs i) / 2 ^ 48 % 8) 4) from by (exact hnk)) (show ∀ j, pl1_5 j < 16 from by first | assumption | omega)) (q_cwV 0 hts gkX2_holdsAnywhere kmX2_49 knX2_holdsAnywhere klX2_holdsAnywhere kiX2 rfl rfl rfl (by decide +kernel) ⟨Nat.le_of_ble_eq_true rfl, Nat.le_of_ble_eq_true rfl⟩) (q_preV hK hP [0, 13, 1, 2, 3, 4, 5, 6, 10, 11, 12] rfl 0 (ci := 2) (r := (RX2, TX2, 3)) rfl rfl) rfl rfl hl.1 rfl (lv_room (Nat.le_of_ble_eq_true rfl)) dX2_search_40 ⟨Nat.zero_le _, Nat.zero_le _⟩)) (fun r13 hr13 => ?_)
        have hr13 : ∃ b9 : Bool, r13 = bI b9 ∧ (b9 = true ↔ ∀ q7, q7 < (min ((rs i) / 2 ^ 48 % 8) 4) → f_ne nm1_4 mb sta q7) := hr13
        have hlast := hr13
        obtain ⟨b9, ey9, hw9⟩ := hlast
        refine q_top ey9 ?_
        refine q_ifb_ne (b := b9) (tgt := 49) hx hb dX2_search_43 (by decide) (fun c43_14 => ?_) (fun c43_14 => ?_)
        · refine lv_aload_n hx hb dX2_search_49 rfl (lv_at hl 2 rfl) ?_
          refine va_get (D := (dC, dI)) (ci := 5) (v := .int (nI (an))) (C := RX5) (T := TX5) (N := 8) hx hb hts uX5 hown hK hP 7 rfl rfl 1 (by decide) (hts _ kfX2_53) (fun _ h9 => h9) rfl dX2_search_50 ?_
          refine q_if_le (x := an) (tgt := 65) hx hb dX2_search_53 (by decide) (by omega) (fun c53_15 => ?_) (fun c53_15 => ?_)
          · refine lv_aload_n hx hb dX2_search_65 rfl (lv_at hl 2 rfl) ?_
            refine va_get (D := (dC, dI)) (ci := 5) (v := .ref fa) (C := RX5) (T := TX5) (N := 8) hx hb hts uX5 hown hK hP 7 rfl rfl 6 (by decide) (hts _ kfX2_26) (fun _ h9 => h9) rfl dX2_search_66 ?_
            refine lv_iconst (v := (nI (0))) hx hb dX2_search_69 (by decide) ?_
            refine q_ialdO hx hb hK hP 9 0 rfl rfl (j := 0) (by omega) (by omega) dX2_search_70 ?_
            refine lv_iconst (v := (oI (none))) hx hb dX2_search_71 (by decide) ?_
            refine q_icmpO_ne (x := g 0) (tgt := 90) hx hb dX2_search_72 (by decide) (by (intro k9 h9; have := f_srch_lt hg _ _ h9; omega)) (fun c72_16 => ?_) (fun c72_16 => ?_)
            · refine lv_iinc (v := (nI (i + 1))) (lv' := [(2, .int (nI (i + 1))), (0, .ref n0), (1, .ref q0)]) hx hb dX2_search_90 hl (k := 0) rfl (q_inc _) (by decide) rfl (fun ls hl => ?_)
              refine lv_goto (tgt := 10) hx hb dX2_search_93 (by decide) ?_
              exact ih10 (fun _ => none) (min ((rs i) / 2 ^ 48 % 8) 4) (decide ((rs i) / 2 ^ 51 % 2 = 1)) nm1_4 pl1_5 g (i + 1) ls _ _ (by omega) (show ∀ j, nm1_4 j < 64 from by (assumption)) (show ∀ j, pl1_5 j < 16 from by (assumption)) (show f_srch (fun q7 q8 => f_finds mb tg sr sta en an (rs q7) q8) (i + 1) g from by (first | (exact f_srch_no hg (fun j => Iff.rfl) rfl hrd (fun h9 => b_no (hw9.mpr h9) (by assumption))) | (exact f_srch_col hg (fun j => Iff.rfl) (by omega) rfl rfl hrd (hw9.mp (by assumption)) (by assumption)) | (exact f_srch_k hg (fun j => Iff.rfl) (by omega) (by assumption)) | (exact (f_srch_z hg (fun j => Iff.rfl) (by omega) rfl hrd (hw9.mp (by assumption)) (by assumption) hcp).2 (by assumption)) | (exact (f_srch_z hg (fun j => Iff.rfl) (by omega) rfl hrd (hw9.mp (by assumption)) (by assumption) hcp).1 (by assumption)))) (show (i + 1) ≤ sz from by omega) (lv_sub hl [0, 1, 2] rfl) (hP.sub [0, 13, 1, 2, 3, 4, 5, 6, 10, 11, 12, 7, 8, 9] rfl) (hD.sub [0, 13, 1, 2, 3, 4, 5, 6, 10, 11, 12, 7, 8, 9] (by decide) rfl) hS
            · refine lv_aload_n hx hb dX2_search_75 rfl (lv_at hl 1 rfl) ?_
              refine lv_iconst (v := (nI (2))) hx hb dX2_search_76 (by decide) ?_
              refine q_joini (wr := [(q0, .inr (5, [.ref ow, .int (nI (an)), .ref ra, .int (nI (sz)), .int (bI (lg)), .int (bI (rw9)), .ref fa, .int (bI (se))])), (ra, .inl (cL, 90, .inr (.inl (lF rs)))), (fa, .inl (cI, 192, .inl (oF g)))]) (va_runV (As := [.int (nI (2))]) (rest := []) ⟨hx, hb, hml, hown, hts⟩ (c_Finder_completes_4 l dC dI cI cL cQ cZ n0 fc0 fm0 th m1 t1 s1 st1 e1 fs mb tg sr sta en a1 a2 (min ((rs i) / 2 ^ 48 % 8) 4) (decide ((rs i) / 2 ^ 51 % 2 = 1)) nm1_4 pl1_5 (fun _ => none) 2 (show ∀ j, mb j < 4096 from by first | assumption | omega) (show ∀ j, tg j < 4096 from by first | assumption | omega) (show ∀ j, sr j < 4096 from by first | assumption | omega) (show ∀ j, sta j < 4096 from by first | assumption | omega) (show ∀ j, en j < 4096 from by first | assumption | omega) (show (min ((rs i) / 2 ^ 48 % 8) 4) ≤ 4 from by first | assumption | omega) (show f_nok nm1_4 (min ((rs i) / 2 ^ 48 % 8) 4) from by (exact hnk)) (show ∀ j, pl1_5 j < 16 from by first | assumption | omega) (show ∀ j k, (fun _ => none) j = some k → k < 12 from by (intro j k h; cases h)) (show 2 = 2 from by first | assumption | omega) (show ∀ w, 2 ≤ w → (fun _ => none) w = none from by (intro w _; rfl))) (q_cwV 1 hts gkX2_completes kmX2_60 knX2_completes klX2_completes kiX2 rfl rfl rfl (by decide +kernel) ⟨Nat.le_of_ble_eq_true rfl, Nat.le_of_ble_eq_true rfl⟩) (q_preVW hK hP hD [0, 13, 1, 2, 3, 4, 5, 6, 10, 11, 12] rfl (by decide) 0 (ci := 2) (r := (RX2, TX2, 3)) rfl rfl) rfl rfl hl.1 rfl (lv_room (Nat.le_of_ble_eq_true rfl)) dX2_search_77 ⟨Nat.zero_le _, Nat.zero_le _⟩) hP hD hS [0, 13, 1, 2, 3, 4, 5, 6, 10, 11, 12] [7, 8, 9] rfl rfl (by decide) (fun _ => rfl) (fun r18 u9 H locs hq19 hP hD hS => ?_)
              obtain ⟨b1_17, rfl⟩ : ∃ z, z = u9 := ⟨_, rfl⟩
              have hq19 : (r18 = (bI (b1_17))) ∧ (b1_17 = true ↔ f_comp nm1_4 pl1_5 mb tg sr sta en (min ((rs i) / 2 ^ 48 % 8) 4) 4 2 (fun _ => none)) := hq19
              obtain ⟨er18, hb1_20⟩ := hq19
              have hlast := hb1_20
              subst er18
              have hP : va_P (dC, dI) qCl [(q0, .inr (5, [.ref ow, .int (nI (an)), .ref ra, .int (nI (sz)), .int (bI (lg)), .int (bI (rw9)), .ref fa, .int (bI (se))])), (ra, .inl (cL, 90, .inr (.inl (lF rs)))), (fa, .inl (cI, 192, .inl (oF g))), (n0, .inr (2, [.ref fc0, .ref fm0, .ref th])), (th, .inl (cI, 6, .inl (oF (fun _ => none)))), (fc0, .inr (1, [.ref m1, .ref t1, .ref s1, .ref st1, .ref e1, .int (nI (fs))])), (m1, .inl (cI, 10, .inl (nF mb))), (t1, .inl (cI, 96, .inl (nF tg))), (s1, .inl (cI, 96, .inl (nF sr))), (st1, .inl (cI, 8, .inl (nF sta))), (e1, .inl (cI, 8, .inl (nF en))), (fm0, .inr (3, [.ref a1, .ref a2, .int (nI (min ((rs i) / 2 ^ 48 % 8) 4)), .int (bI (decide ((rs i) / 2 ^ 51 % 2 = 1)))])), (a1, .inl (cI, 4, .inl (nF nm1_4))), (a2, .inl (cI, 8, .inl (nF pl1_5)))] H := hP
              have hD : va_D A [(q0, .inr (5, [.ref ow, .int (nI (an)), .ref ra, .int (nI (sz)), .int (bI (lg)), .int (bI (rw9)), .ref fa, .int (bI (se))])), (ra, .inl (cL, 90, .inr (.inl (lF rs)))), (fa, .inl (cI, 192, .inl (oF g))), (n0, .inr (2, [.ref fc0, .ref fm0, .ref th])), (th, .inl (cI, 6, .inl (oF (fun _ => none)))), (fc0, .inr (1, [.ref m1, .ref t1, .ref s1, .ref st1, .ref e1, .int (nI (fs))])), (m1, .inl (cI, 10, .inl (nF mb))), (t1, .inl (cI, 96, .inl (nF tg))), (s1, .inl (cI, 96, .inl (nF sr))), (st1, .inl (cI, 8, .inl (nF sta))), (e1, .inl (cI, 8, .inl (nF en))), (fm0, .inr (3, [.ref a1, .ref a2, .int (nI (min ((rs i) / 2 ^ 48 % 8) 4)), .int (bI (decide ((rs i) / 2 ^ 51 % 2 = 1)))])), (a1, .inl (cI, 4, .inl (nF nm1_4))), (a2, .inl (cI, 8, .inl (nF pl1_5)))] := hD
              have hcp := hlast
              refine q_ifb_eq (b := b1_17) (tgt := 90) hx hb dX2_search_80 (by decide) (fun c80_21 => ?_) (fun c80_21 => ?_)
              · refine lv_iinc (v := (nI (i + 1))) (lv' := [(2, .int (nI (i + 1))), (0, .ref n0), (1, .ref q0)]) hx hb dX2_search_90 hl (k := 0) rfl (q_inc _) (by decide) rfl (fun ls hl => ?_)
                refine lv_goto (tgt := 10) hx hb dX2_search_93 (by decide) ?_
                exact ih10 (fun _ => none) (min ((rs i) / 2 ^ 48 % 8) 4) (decide ((rs i) / 2 ^ 51 % 2 = 1)) nm1_4 pl1_5 g (i + 1) ls _ _ (by omega) (show ∀ j, nm1_4 j < 64 from by (assumption)) (show ∀ j, pl1_5 j < 16 from by (assumption)) (show f_srch (fun q7 q8 => f_finds mb tg sr sta en an (rs q7) q8) (i + 1) g from by (first | (exact f_srch_no hg (fun j => Iff.rfl) rfl hrd (fun h9 => b_no (hw9.mpr h9) (by assumption))) | (exact f_srch_col hg (fun j => Iff.rfl) (by omega) rfl rfl hrd (hw9.mp (by assumption)) (by assumption)) | (exact f_srch_k hg (fun j => Iff.rfl) (by omega) (by assumption)) | (exact (f_srch_z hg (fun j => Iff.rfl) (by omega) rfl hrd (hw9.mp (by assumption)) (by assumption) hcp).2 (by assumption)) | (exact (f_srch_z hg (fun j => Iff.rfl) (by omega) rfl hrd (hw9.mp (by assumption)) (by assumption) hcp).1 (by assumption)))) (show (i + 1) ≤ sz from by omega) (lv_sub hl [0, 1, 2] rfl) (hP.sub [3, 4, 5, 6, 7, 8, 9, 10, 11, 12, 13, 0, 1, 2] rfl) (hD.sub [3, 4, 5, 6, 7, 8, 9, 10, 11, 12, 13, 0, 1, 2] (by decide) rfl) hS
              · refine lv_aload_n hx hb dX2_search_83 rfl (lv_at hl 2 rfl) ?_
                refine va_get (D := (dC, dI)) (ci := 5) (v := .ref fa) (C := RX5) (T := TX5) (N := 8) hx hb hts uX5 hown hK hP 0 rfl rfl 6 (by decide) (hts _ kfX2_26) (fun _ h9 => h9) rfl dX2_search_84 ?_
                refine lv_iconst (v := (nI (0))) hx hb dX2_search_87 (by decide) ?_
                refine lv_iload_n hx hb dX2_search_88 rfl (lv_at hl 0 rfl) ?_
                refine q_iastO hx hb hK hP hD hS 2 0 rfl rfl (j := 0) (x := some i) (by omega) (by omega) dX2_search_89 (fun H locs hP hD hS => ?_)
                have hP : va_P (dC, dI) qCl [(q0, .inr (5, [.ref ow, .int (nI (an)), .ref ra, .int (nI (sz)), .int (bI (lg)), .int (bI (rw9)), .ref fa, .int (bI (se))])), (ra, .inl (cL, 90, .inr (.inl (lF rs)))), (fa, .inl (cI, 192, .inl (oF (va_up g 0 (some i))))), (n0, .inr (2, [.ref fc0, .ref fm0, .ref th])), (th, .inl (cI, 6, .inl (oF (fun _ => none)))), (fc0, .inr (1, [.ref m1, .ref t1, .ref s1, .ref st1, .ref e1, .int (nI (fs))])), (m1, .inl (cI, 10, .inl (nF mb))), (t1, .inl (cI, 96, .inl (nF tg))), (s1, .inl (cI, 96, .inl (nF sr))), (st1, .inl (cI, 8, .inl (nF sta))), (e1, .inl (cI, 8, .inl (nF en))), (fm0, .inr (3, [.ref a1, .ref a2, .int (nI (min ((rs i) / 2 ^ 48 % 8) 4)), .int (bI (decide ((rs i) / 2 ^ 51 % 2 = 1)))])), (a1, .inl (cI, 4, .inl (nF nm1_4))), (a2, .inl (cI, 8, .inl (nF pl1_5)))] H := hP
                have hD : va_D A [(q0, .inr (5, [.ref ow, .int (nI (an)), .ref ra, .int (nI (sz)), .int (bI (lg)), .int (bI (rw9)), .ref fa, .int (bI (se))])), (ra, .inl (cL, 90, .inr (.inl (lF rs)))), (fa, .inl (cI, 192, .inl (oF (va_up g 0 (some i))))), (n0, .inr (2, [.ref fc0, .ref fm0, .ref th])), (th, .inl (cI, 6, .inl (oF (fun _ => none)))), (fc0, .inr (1, [.ref m1, .ref t1, .ref s1, .ref st1, .ref e1, .int (nI (fs))])), (m1, .inl (cI, 10, .inl (nF mb))), (t1, .inl (cI, 96, .inl (nF tg))), (s1, .inl (cI, 96, .inl (nF sr))), (st1, .inl (cI, 8, .inl (nF sta))), (e1, .inl (cI, 8, .inl (nF en))), (fm0, .inr (3, [.ref a1, .ref a2, .int (nI (min ((rs i) / 2 ^ 48 % 8) 4)), .int (bI (decide ((rs i) / 2 ^ 51 % 2 = 1)))])), (a1, .inl (cI, 4, .inl (nF nm1_4))), (a2, .inl (cI, 8, .inl (nF pl1_5)))] := hD
                refine lv_iinc (v := (nI (i + 1))) (lv' := [(2, .int (nI (i + 1))), (0, .ref n0), (1, .ref q0)]) hx hb dX2_search_90 hl (k := 0) rfl (q_inc _) (by decide) rfl (fun ls hl => ?_)
                refine lv_goto (tgt := 10) hx hb dX2_search_93 (by decide) ?_
                exact ih10 (fun _ => none) (min ((rs i) / 2 ^ 48 % 8) 4) (decide ((rs i) / 2 ^ 51 % 2 = 1)) nm1_4 pl1_5 (va_up g 0 (some i)) (i + 1) ls _ _ (by omega) (show ∀ j, nm1_4 j < 64 from by (assumption)) (show ∀ j, pl1_5 j < 16 from by (assumption)) (show f_srch (fun q7 q8 => f_finds mb tg sr sta en an (rs q7) q8) (i + 1) (va_up g 0 (some i)) from by (first | (exact f_srch_no hg (fun j => Iff.rfl) rfl hrd (fun h9 => b_no (hw9.mpr h9) (by assumption))) | (exact f_srch_col hg (fun j => Iff.rfl) (by omega) rfl rfl hrd (hw9.mp (by assumption)) (by assumption)) | (exact f_srch_k hg (fun j => Iff.rfl) (by omega) (by assumption)) | (exact (f_srch_z hg (fun j => Iff.rfl) (by omega) rfl hrd (hw9.mp (by assumption)) (by assumption) hcp).2 (by assumption)) | (exact (f_srch_z hg (fun j => Iff.rfl) (by omega) rfl hrd (hw9.mp (by assumption)) (by assumption) hcp).1 (by assumption)))) (show (i + 1) ≤ sz from by omega) (lv_sub hl [0, 1, 2] rfl) (hP.sub [3, 4, 5, 6, 7, 8, 9, 10, 11, 12, 13, 0, 1, 2] rfl) (hD.sub [3, 4, 5, 6, 7, 8, 9, 10, 11, 12, 13, 0, 1, 2] (by decide) rfl) hS
          · refine lv_aload_n hx hb dX2_search_56 rfl (lv_at hl 1 rfl) ?_
            refine lv_aload_n hx hb dX2_search_57 rfl (lv_at hl 2 rfl) ?_
            refine lv_iload_n hx hb dX2_search_58 rfl (lv_at hl 0 rfl) ?_
            refine q_joinv (wr := [(ra, .inl (cL, 90, .inr (.inl (lF rs))))]) (va_runV (As := [.ref q0, .int (nI (i))]) (rest := []) ⟨hx, hb, hml, hown, hts⟩ (c_Finder_collect l dC dI cI cL cQ cZ n0 fc0 fm0 th m1 t1 s1 st1 e1 fs mb tg sr sta en a1 a2 (min ((rs i) / 2 ^ 48 % 8) 4) (decide ((rs i) / 2 ^ 51 % 2 = 1)) nm1_4 pl1_5 q0 ow an ra sz lg rw9 fa se g i (show ∀ j, mb j < 4096 from by first | assumption | omega) (show ∀ j, tg j < 4096 from by first | assumption | omega) (show ∀ j, sr j < 4096 from by first | assumption | omega) (show ∀ j, sta j < 4096 from by first | assumption | omega) (show ∀ j, en j < 4096 from by first | assumption | omega) (show (min ((rs i) / 2 ^ 48 % 8) 4) ≤ 4 from by first | assumption | omega) (show f_nok nm1_4 (min ((rs i) / 2 ^ 48 % 8) 4) from by (exact hnk)) (show ∀ j, pl1_5 j < 16 from by first | assumption | omega) (show ∀ j i, g j = some i → i < 90 from by (intro j k h; have := f_srch_lt hg j k h; omega)) (show i < 90 from by first | assumption | omega) (show an = 1 ∨ an = 2 from by first | assumption | omega)) (q_cwV 2 hts gkX2_collect kmX2_56 knX2_collect klX2_collect kiX2 rfl rfl rfl (by decide +kernel) ⟨Nat.le_of_ble_eq_true rfl, Nat.le_of_ble_eq_true rfl⟩) (q_preVW hK hP hD [0, 13, 1, 2, 3, 4, 5, 6, 10, 11, 12, 7, 9] rfl (by decide) 0 (ci := 2) (r := (RX2, TX2, 3)) rfl rfl) rfl rfl hl.1 rfl (lv_room (Nat.le_of_ble_eq_true rfl)) dX2_search_59 ⟨Nat.zero_le _, Nat.zero_le _⟩) hP hD hS [0, 13, 1, 2, 3, 4, 5, 6, 10, 11, 12, 7, 9] [8] rfl rfl (by decide) (fun _ => rfl) (fun u9 H locs hq25 hP hD hS => ?_)
            obtain ⟨tx1_22, fd1_23⟩ := u9
            have hq25 : (∀ j i, tx1_22 j = some i → i < 12) ∧ (f_colr (f_col nm1_4 pl1_5 mb tg sr sta en (min ((rs i) / 2 ^ 48 % 8) 4) an (decide ((rs i) / 2 ^ 51 % 2 = 1))) i g fd1_23) := hq25
            obtain ⟨htx1_26, hcol_27⟩ := hq25
            have hlast := hcol_27
            have hP : va_P (dC, dI) qCl [(ra, .inl (cL, 90, .inr (.inl (lF rs)))), (n0, .inr (2, [.ref fc0, .ref fm0, .ref th])), (th, .inl (cI, 6, .inl (oF tx1_22))), (fc0, .inr (1, [.ref m1, .ref t1, .ref s1, .ref st1, .ref e1, .int (nI (fs))])), (m1, .inl (cI, 10, .inl (nF mb))), (t1, .inl (cI, 96, .inl (nF tg))), (s1, .inl (cI, 96, .inl (nF sr))), (st1, .inl (cI, 8, .inl (nF sta))), (e1, .inl (cI, 8, .inl (nF en))), (fm0, .inr (3, [.ref a1, .ref a2, .int (nI (min ((rs i) / 2 ^ 48 % 8) 4)), .int (bI (decide ((rs i) / 2 ^ 51 % 2 = 1)))])), (a1, .inl (cI, 4, .inl (nF nm1_4))), (a2, .inl (cI, 8, .inl (nF pl1_5))), (q0, .inr (5, [.ref ow, .int (nI (an)), .ref ra, .int (nI (sz)), .int (bI (lg)), .int (bI (rw9)), .ref fa, .int (bI (se))])), (fa, .inl (cI, 192, .inl (oF fd1_23)))] H := hP
            have hD : va_D A [(ra, .inl (cL, 90, .inr (.inl (lF rs)))), (n0, .inr (2, [.ref fc0, .ref fm0, .ref th])), (th, .inl (cI, 6, .inl (oF tx1_22))), (fc0, .inr (1, [.ref m1, .ref t1, .ref s1, .ref st1, .ref e1, .int (nI (fs))])), (m1, .inl (cI, 10, .inl (nF mb))), (t1, .inl (cI, 96, .inl (nF tg))), (s1, .inl (cI, 96, .inl (nF sr))), (st1, .inl (cI, 8, .inl (nF sta))), (e1, .inl (cI, 8, .inl (nF en))), (fm0, .inr (3, [.ref a1, .ref a2, .int (nI (min ((rs i) / 2 ^ 48 % 8) 4)), .int (bI (decide ((rs i) / 2 ^ 51 % 2 = 1)))])), (a1, .inl (cI, 4, .inl (nF nm1_4))), (a2, .inl (cI, 8, .inl (nF pl1_5))), (q0, .inr (5, [.ref ow, .int (nI (an)), .ref ra, .int (nI (sz)), .int (bI (lg)), .int (bI (rw9)), .ref fa, .int (bI (se))])), (fa, .inl (cI, 192, .inl (oF fd1_23)))] := hD
            refine lv_goto (tgt := 90) hx hb dX2_search_62 (by decide) ?_
            refine lv_iinc (v := (nI (i + 1))) (lv' := [(2, .int (nI (i + 1))), (0, .ref n0), (1, .ref q0)]) hx hb dX2_search_90 hl (k := 0) rfl (q_inc _) (by decide) rfl (fun ls hl => ?_)
            refine lv_goto (tgt := 10) hx hb dX2_search_93 (by decide) ?_
            exact ih10 tx1_22 (min ((rs i) / 2 ^ 48 % 8) 4) (decide ((rs i) / 2 ^ 51 % 2 = 1)) nm1_4 pl1_5 fd1_23 (i + 1) ls _ _ (by omega) (show ∀ j, nm1_4 j < 64 from by (assumption)) (show ∀ j, pl1_5 j < 16 from by (assumption)) (show f_srch (fun q7 q8 => f_finds mb tg sr sta en an (rs q7) q8) (i + 1) fd1_23 from by (first | (exact f_srch_no hg (fun j => Iff.rfl) rfl hrd (fun h9 => b_no (hw9.mpr h9) (by assumption))) | (exact f_srch_col hg (fun j => Iff.rfl) (by omega) rfl rfl hrd (hw9.mp (by assumption)) (by assumption)) | (exact f_srch_k hg (fun j => Iff.rfl) (by omega) (by assumption)) | (exact (f_srch_z hg (fun j => Iff.rfl) (by omega) rfl hrd (hw9.mp (by assumption)) (by assumption) hcp).2 (by assumption)) | (exact (f_srch_z hg (fun j => Iff.rfl) (by omega) rfl hrd (hw9.mp (by assumption)) (by assumption) hcp).1 (by assumption)))) (show (i + 1) ≤ sz from by omega) (lv_sub hl [0, 1, 2] rfl) (hP.sub [1, 2, 3, 4, 5, 6, 7, 8, 9, 10, 11, 12, 0, 13] rfl) (hD.sub [1, 2, 3, 4, 5, 6, 7, 8, 9, 10, 11, 12, 0, 13] (by decide) rfl) hS
        · refine lv_goto (tgt := 90) hx hb dX2_search_46 (by decide) ?_
          refine lv_iinc (v := (nI (i + 1))) (lv' := [(2, .int (nI (i + 1))), (0, .ref n0), (1, .ref q0)]) hx hb dX2_search_90 hl (k := 0) rfl (q_inc _) (by decide) rfl (fun ls hl => ?_)
          refine lv_goto (tgt := 10) hx hb dX2_search_93 (by decide) ?_
          exact ih10 (fun _ => none) (min ((rs i) / 2 ^ 48 % 8) 4) (decide ((rs i) / 2 ^ 51 % 2 = 1)) nm1_4 pl1_5 g (i + 1) ls _ _ (by omega) (show ∀ j, nm1_4 j < 64 from by (assumption)) (show ∀ j, pl1_5 j < 16 from by (assumption)) (show f_srch (fun q7 q8 => f_finds mb tg sr sta en an (rs q7) q8) (i + 1) g from by (first | (exact f_srch_no hg (fun j => Iff.rfl) rfl hrd (fun h9 => b_no (hw9.mpr h9) (by assumption))) | (exact f_srch_col hg (fun j => Iff.rfl) (by omega) rfl rfl hrd (hw9.mp (by assumption)) (by assumption)) | (exact f_srch_k hg (fun j => Iff.rfl) (by omega) (by assumption)) | (exact (f_srch_z hg (fun j => Iff.rfl) (by omega) rfl hrd (hw9.mp (by assumption)) (by assumption) hcp).2 (by assumption)) | (exact (f_srch_z hg (fun j => Iff.rfl) (by omega) rfl hrd (hw9.mp (by assumption)) (by assumption) hcp).1 (by assumption)))) (show (i + 1) ≤ sz from by omega) (lv_sub hl [0, 1, 2] rfl) (hP.sub [0, 13, 1, 2, 3, 4, 5, 6, 10, 11, 12, 7, 8, 9] rfl) (hD.sub [0, 13, 1, 2, 3, 4, 5, 6, 10, 11, 12, 7, 8, 9] (by decide) rfl) hS
  exact L10 _ tv n jn nm pl (fun _ => none) 0 ls _ _ (by exact Nat.lt_succ_self _) (show ∀ j, nm j < 64 from by (exact hnm)) (show ∀ j, pl j < 16 from by (exact hpl)) (show f_srch (fun q7 q8 => f_finds mb tg sr sta en an (rs q7) q8) 0 (fun _ => none) from by (exact f_srch_0 _)) (show 0 ≤ sz from by omega) (lv_sub hl [0, 1, 2] rfl) (hP.sub [0, 1, 2, 3, 4, 5, 6, 7, 8, 9, 10, 11, 12, 13] rfl) (hD.sub [0, 1, 2, 3, 4, 5, 6, 7, 8, 9, 10, 11, 12, 13] (by decide) rfl) hS
