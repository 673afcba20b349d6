/-! The start, and the loop's head -/
theorem tab_out13 {x : Int32} (h0 : ¬ x = nI 0) (h1 : ¬ x = nI 1) (h2 : ¬ x = nI 2) (h3 : ¬ x = nI 3) (h4 : ¬ x = nI 4) (h5 : ¬ x = nI 5) (h6 : ¬ x = nI 6) (h7 : ¬ x = nI 7) (h8 : ¬ x = nI 8) (h9 : ¬ x = nI 9) (h10 : ¬ x = nI 10) (h11 : ¬ x = nI 11) (h12 : ¬ x = nI 12) : x.toInt < 0 ∨ 12 < x.toInt := by
  have g : ∀ k : Nat, k < 2 ^ 31 → ¬ x = nI k → x.toInt ≠ (k : Int) := fun k hk h e => h (Int32.toInt_inj.mp (by rw [nI_toInt hk]; exact e))
  have a0 := g 0 (by decide) h0
  have a1 := g 1 (by decide) h1
  have a2 := g 2 (by decide) h2
  have a3 := g 3 (by decide) h3
  have a4 := g 4 (by decide) h4
  have a5 := g 5 (by decide) h5
  have a6 := g 6 (by decide) h6
  have a7 := g 7 (by decide) h7
  have a8 := g 8 (by decide) h8
  have a9 := g 9 (by decide) h9
  have a10 := g 10 (by decide) h10
  have a11 := g 11 (by decide) h11
  have a12 := g 12 (by decide) h12
  omega
theorem L_sub6 {n : Nat} : nI (n + 6) - nI 6 = nI n := by
  rw [← nI_add]
  exact i_inj (by show ((nI n).toBitVec + (nI 6).toBitVec) - (nI 6).toBitVec = (nI n).toBitVec; exact BitVec.add_sub_cancel _ _)
theorem L_gt {i L : Nat} (hL : L ≤ 3072) (hi : i ≤ 4000) (h : ¬ nI L - nI 6 < nI i) : i + 6 ≤ L := by
  by_cases h6 : 6 ≤ L
  · obtain ⟨n, rfl⟩ : ∃ n, L = n + 6 := ⟨L - 6, by omega⟩
    rw [L_sub6, nI_ltI (by omega) (by omega)] at h
    omega
  · refine absurd ?_ h
    rw [Int32.lt_iff_toInt_lt, nI_toInt (show i < 2 ^ 31 by omega)]
    have : (nI L - nI 6).toInt < 0 := by
      rcases (show L = 0 ∨ L = 1 ∨ L = 2 ∨ L = 3 ∨ L = 4 ∨ L = 5 by omega) with rfl | rfl | rfl | rfl | rfl | rfl <;> decide
    omega
theorem LA_0 : LA 0 (fun _ => 0) (fun _ => 0) (fun _ => 0) := ⟨by decide, fun _ => Nat.succ_pos _, fun _ => Nat.succ_pos _, fun _ => Nat.succ_pos _, fun j h => absurd h (Nat.not_lt_zero j)⟩
theorem LF_0 : LF 0 (fun _ => 0) (fun _ => 0) (fun _ => 0) (fun _ => 0) (fun _ => 0) (fun _ => 0) (fun _ => 0) (fun _ => 0) := by
  have z : ∀ _ : Nat, (0 : Nat) < 4096 := fun _ => by decide
  refine ⟨by decide, ⟨z, z, z, z, z⟩, fun r _ => ⟨fun a b _ _ => ?_, fun a _ => ?_, fun b _ => ?_⟩, ⟨fun k h => absurd h (Nat.not_lt_zero k), fun x a b _ _ _ => ?_, fun i k _ h => absurd h (Nat.not_lt_zero k)⟩, fun _ => Nat.succ_pos _, fun _ => Nat.succ_pos _, fun _ => Nat.succ_pos _⟩
  · rw [Nat.zero_testBit, Nat.zero_testBit]
  · rw [Nat.zero_testBit]
    refine ⟨fun h => (by cases h), fun ⟨b, _, h⟩ => ?_⟩
    rw [Nat.zero_testBit] at h; cases h
  · rw [Nat.zero_testBit]
    refine ⟨fun h => (by cases h), fun ⟨a, _, h⟩ => ?_⟩
    rw [Nat.zero_testBit] at h; cases h
  · unfold s_bit
    rw [Nat.zero_testBit, Nat.zero_testBit]
    refine ⟨fun h => ?_, fun ⟨k, h, _⟩ => absurd h (Nat.not_lt_zero k)⟩
    split at h <;> cases h
theorem c_fmk_0 : c_fmk 0 (fun _ => 0) (fun _ => 0) := ⟨by decide, fun _ => Nat.succ_pos _, fun _ => Nat.succ_pos _⟩
theorem LQ_0 : LQ 0 (fun _ => 0) (fun _ => 0) (fun _ _ => 0) (fun _ _ => 0) (fun _ => 0) (fun _ => 0) (fun _ => 0) (fun _ => 0) (fun _ => 0) := ⟨by decide, ⟨fun _ => Nat.zero_le _, fun _ => Nat.zero_le _, fun _ => Nat.succ_pos _, fun _ => Nat.succ_pos _, fun _ => Nat.succ_pos _⟩, fun _ _ => ⟨c_fmk_0, Nat.zero_le _⟩, fun k h => absurd h (Nat.not_lt_zero k)⟩
theorem LC_0 {na : Nat} {kd lf rg mb tg sr sta en an on sz : Nat → Nat} {onm opl : Nat → Nat → Nat} {lg rwn se : Nat → Bool} {fd : Nat → Nat → Option Nat} : LC 0 na kd lf rg mb tg sr sta en an on onm opl (fun _ _ => 0) sz lg rwn se fd := ⟨fun _ _ _ => Nat.two_pow_pos _, fun k h => absurd h (Nat.not_lt_zero k)⟩
theorem LB_0 {na : Nat} {kd lf rg mb tg sr sta en : Nat → Nat} {brk : Int32} : LB na kd lf rg mb tg sr sta en false brk := fun h => by cases h
theorem LW_0 {nd : Nat → Nat} (h : c_nmk nd (fun _ => 0) (fun _ => 0)) : LW nd (fun _ => 0) (fun _ => 0) 0 (fun _ => 0) (fun _ => 0) 0 (fun _ => 0) (fun _ => 0) (fun _ => 0) (fun _ => 0) 0 (fun _ => 0) (fun _ => 0) (fun _ => 0) := ⟨h, c_fmk_0, c_fmk_0, ⟨fun _ => Nat.succ_pos _, fun _ => Nat.succ_pos _⟩, c_fmk_0, fun _ => Nat.two_pow_pos _⟩
theorem LM_0 {na : Nat} {kd lf rg qa qn qx qy qz : Nat → Nat} {lgM : Bool} : LM 0 na kd lf rg qa qn qx qy qz 0 (fun _ => 0) (fun _ => 0) (fun _ => 0) (fun _ => 0) (fun _ => 0) (fun _ => 0) (fun _ => 0) (fun _ => 0) (fun _ => 0) (fun _ => 0) (fun _ => some 0) 0 lgM none (fun _ => some 0) := by
  have z : ∀ {n : Nat}, 0 < n → ∀ _ : Nat, (0 : Nat) < n := fun h _ => h
  refine ⟨⟨by decide, z (by decide), z (by decide), z (by decide)⟩, ⟨z (by decide), z (by decide), z (by decide), z (by decide), z (by decide)⟩, ⟨fun _ => Nat.zero_le _, z (by decide), fun j k h => ?_⟩, fun j k h => ?_, by decide, fun q h => by cases h⟩
  · cases h; decide
  · cases h; decide
