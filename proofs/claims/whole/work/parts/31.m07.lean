abbrev cX8_take : ByteArray := prog_10_method_15_code
def yX8_take : MethodName := ⟨RX8, "take", "(I)V"⟩
def wkX8_take : List Cond := .code yX8_take cX8_take 3 none :: qW
set_option maxRecDepth 40000 in
theorem gkX8_take : GoodIn qW wkX8_take := q_good (qw 737 rfl rfl)
set_option maxRecDepth 40000 in
theorem knX8_take : Cond.instanceMethod yX8_take ∈ qW := qw 736 rfl rfl
set_option maxRecDepth 40000 in
theorem klX8_take : Cond.selects RX8 yX8_take yX8_take ∈ qW := qw 22 rfl rfl
theorem dX8_take_0 : decode cX8_take 0 = .ok (.aload_n 0, 1) := by decide +kernel
theorem dX8_take_1 : decode cX8_take 1 = .ok (.dup, 1) := by decide +kernel
theorem dX8_take_2 : decode cX8_take 2 = .ok (.getfield 121, 3) := by decide +kernel
theorem dX8_take_5 : decode cX8_take 5 = .ok (.iconst 1, 1) := by decide +kernel
theorem dX8_take_6 : decode cX8_take 6 = .ok (.isub, 1) := by decide +kernel
theorem dX8_take_7 : decode cX8_take 7 = .ok (.putfield 121, 3) := by decide +kernel
theorem dX8_take_10 : decode cX8_take 10 = .ok (.iload_n 1, 1) := by decide +kernel
theorem dX8_take_11 : decode cX8_take 11 = .ok (.istore_n 2, 1) := by decide +kernel
theorem dX8_take_12 : decode cX8_take 12 = .ok (.iload_n 2, 1) := by decide +kernel
theorem dX8_take_13 : decode cX8_take 13 = .ok (.aload_n 0, 1) := by decide +kernel
theorem dX8_take_14 : decode cX8_take 14 = .ok (.getfield 121, 3) := by decide +kernel
theorem dX8_take_17 : decode cX8_take 17 = .ok (.if_icmp .ge 51, 3) := by decide +kernel
theorem dX8_take_20 : decode cX8_take 20 = .ok (.aload_n 0, 1) := by decide +kernel
theorem dX8_take_21 : decode cX8_take 21 = .ok (.getfield 56, 3) := by decide +kernel
theorem dX8_take_24 : decode cX8_take 24 = .ok (.iload_n 2, 1) := by decide +kernel
theorem dX8_take_25 : decode cX8_take 25 = .ok (.aload_n 0, 1) := by decide +kernel
theorem dX8_take_26 : decode cX8_take 26 = .ok (.getfield 56, 3) := by decide +kernel
theorem dX8_take_29 : decode cX8_take 29 = .ok (.iload_n 2, 1) := by decide +kernel
theorem dX8_take_30 : decode cX8_take 30 = .ok (.iconst 1, 1) := by decide +kernel
theorem dX8_take_31 : decode cX8_take 31 = .ok (.iadd, 1) := by decide +kernel
theorem dX8_take_32 : decode cX8_take 32 = .ok (.iaload, 1) := by decide +kernel
theorem dX8_take_33 : decode cX8_take 33 = .ok (.iastore, 1) := by decide +kernel
theorem dX8_take_34 : decode cX8_take 34 = .ok (.aload_n 0, 1) := by decide +kernel
theorem dX8_take_35 : decode cX8_take 35 = .ok (.getfield 59, 3) := by decide +kernel
theorem dX8_take_38 : decode cX8_take 38 = .ok (.iload_n 2, 1) := by decide +kernel
theorem dX8_take_39 : decode cX8_take 39 = .ok (.aload_n 0, 1) := by decide +kernel
theorem dX8_take_40 : decode cX8_take 40 = .ok (.getfield 59, 3) := by decide +kernel
theorem dX8_take_43 : decode cX8_take 43 = .ok (.iload_n 2, 1) := by decide +kernel
theorem dX8_take_44 : decode cX8_take 44 = .ok (.iconst 1, 1) := by decide +kernel
theorem dX8_take_45 : decode cX8_take 45 = .ok (.iadd, 1) := by decide +kernel
theorem dX8_take_46 : decode cX8_take 46 = .ok (.iaload, 1) := by decide +kernel
theorem dX8_take_47 : decode cX8_take 47 = .ok (.iastore, 1) := by decide +kernel
theorem dX8_take_48 : decode cX8_take 48 = .ok (.aload_n 0, 1) := by decide +kernel
theorem dX8_take_49 : decode cX8_take 49 = .ok (.getfield 62, 3) := by decide +kernel
theorem dX8_take_52 : decode cX8_take 52 = .ok (.iload_n 2, 1) := by decide +kernel
theorem dX8_take_53 : decode cX8_take 53 = .ok (.aload_n 0, 1) := by decide +kernel
theorem dX8_take_54 : decode cX8_take 54 = .ok (.getfield 62, 3) := by decide +kernel
theorem dX8_take_57 : decode cX8_take 57 = .ok (.iload_n 2, 1) := by decide +kernel
theorem dX8_take_58 : decode cX8_take 58 = .ok (.iconst 1, 1) := by decide +kernel
theorem dX8_take_59 : decode cX8_take 59 = .ok (.iadd, 1) := by decide +kernel
theorem dX8_take_60 : decode cX8_take 60 = .ok (.iaload, 1) := by decide +kernel
theorem dX8_take_61 : decode cX8_take 61 = .ok (.iastore, 1) := by decide +kernel
theorem dX8_take_62 : decode cX8_take 62 = .ok (.iinc 2 1, 3) := by decide +kernel
theorem dX8_take_65 : decode cX8_take 65 = .ok (.goto (-53), 3) := by decide +kernel
theorem dX8_take_68 : decode cX8_take 68 = .ok (.return_, 1) := by decide +kernel
abbrev rm_c_Model_take : Room := { frames := 0, cells := 0, slots := 0, locals := 0 }
set_option maxHeartbeats 4000000 in
set_option maxRecDepth 100000 in
theorem c_Model_take (l : Launch) (dC : Nat → ClassId) (dI : Nat → Nat → Nat) (cI cL cQ cZ : ClassId) (x0 : Nat) (ax : Nat) (z1 : Nat) (z2 : Nat) (z3 : Nat) (fc : Nat) (z5 : Nat) (z6 : Nat) (z7 : Nat) (qs : Nat) (z9 : Nat) (z10 : Nat) (z11 : Nat) (z12 : Nat) (z13 : Nat) (hd : Option Nat) (lg : Bool) (fcn : Nat) (z17 : Nat) (z18 : Nat) (z19 : Nat) (md : Nat) (z21 : Nat) (z22 : Nat) (z23 : Nat) (z24 : Nat) (hc : Nat) (z26 : Nat) (z27 : Nat) (z28 : Nat) (z29 : Nat) (z30 : Nat) (z31 : Nat) (sm : Bool) (z33 : Nat) (z34 : Nat) (pp : Nat → Nat) (pa : Nat → Nat) (pb : Nat → Nat) (k : Nat) (hmd : md ≤ 4) (hk : k < md) : Met l yX8_take wkX8_take rm_c_Model_take (q_W (dC, dI) qCl (qT cI cL cQ cZ) [(x0, .inr (8, mO ax z1 z2 z3 fc z5 z6 z7 qs z9 z10 z11 z12 z13 hd lg fcn z17 z18 z19 md z21 z22 z23 z24 hc z26 z27 z28 z29 z30 z31 sm z33 z34)), (z21, .inl (cI, 4, .inl (nF pp))), (z22, .inl (cI, 4, .inl (nF pa))), (z23, .inl (cI, 4, .inl (nF pb)))] [.ref x0, .int (nI (k))]) (va_Qv (fun (u : Unit) => True) (fun (u : Unit) t => va_P (dC, dI) qCl [(x0, .inr (8, mO ax z1 z2 z3 fc z5 z6 z7 qs z9 z10 z11 z12 z13 hd lg fcn z17 z18 z19 (md - 1) z21 z22 z23 z24 hc z26 z27 z28 z29 z30 z31 sm z33 z34)), (z21, .inl (cI, 4, .inl (nF (m_dl pp k (md - 1))))), (z22, .inl (cI, 4, .inl (nF (m_dl pa k (md - 1))))), (z23, .inl (cI, 4, .inl (nF (m_dl pb k (md - 1)))))] t.heap) (q_A [(x0, .inr (8, mO ax z1 z2 z3 fc z5 z6 z7 qs z9 z10 z11 z12 z13 hd lg fcn z17 z18 z19 md z21 z22 z23 z24 hc z26 z27 z28 z29 z30 z31 sm z33 z34)), (z21, .inl (cI, 4, .inl (nF pp))), (z22, .inl (cI, 4, .inl (nF pa))), (z23, .inl (cI, 4, .inl (nF pb)))])) 0 0 (q_A [(x0, .inr (8, mO ax z1 z2 z3 fc z5 z6 z7 qs z9 z10 z11 z12 z13 hd lg fcn z17 z18 z19 md z21 z22 z23 z24 hc z26 z27 z28 z29 z30 z31 sm z33 z34)), (z21, .inl (cI, 4, .inl (nF pp))), (z22, .inl (cI, 4, .inl (nF pa))), (z23, .inl (cI, 4, .inl (nF pb)))]) := by
  refine Met.ofW (cc := cX8_take) (maxL := 3) (ret := none) (by decide) rfl ?_
  intro p e s m args below meth c s₁ B hml hv
  obtain ⟨hargs, hP, hK, hD0⟩ := hv
  have hx := B.exec
  have hb := B.bytes
  have hr := B.returns
  have hts : ∀ w ∈ qW, w.before args s = true := fun w h => atoms_spec (ws := wkX8_take) B.pre w (List.mem_cons_of_mem _ h)
  have hown : s.vm.findClass RX8 = some m.cls := findClass_of_methodNamed B.named
  have hlocks := B.notSynchronized
  refine q_named (fun Q hQ => ?_)
  have hD : va_D (q_A [(x0, .inr (8, mO ax z1 z2 z3 fc z5 z6 z7 qs z9 z10 z11 z12 z13 hd lg fcn z17 z18 z19 md z21 z22 z23 z24 hc z26 z27 z28 z29 z30 z31 sm z33 z34)), (z21, .inl (cI, 4, .inl (nF pp))), (z22, .inl (cI, 4, .inl (nF pa))), (z23, .inl (cI, 4, .inl (nF pb)))]) [(x0, .inr (8, mO ax z1 z2 z3 fc z5 z6 z7 qs z9 z10 z11 z12 z13 hd lg fcn z17 z18 z19 md z21 z22 z23 z24 hc z26 z27 z28 z29 z30 z31 sm z33 z34)), (z21, .inl (cI, 4, .inl (nF pp))), (z22, .inl (cI, 4, .inl (nF pa))), (z23, .inl (cI, 4, .inl (nF pb)))] := ⟨hD0.1, fun k q h => ⟨k, q.2, h⟩⟩
  generalize hAe : q_A [(x0, .inr (8, mO ax z1 z2 z3 fc z5 z6 z7 qs z9 z10 z11 z12 z13 hd lg fcn z17 z18 z19 md z21 z22 z23 z24 hc z26 z27 z28 z29 z30 z31 sm z33 z34)), (z21, .inl (cI, 4, .inl (nF pp))), (z22, .inl (cI, 4, .inl (nF pa))), (z23, .inl (cI, 4, .inl (nF pb)))] = A at hD
  have hS : va_S A s.heap s.heap [] := va_S.rf
  refine q_entry hargs (Nat.le_of_ble_eq_true rfl) (fun ls hl => ?_)
  have hl : lv_has ls 3 [(0, .ref x0), (1, .int (nI (k)))] := hl
  obtain ⟨H, locs, eH, eL⟩ : ∃ (H : Heap) (locs : List Loc), s.heap = H ∧ ([] : List Loc) = locs := ⟨_, _, rfl, rfl⟩
  have hS : va_S A s.heap H locs := by rw [← eH, ← eL]; exact hS
  have hP : va_P (dC, dI) qCl [(x0, .inr (8, mO ax z1 z2 z3 fc z5 z6 z7 qs z9 z10 z11 z12 z13 hd lg fcn z17 z18 z19 md z21 z22 z23 z24 hc z26 z27 z28 z29 z30 z31 sm z33 z34)), (z21, .inl (cI, 4, .inl (nF pp))), (z22, .inl (cI, 4, .inl (nF pa))), (z23, .inl (cI, 4, .inl (nF pb)))] H := by rw [← eH]; exact hP
  refine W_at eH eL ?_
  refine lv_aload_n hx hb dX8_take_0 rfl (lv_at hl 0 rfl) ?_
  refine lv_dup hx hb dX8_take_1 rfl ?_
  refine va_get (D := (dC, dI)) (ci := 8) (v := .int (nI (md))) (C := RX8) (T := TX8) (N := 35) hx hb hts uX8 hown hK hP 0 rfl rfl 20 (by decide) (hts _ kfX8_121) (fun _ h9 => h9) rfl dX8_take_2 ?_
  refine lv_iconst (v := (nI (1))) hx hb dX8_take_5 (by decide) ?_
  refine q_isub (x := md) (y := 1) hx hb (by omega) dX8_take_6 ?_
  refine va_put (D := (dC, dI)) (ci := 8) (v := .int (nI (md - 1))) (ty := .int) (C := RX8) (T := TX8) (N := 35) hx hb hts uX8 tyX8 tyX8_ok nmX8 hown hK hP hD hS 0 rfl rfl 20 (by decide) (hts _ kfX8_121) (fun _ h9 => h9) rfl (by decide +kernel) (rfl) (rfl) (Nat.le_of_ble_eq_true rfl) dX8_take_7 (fun H locs hP hD hS => ?_)
  have hP : va_P (dC, dI) qCl [(x0, .inr (8, mO ax z1 z2 z3 fc z5 z6 z7 qs z9 z10 z11 z12 z13 hd lg fcn z17 z18 z19 (md - 1) z21 z22 z23 z24 hc z26 z27 z28 z29 z30 z31 sm z33 z34)), (z21, .inl (cI, 4, .inl (nF pp))), (z22, .inl (cI, 4, .inl (nF pa))), (z23, .inl (cI, 4, .inl (nF pb)))] H := hP
  have hD : va_D A [(x0, .inr (8, mO ax z1 z2 z3 fc z5 z6 z7 qs z9 z10 z11 z12 z13 hd lg fcn z17 z18 z19 (md - 1) z21 z22 z23 z24 hc z26 z27 z28 z29 z30 z31 sm z33 z34)), (z21, .inl (cI, 4, .inl (nF pp))), (z22, .inl (cI, 4, .inl (nF pa))), (z23, .inl (cI, 4, .inl (nF pb)))] := hD
  refine lv_iload_n hx hb dX8_take_10 rfl (lv_at hl 1 rfl) ?_
  refine lv_istore_n (lv' := [(2, .int (nI (k))), (0, .ref x0), (1, .int (nI (k)))]) hx hb dX8_take_11 rfl hl (by decide) rfl (fun ls hl => ?_)
  have L12 : ∀ (fu : Nat) (g1 : Nat → Nat) (g2 : Nat → Nat) (g3 : Nat → Nat) (i : Nat) (ls : Array Slot) (H : Heap) (locs : List Loc), md - 1 - i < fu → (k ≤ i ∧ i ≤ md - 1) → (g1 = m_dl pp k i) → (g2 = m_dl pa k i) → (g3 = m_dl pb k i) → lv_has ls 3 [(2, .int (nI (i))), (0, .ref x0), (1, .int (nI (k)))] → va_P (dC, dI) qCl [(x0, .inr (8, mO ax z1 z2 z3 fc z5 z6 z7 qs z9 z10 z11 z12 z13 hd lg fcn z17 z18 z19 (md - 1) z21 z22 z23 z24 hc z26 z27 z28 z29 z30 z31 sm z33 z34)), (z21, .inl (cI, 4, .inl (nF g1))), (z22, .inl (cI, 4, .inl (nF g2))), (z23, .inl (cI, 4, .inl (nF g3)))] H → va_D A [(x0, .inr (8, mO ax z1 z2 z3 fc z5 z6 z7 qs z9 z10 z11 z12 z13 hd lg fcn z17 z18 z19 (md - 1) z21 z22 z23 z24 hc z26 z27 z28 z29 z30 z31 sm z33 z34)), (z21, .inl (cI, 4, .inl (nF g1))), (z22, .inl (cI, 4, .inl (nF g2))), (z23, .inl (cI, 4, .inl (nF g3)))] → va_S A s.heap H locs → W p l e (headSpec wkX8_take rm_c_Model_take).room s m args below meth c H locs 0 0 Q (F0 m 12 ls []) := by
    intro fu
    induction fu with
    | zero => intro g1 g2 g3 i ls H locs hmu; exact absurd hmu (Nat.not_lt_zero _)
    | succ fu ih12 =>
      intro g1 g2 g3 i ls H locs hmu hi h1 h2 h3 hl hP hD hS
      refine lv_iload_n hx hb dX8_take_12 rfl (lv_at hl 0 rfl) ?_
      refine lv_aload_n hx hb dX8_take_13 rfl (lv_at hl 1 rfl) ?_
      refine va_get (D := (dC, dI)) (ci := 8) (v := .int (nI (md - 1))) (C := RX8) (T := TX8) (N := 35) hx hb hts uX8 hown hK hP 0 rfl rfl 20 (by decide) (hts _ kfX8_121) (fun _ h9 => h9) rfl dX8_take_14 ?_
      refine q_icmp_ge (x := i) (y := md - 1) (tgt := 68) hx hb dX8_take_17 (by decide) (by omega) (by omega) (fun c17_1 => ?_) (fun c17_1 => ?_)
      · have ea2 : (g1) = m_dl pp k (md - 1) := by (rw [h1, show i = md - 1 by omega])
        rw [ea2] at hP hD
        have hP : va_P (dC, dI) qCl [(x0, .inr (8, mO ax z1 z2 z3 fc z5 z6 z7 qs z9 z10 z11 z12 z13 hd lg fcn z17 z18 z19 (md - 1) z21 z22 z23 z24 hc z26 z27 z28 z29 z30 z31 sm z33 z34)), (z21, .inl (cI, 4, .inl (nF (m_dl pp k (md - 1))))), (z22, .inl (cI, 4, .inl (nF g2))), (z23, .inl (cI, 4, .inl (nF g3)))] H := hP
        have hD : va_D A [(x0, .inr (8, mO ax z1 z2 z3 fc z5 z6 z7 qs z9 z10 z11 z12 z13 hd lg fcn z17 z18 z19 (md - 1) z21 z22 z23 z24 hc z26 z27 z28 z29 z30 z31 sm z33 z34)), (z21, .inl (cI, 4, .inl (nF (m_dl pp k (md - 1))))), (z22, .inl (cI, 4, .inl (nF g2))), (z23, .inl (cI, 4, .inl (nF g3)))] := hD
        have ea3 : (g2) = m_dl pa k (md - 1) := by (rw [h2, show i = md - 1 by omega])
        rw [ea3] at hP hD
        have hP : va_P (dC, dI) qCl [(x0, .inr (8, mO ax z1 z2 z3 fc z5 z6 z7 qs z9 z10 z11 z12 z13 hd lg fcn z17 z18 z19 (md - 1) z21 z22 z23 z24 hc z26 z27 z28 z29 z30 z31 sm z33 z34)), (z21, .inl (cI, 4, .inl (nF (m_dl pp k (md - 1))))), (z22, .inl (cI, 4, .inl (nF (m_dl pa k (md - 1))))), (z23, .inl (cI, 4, .inl (nF g3)))] H := hP
        have hD : va_D A [(x0, .inr (8, mO ax z1 z2 z3 fc z5 z6 z7 qs z9 z10 z11 z12 z13 hd lg fcn z17 z18 z19 (md - 1) z21 z22 z23 z24 hc z26 z27 z28 z29 z30 z31 sm z33 z34)), (z21, .inl (cI, 4, .inl (nF (m_dl pp k (md - 1))))), (z22, .inl (cI, 4, .inl (nF (m_dl pa k (md - 1))))), (z23, .inl (cI, 4, .inl (nF g3)))] := hD
        have ea4 : (g3) = m_dl pb k (md - 1) := by (rw [h3, show i = md - 1 by omega])
        rw [ea4] at hP hD
        have hP : va_P (dC, dI) qCl [(x0, .inr (8, mO ax z1 z2 z3 fc z5 z6 z7 qs z9 z10 z11 z12 z13 hd lg fcn z17 z18 z19 (md - 1) z21 z22 z23 z24 hc z26 z27 z28 z29 z30 z31 sm z33 z34)), (z21, .inl (cI, 4, .inl (nF (m_dl pp k (md - 1))))), (z22, .inl (cI, 4, .inl (nF (m_dl pa k (md - 1))))), (z23, .inl (cI, 4, .inl (nF (m_dl pb k (md - 1)))))] H := hP
        have hD : va_D A [(x0, .inr (8, mO ax z1 z2 z3 fc z5 z6 z7 qs z9 z10 z11 z12 z13 hd lg fcn z17 z18 z19 (md - 1) z21 z22 z23 z24 hc z26 z27 z28 z29 z30 z31 sm z33 z34)), (z21, .inl (cI, 4, .inl (nF (m_dl pp k (md - 1))))), (z22, .inl (cI, 4, .inl (nF (m_dl pa k (md - 1))))), (z23, .inl (cI, 4, .inl (nF (m_dl pb k (md - 1)))))] := hD
        subst hQ
        subst hAe
        have hP9 := hP.sub (ws' := [(x0, .inr (8, mO ax z1 z2 z3 fc z5 z6 z7 qs z9 z10 z11 z12 z13 hd lg fcn z17 z18 z19 (md - 1) z21 z22 z23 z24 hc z26 z27 z28 z29 z30 z31 sm z33 z34)), (z21, .inl (cI, 4, .inl (nF (m_dl pp k (md - 1))))), (z22, .inl (cI, 4, .inl (nF (m_dl pa k (md - 1))))), (z23, .inl (cI, 4, .inl (nF (m_dl pb k (md - 1)))))]) [0, 1, 2, 3] rfl
        exact W.vret hx hb hr (fun t9 h9 _ => ⟨⟨(), rfl, trivial, by show va_P _ _ _ t9.heap; rw [h9]; exact hP9⟩, hS.F h9⟩) hS.2.2 dX8_take_68
      · refine lv_aload_n hx hb dX8_take_20 rfl (lv_at hl 1 rfl) ?_
        refine va_get (D := (dC, dI)) (ci := 8) (v := .ref z21) (C := RX8) (T := TX8) (N := 35) hx hb hts uX8 hown hK hP 0 rfl rfl 21 (by decide) (hts _ kfX8_56) (fun _ h9 => h9) rfl dX8_take_21 ?_
        refine lv_iload_n hx hb dX8_take_24 rfl (lv_at hl 0 rfl) ?_
        refine lv_aload_n hx hb dX8_take_25 rfl (lv_at hl 1 rfl) ?_
        refine va_get (D := (dC, dI)) (ci := 8) (v := .ref z21) (C := RX8) (T := TX8) (N := 35) hx hb hts uX8 hown hK hP 0 rfl rfl 21 (by decide) (hts _ kfX8_56) (fun _ h9 => h9) rfl dX8_take_26 ?_
        refine lv_iload_n hx hb dX8_take_29 rfl (lv_at hl 0 rfl) ?_
        refine lv_iconst (v := (nI (1))) hx hb dX8_take_30 (by decide) ?_
        refine q_iadd (x := i) (y := 1) hx hb dX8_take_31 ?_
        refine q_ialdN hx hb hK hP 1 0 rfl rfl (j := i + 1) (by omega) (by omega) dX8_take_32 ?_
        refine q_iastN hx hb hK hP hD hS 1 0 rfl rfl (j := i) (x := g1 (i + 1)) (by omega) (by omega) dX8_take_33 (fun H locs hP hD hS => ?_)
        have hP : va_P (dC, dI) qCl [(x0, .inr (8, mO ax z1 z2 z3 fc z5 z6 z7 qs z9 z10 z11 z12 z13 hd lg fcn z17 z18 z19 (md - 1) z21 z22 z23 z24 hc z26 z27 z28 z29 z30 z31 sm z33 z34)), (z21, .inl (cI, 4, .inl (nF (va_up g1 i (g1 (i + 1)))))), (z22, .inl (cI, 4, .inl (nF g2))), (z23, .inl (cI, 4, .inl (nF g3)))] H := hP
        have hD : va_D A [(x0, .inr (8, mO ax z1 z2 z3 fc z5 z6 z7 qs z9 z10 z11 z12 z13 hd lg fcn z17 z18 z19 (md - 1) z21 z22 z23 z24 hc z26 z27 z28 z29 z30 z31 sm z33 z34)), (z21, .inl (cI, 4, .inl (nF (va_up g1 i (g1 (i + 1)))))), (z22, .inl (cI, 4, .inl (nF g2))), (z23, .inl (cI, 4, .inl (nF g3)))] := hD
        refine lv_aload_n hx hb dX8_take_34 rfl (lv_at hl 1 rfl) ?_
        refine va_get (D := (dC, dI)) (ci := 8) (v := .ref z22) (C := RX8) (T := TX8) (N := 35) hx hb hts uX8 hown hK hP 0 rfl rfl 22 (by decide) (hts _ kfX8_59) (fun _ h9 => h9) rfl dX8_take_35 ?_
        refine lv_iload_n hx hb dX8_take_38 rfl (lv_at hl 0 rfl) ?_
        refine lv_aload_n hx hb dX8_take_39 rfl (lv_at hl 1 rfl) ?_
        refine va_get (D := (dC, dI)) (ci := 8) (v := .ref z22) (C := RX8) (T := TX8) (N := 35) hx hb hts uX8 hown hK hP 0 rfl rfl 22 (by decide) (hts _ kfX8_59) (fun _ h9 => h9) rfl dX8_take_40 ?_
        refine lv_iload_n hx hb dX8_take_43 rfl (lv_at hl 0 rfl) ?_
        refine lv_iconst (v := (nI (1))) hx hb dX8_take_44 (by decide) ?_
        refine q_iadd (x := i) (y := 1) hx hb dX8_take_45 ?_
        refine q_ialdN hx hb hK hP 2 0 rfl rfl (j := i + 1) (by omega) (by omega) dX8_take_46 ?_
        refine q_iastN hx hb hK hP hD hS 2 0 rfl rfl (j := i) (x := g2 (i + 1)) (by omega) (by omega) dX8_take_47 (fun H locs hP hD hS => ?_)
        have hP : va_P (dC, dI) qCl [(x0, .inr (8, mO ax z1 z2 z3 fc z5 z6 z7 qs z9 z10 z11 z12 z13 hd lg fcn z17 z18 z19 (md - 1) z21 z22 z23 z24 hc z26 z27 z28 z29 z30 z31 sm z33 z34)), (z21, .inl (cI, 4, .inl (nF (va_up g1 i (g1 (i + 1)))))), (z22, .inl (cI, 4, .inl (nF (va_up g2 i (g2 (i + 1)))))), (z23, .inl (cI, 4, .inl (nF g3)))] H := hP
        have hD : va_D A [(x0, .inr (8, mO ax z1 z2 z3 fc z5 z6 z7 qs z9 z10 z11 z12 z13 hd lg fcn z17 z18 z19 (md - 1) z21 z22 z23 z24 hc z26 z27 z28 z29 z30 z31 sm z33 z34)), (z21, .inl (cI, 4, .inl (nF (va_up g1 i (g1 (i + 1)))))), (z22, .inl (cI, 4, .inl (nF (va_up g2 i (g2 (i + 1)))))), (z23, .inl (cI, 4, .inl (nF g3)))] := hD
        refine lv_aload_n hx hb dX8_take_48 rfl (lv_at hl 1 rfl) ?_
        refine va_get (D := (dC, dI)) (ci := 8) (v := .ref z23) (C := RX8) (T := TX8) (N := 35) hx hb hts uX8 hown hK hP 0 rfl rfl 23 (by decide) (hts _ kfX8_62) (fun _ h9 => h9) rfl dX8_take_49 ?_
        refine lv_iload_n hx hb dX8_take_52 rfl (lv_at hl 0 rfl) ?_
        refine lv_aload_n hx hb dX8_take_53 rfl (lv_at hl 1 rfl) ?_
        refine va_get (D := (dC, dI)) (ci := 8) (v := .ref z23) (C := RX8) (T := TX8) (N := 35) hx hb hts uX8 hown hK hP 0 rfl rfl 23 (by decide) (hts _ kfX8_62) (fun _ h9 => h9) rfl dX8_take_54 ?_
        refine lv_iload_n hx hb dX8_take_57 rfl (lv_at hl 0 rfl) ?_
        refine lv_iconst (v := (nI (1))) hx hb dX8_take_58 (by decide) ?_
        refine q_iadd (x := i) (y := 1) hx hb dX8_take_59 ?_
        refine q_ialdN hx hb hK hP 3 0 rfl rfl (j := i + 1) (by omega) (by omega) dX8_take_60 ?_
        refine q_iastN hx hb hK hP hD hS 3 0 rfl rfl (j := i) (x := g3 (i + 1)) (by omega) (by omega) dX8_take_61 (fun H locs hP hD hS => ?_)
        have hP : va_P (dC, dI) qCl [(x0, .inr (8, mO ax z1 z2 z3 fc z5 z6 z7 qs z9 z10 z11 z12 z13 hd lg fcn z17 z18 z19 (md - 1) z21 z22 z23 z24 hc z26 z27 z28 z29 z30 z31 sm z33 z34)), (z21, .inl (cI, 4, .inl (nF (va_up g1 i (g1 (i + 1)))))), (z22, .inl (cI, 4, .inl (nF (va_up g2 i (g2 (i + 1)))))), (z23, .inl (cI, 4, .inl (nF (va_up g3 i (g3 (i + 1))))))] H := hP
        have hD : va_D A [(x0, .inr (8, mO ax z1 z2 z3 fc z5 z6 z7 qs z9 z10 z11 z12 z13 hd lg fcn z17 z18 z19 (md - 1) z21 z22 z23 z24 hc z26 z27 z28 z29 z30 z31 sm z33 z34)), (z21, .inl (cI, 4, .inl (nF (va_up g1 i (g1 (i + 1)))))), (z22, .inl (cI, 4, .inl (nF (va_up g2 i (g2 (i + 1)))))), (z23, .inl (cI, 4, .inl (nF (va_up g3 i (g3 (i + 1))))))] := hD
        refine lv_iinc (v := (nI (i + 1))) (lv' := [(2, .int (nI (i + 1))), (0, .ref x0), (1, .int (nI (k)))]) hx hb dX8_take_62 hl (k := 0) rfl (q_inc _) (by decide) rfl (fun ls hl => ?_)
        refine lv_goto (tgt := 12) hx hb dX8_take_65 (by decide) ?_
        exact ih12 (va_up g1 i (g1 (i + 1))) (va_up g2 i (g2 (i + 1))) (va_up g3 i (g3 (i + 1))) (i + 1) ls _ _ (by omega) (show k ≤ (i + 1) ∧ (i + 1) ≤ md - 1 from by omega) (show (va_up g1 i (g1 (i + 1))) = m_dl pp k (i + 1) from by (rw [h1]; exact m_dl_s (by omega))) (show (va_up g2 i (g2 (i + 1))) = m_dl pa k (i + 1) from by (rw [h2]; exact m_dl_s (by omega))) (show (va_up g3 i (g3 (i + 1))) = m_dl pb k (i + 1) from by (rw [h3]; exact m_dl_s (by omega))) (lv_sub hl [0, 1, 2] rfl) (hP.sub [0, 1, 2, 3] rfl) (hD.sub [0, 1, 2, 3] (by decide) rfl) hS
  exact L12 _ pp pa pb k ls _ _ (by exact Nat.lt_succ_self _) (show k ≤ k ∧ k ≤ md - 1 from by omega) (show pp = m_dl pp k k from by (exact (m_dl_0 _ _).symm)) (show pa = m_dl pa k k from by (exact (m_dl_0 _ _).symm)) (show pb = m_dl pb k k from by (exact (m_dl_0 _ _).symm)) (lv_sub hl [0, 1, 2] rfl) (hP.sub [0, 1, 2, 3] rfl) (hD.sub [0, 1, 2, 3] (by decide) rfl) hS
