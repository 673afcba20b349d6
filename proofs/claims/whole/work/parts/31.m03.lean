abbrev cX8_factAt : ByteArray := prog_10_method_7_code
def yX8_factAt : MethodName := ⟨RX8, "factAt", "(III)I"⟩
def wkX8_factAt : List Cond := .code yX8_factAt cX8_factAt 5 (some .int) :: qW
set_option maxRecDepth 40000 in
theorem gkX8_factAt : GoodIn qW wkX8_factAt := q_good (qw 697 rfl rfl)
set_option maxRecDepth 40000 in
theorem knX8_factAt : Cond.instanceMethod yX8_factAt ∈ qW := qw 696 rfl rfl
set_option maxRecDepth 40000 in
theorem klX8_factAt : Cond.selects RX8 yX8_factAt yX8_factAt ∈ qW := qw 16 rfl rfl
theorem dX8_factAt_0 : decode cX8_factAt 0 = .ok (.iconst 0, 1) := by decide +kernel
theorem dX8_factAt_1 : decode cX8_factAt 1 = .ok (.istore 4, 2) := by decide +kernel
theorem dX8_factAt_3 : decode cX8_factAt 3 = .ok (.iload 4, 2) := by decide +kernel
theorem dX8_factAt_5 : decode cX8_factAt 5 = .ok (.aload_n 0, 1) := by decide +kernel
theorem dX8_factAt_6 : decode cX8_factAt 6 = .ok (.getfield 104, 3) := by decide +kernel
theorem dX8_factAt_9 : decode cX8_factAt 9 = .ok (.if_icmp .ge 51, 3) := by decide +kernel
theorem dX8_factAt_12 : decode cX8_factAt 12 = .ok (.aload_n 0, 1) := by decide +kernel
theorem dX8_factAt_13 : decode cX8_factAt 13 = .ok (.getfield 19, 3) := by decide +kernel
theorem dX8_factAt_16 : decode cX8_factAt 16 = .ok (.iload 4, 2) := by decide +kernel
theorem dX8_factAt_18 : decode cX8_factAt 18 = .ok (.iaload, 1) := by decide +kernel
theorem dX8_factAt_19 : decode cX8_factAt 19 = .ok (.iload_n 1, 1) := by decide +kernel
theorem dX8_factAt_20 : decode cX8_factAt 20 = .ok (.if_icmp .ne 34, 3) := by decide +kernel
theorem dX8_factAt_23 : decode cX8_factAt 23 = .ok (.aload_n 0, 1) := by decide +kernel
theorem dX8_factAt_24 : decode cX8_factAt 24 = .ok (.getfield 22, 3) := by decide +kernel
theorem dX8_factAt_27 : decode cX8_factAt 27 = .ok (.iload 4, 2) := by decide +kernel
theorem dX8_factAt_29 : decode cX8_factAt 29 = .ok (.iaload, 1) := by decide +kernel
theorem dX8_factAt_30 : decode cX8_factAt 30 = .ok (.iload_n 2, 1) := by decide +kernel
theorem dX8_factAt_31 : decode cX8_factAt 31 = .ok (.if_icmp .ne 23, 3) := by decide +kernel
theorem dX8_factAt_34 : decode cX8_factAt 34 = .ok (.iload_n 1, 1) := by decide +kernel
theorem dX8_factAt_35 : decode cX8_factAt 35 = .ok (.bipush 32, 2) := by decide +kernel
theorem dX8_factAt_37 : decode cX8_factAt 37 = .ok (.if_icmp .lt 14, 3) := by decide +kernel
theorem dX8_factAt_40 : decode cX8_factAt 40 = .ok (.aload_n 0, 1) := by decide +kernel
theorem dX8_factAt_41 : decode cX8_factAt 41 = .ok (.getfield 25, 3) := by decide +kernel
theorem dX8_factAt_44 : decode cX8_factAt 44 = .ok (.iload 4, 2) := by decide +kernel
theorem dX8_factAt_46 : decode cX8_factAt 46 = .ok (.iaload, 1) := by decide +kernel
theorem dX8_factAt_47 : decode cX8_factAt 47 = .ok (.iload_n 3, 1) := by decide +kernel
theorem dX8_factAt_48 : decode cX8_factAt 48 = .ok (.if_icmp .ne 6, 3) := by decide +kernel
theorem dX8_factAt_51 : decode cX8_factAt 51 = .ok (.iload 4, 2) := by decide +kernel
theorem dX8_factAt_53 : decode cX8_factAt 53 = .ok (.ireturn, 1) := by decide +kernel
theorem dX8_factAt_54 : decode cX8_factAt 54 = .ok (.iinc 4 1, 3) := by decide +kernel
theorem dX8_factAt_57 : decode cX8_factAt 57 = .ok (.goto (-54), 3) := by decide +kernel
theorem dX8_factAt_60 : decode cX8_factAt 60 = .ok (.iconst (-1), 1) := by decide +kernel
theorem dX8_factAt_61 : decode cX8_factAt 61 = .ok (.ireturn, 1) := by decide +kernel
set_option maxRecDepth 40000 in
theorem kfX8_104 : Cond.fieldLink RX8 104 "QlRewriteModel" "facts" "I" ∈ qW := qw 574 rfl rfl
set_option maxRecDepth 40000 in
theorem kfX8_19 : Cond.fieldLink RX8 19 "QlRewriteModel" "names" "[I" ∈ qW := qw 575 rfl rfl
set_option maxRecDepth 40000 in
theorem kfX8_22 : Cond.fieldLink RX8 22 "QlRewriteModel" "ones" "[I" ∈ qW := qw 576 rfl rfl
set_option maxRecDepth 40000 in
theorem kfX8_25 : Cond.fieldLink RX8 25 "QlRewriteModel" "others" "[I" ∈ qW := qw 577 rfl rfl
abbrev rm_c_Model_factAt : Room := { frames := 0, cells := 0, slots := 0, locals := 0 }
set_option maxHeartbeats 4000000 in
set_option maxRecDepth 100000 in
theorem c_Model_factAt (l : Launch) (dC : Nat → ClassId) (dI : Nat → Nat → Nat) (cI cL cQ cZ : ClassId) (x0 : Nat) (ax : Nat) (z1 : Nat) (z2 : Nat) (z3 : Nat) (fc : Nat) (z5 : Nat) (z6 : Nat) (z7 : Nat) (qs : Nat) (z9 : Nat) (z10 : Nat) (z11 : Nat) (z12 : Nat) (z13 : Nat) (hd : Option Nat) (lg : Bool) (fcn : Nat) (z17 : Nat) (z18 : Nat) (z19 : Nat) (md : Nat) (z21 : Nat) (z22 : Nat) (z23 : Nat) (z24 : Nat) (hc : Nat) (z26 : Nat) (z27 : Nat) (z28 : Nat) (z29 : Nat) (z30 : Nat) (z31 : Nat) (sm : Bool) (z33 : Nat) (z34 : Nat) (fn : Nat → Nat) (fo : Nat → Nat) (ft : Nat → Nat) (x : Nat) (a : Nat) (b : Nat) (hfc : fc ≤ 60) (hfn : ∀ j, fn j < 64) (hfo : ∀ j, fo j < 16) (hft : ∀ j, ft j < 16) (hx9 : x < 64) (ha9 : a < 16) (hb9 : b < 16) : Met l yX8_factAt wkX8_factAt rm_c_Model_factAt (q_R (dC, dI) qCl (qT cI cL cQ cZ) [(x0, .inr (8, mO ax z1 z2 z3 fc z5 z6 z7 qs z9 z10 z11 z12 z13 hd lg fcn z17 z18 z19 md z21 z22 z23 z24 hc z26 z27 z28 z29 z30 z31 sm z33 z34)), (z5, .inl (cI, 60, .inl (nF fn))), (z6, .inl (cI, 60, .inl (nF fo))), (z7, .inl (cI, 60, .inl (nF ft)))] [.ref x0, .int (nI (x)), .int (nI (a)), .int (nI (b))]) (vp_Si (fun r => ∃ o9, r = oI o9 ∧ m_fat fn fo ft x a b fc o9)) 0 0 (fun _ => False) := by
  refine Met.ofW (cc := cX8_factAt) (maxL := 5) (ret := (some .int)) (by decide) rfl ?_
  intro p e s m args below meth c s₁ B hml hv
  obtain ⟨hargs, hP, hK⟩ := hv
  have hx := B.exec
  have hb := B.bytes
  have hr := B.returns
  have hts : ∀ w ∈ qW, w.before args s = true := fun w h => atoms_spec (ws := wkX8_factAt) B.pre w (List.mem_cons_of_mem _ h)
  have hown : s.vm.findClass RX8 = some m.cls := findClass_of_methodNamed B.named
  have hlocks := B.notSynchronized
  refine q_named (fun Q hQ => ?_)
  refine q_entry hargs (Nat.le_of_ble_eq_true rfl) (fun ls hl => ?_)
  have hl : lv_has ls 5 [(0, .ref x0), (1, .int (nI (x))), (2, .int (nI (a))), (3, .int (nI (b)))] := hl
  refine lv_iconst (v := (nI (0))) hx hb dX8_factAt_0 (by decide) ?_
  refine lv_istore (lv' := [(4, .int (nI (0))), (0, .ref x0), (1, .int (nI (x))), (2, .int (nI (a))), (3, .int (nI (b)))]) hx hb dX8_factAt_1 hl (by decide) rfl (fun ls hl => ?_)
  have L3 : ∀ (fu : Nat) (i : Nat) (ls : Array Slot), fc - i < fu → (i ≤ fc) → (∀ j, j < i → ¬ m_is fn fo ft x a b j) → lv_has ls 5 [(4, .int (nI (i))), (0, .ref x0), (1, .int (nI (x))), (2, .int (nI (a))), (3, .int (nI (b)))] → W p l e (headSpec wkX8_factAt rm_c_Model_factAt).room s m args below meth c s.heap [] 0 0 Q (F0 m 3 ls []) := by
    intro fu
    induction fu with
    | zero => intro i ls hmu; exact absurd hmu (Nat.not_lt_zero _)
    | succ fu ih3 =>
      intro i ls hmu hi hh hl
      refine lv_iload hx hb dX8_factAt_3 (lv_at hl 0 rfl) ?_
      refine lv_aload_n hx hb dX8_factAt_5 rfl (lv_at hl 1 rfl) ?_
      refine va_get (D := (dC, dI)) (ci := 8) (v := .int (nI (fc))) (C := RX8) (T := TX8) (N := 35) hx hb hts uX8 hown hK hP 0 rfl rfl 4 (by decide) (hts _ kfX8_104) (fun _ h9 => h9) rfl dX8_factAt_6 ?_
      refine q_icmp_ge (x := i) (y := fc) (tgt := 60) hx hb dX8_factAt_9 (by decide) (by omega) (by omega) (fun c9_1 => ?_) (fun c9_1 => ?_)
      · refine lv_iconst (v := (oI (none))) hx hb dX8_factAt_60 (by decide) ?_
        subst hQ
        exact W.iret (v := (oI (none))) hx hb hr (fun t9 h9 _ => ⟨_, rfl, show ∃ o9, (oI (none)) = oI o9 ∧ m_fat fn fo ft x a b fc o9 from by (exact ⟨none, rfl, fun j hj => hh j (by omega)⟩), h9⟩) (fun q hq => by cases hq) dX8_factAt_61
      · refine lv_aload_n hx hb dX8_factAt_12 rfl (lv_at hl 1 rfl) ?_
        refine va_get (D := (dC, dI)) (ci := 8) (v := .ref z5) (C := RX8) (T := TX8) (N := 35) hx hb hts uX8 hown hK hP 0 rfl rfl 5 (by decide) (hts _ kfX8_19) (fun _ h9 => h9) rfl dX8_factAt_13 ?_
        refine lv_iload hx hb dX8_factAt_16 (lv_at hl 0 rfl) ?_
        refine q_ialdN hx hb hK hP 1 0 rfl rfl (j := i) (by omega) (by omega) dX8_factAt_18 ?_
        have bd2 := hfn i
        refine lv_iload_n hx hb dX8_factAt_19 rfl (lv_at hl 2 rfl) ?_
        refine q_icmp_ne (x := fn i) (y := x) (tgt := 54) hx hb dX8_factAt_20 (by decide) (by omega) (by omega) (fun c20_3 => ?_) (fun c20_3 => ?_)
        · refine lv_iinc (v := (nI (i + 1))) (lv' := [(4, .int (nI (i + 1))), (0, .ref x0), (1, .int (nI (x))), (2, .int (nI (a))), (3, .int (nI (b)))]) hx hb dX8_factAt_54 hl (k := 0) rfl (q_inc _) (by decide) rfl (fun ls hl => ?_)
          refine lv_goto (tgt := 3) hx hb dX8_factAt_57 (by decide) ?_
          exact ih3 (i + 1) ls (by omega) (show (i + 1) ≤ fc from by omega) (show ∀ j, j < (i + 1) → ¬ m_is fn fo ft x a b j from by (exact lt_s hh (fun h9 => by unfold m_is at h9; omega))) (lv_sub hl [0, 1, 2, 3, 4] rfl)
        · refine lv_aload_n hx hb dX8_factAt_23 rfl (lv_at hl 1 rfl) ?_
          refine va_get (D := (dC, dI)) (ci := 8) (v := .ref z6) (C := RX8) (T := TX8) (N := 35) hx hb hts uX8 hown hK hP 0 rfl rfl 6 (by decide) (hts _ kfX8_22) (fun _ h9 => h9) rfl dX8_factAt_24 ?_
          refine lv_iload hx hb dX8_factAt_27 (lv_at hl 0 rfl) ?_
          refine q_ialdN hx hb hK hP 2 0 rfl rfl (j := i) (by omega) (by omega) dX8_factAt_29 ?_
          have bd4 := hfo i
          refine lv_iload_n hx hb dX8_factAt_30 rfl (lv_at hl 3 rfl) ?_
          refine q_icmp_ne (x := fo i) (y := a) (tgt := 54) hx hb dX8_factAt_31 (by decide) (by omega) (by omega) (fun c31_5 => ?_) (fun c31_5 => ?_)
          · refine lv_iinc (v := (nI (i + 1))) (lv' := [(4, .int (nI (i + 1))), (0, .ref x0), (1, .int (nI (x))), (2, .int (nI (a))), (3, .int (nI (b)))]) hx hb dX8_factAt_54 hl (k := 0) rfl (q_inc _) (by decide) rfl (fun ls hl => ?_)
            refine lv_goto (tgt := 3) hx hb dX8_factAt_57 (by decide) ?_
            exact ih3 (i + 1) ls (by omega) (show (i + 1) ≤ fc from by omega) (show ∀ j, j < (i + 1) → ¬ m_is fn fo ft x a b j from by (exact lt_s hh (fun h9 => by unfold m_is at h9; omega))) (lv_sub hl [0, 1, 2, 3, 4] rfl)
          · refine lv_iload_n hx hb dX8_factAt_34 rfl (lv_at hl 2 rfl) ?_
            refine lv_bipush (v := (nI (32))) hx hb dX8_factAt_35 (by decide) ?_
            refine q_icmp_lt (x := x) (y := 32) (tgt := 51) hx hb dX8_factAt_37 (by decide) (by omega) (by omega) (fun c37_6 => ?_) (fun c37_6 => ?_)
            · refine lv_iload hx hb dX8_factAt_51 (lv_at hl 0 rfl) ?_
              subst hQ
              exact W.iret (v := (nI (i))) hx hb hr (fun t9 h9 _ => ⟨_, rfl, show ∃ o9, (nI (i)) = oI o9 ∧ m_fat fn fo ft x a b fc o9 from by (exact ⟨some i, rfl, by omega, by unfold m_is; omega, hh⟩), h9⟩) (fun q hq => by cases hq) dX8_factAt_53
            · refine lv_aload_n hx hb dX8_factAt_40 rfl (lv_at hl 1 rfl) ?_
              refine va_get (D := (dC, dI)) (ci := 8) (v := .ref z7) (C := RX8) (T := TX8) (N := 35) hx hb hts uX8 hown hK hP 0 rfl rfl 7 (by decide) (hts _ kfX8_25) (fun _ h9 => h9) rfl dX8_factAt_41 ?_
              refine lv_iload hx hb dX8_factAt_44 (lv_at hl 0 rfl) ?_
              refine q_ialdN hx hb hK hP 3 0 rfl rfl (j := i) (by omega) (by omega) dX8_factAt_46 ?_
              have bd7 := hft i
              refine lv_iload_n hx hb dX8_factAt_47 rfl (lv_at hl 4 rfl) ?_
              refine q_icmp_ne (x := ft i) (y := b) (tgt := 54) hx hb dX8_factAt_48 (by decide) (by omega) (by omega) (fun c48_8 => ?_) (fun c48_8 => ?_)
              · refine lv_iinc (v := (nI (i + 1))) (lv' := [(4, .int (nI (i + 1))), (0, .ref x0), (1, .int (nI (x))), (2, .int (nI (a))), (3, .int (nI (b)))]) hx hb dX8_factAt_54 hl (k := 0) rfl (q_inc _) (by decide) rfl (fun ls hl => ?_)
                refine lv_goto (tgt := 3) hx hb dX8_factAt_57 (by decide) ?_
                exact ih3 (i + 1) ls (by omega) (show (i + 1) ≤ fc from by omega) (show ∀ j, j < (i + 1) → ¬ m_is fn fo ft x a b j from by (exact lt_s hh (fun h9 => by unfold m_is at h9; omega))) (lv_sub hl [0, 1, 2, 3, 4] rfl)
              · refine lv_iload hx hb dX8_factAt_51 (lv_at hl 0 rfl) ?_
                subst hQ
                exact W.iret (v := (nI (i))) hx hb hr (fun t9 h9 _ => ⟨_, rfl, show ∃ o9, (nI (i)) = oI o9 ∧ m_fat fn fo ft x a b fc o9 from by (exact ⟨some i, rfl, by omega, by unfold m_is; omega, hh⟩), h9⟩) (fun q hq => by cases hq) dX8_factAt_53
  exact L3 _ 0 ls (by exact Nat.lt_succ_self _) (show 0 ≤ fc from by omega) (show ∀ j, j < 0 → ¬ m_is fn fo ft x a b j from by (intro j hj; omega)) (lv_sub hl [0, 1, 2, 3, 4] rfl)
