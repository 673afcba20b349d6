abbrev cX8_standing : ByteArray := prog_10_method_13_code
def yX8_standing : MethodName := ⟨RX8, "standing", "(I)I"⟩
def wkX8_standing : List Cond := .code yX8_standing cX8_standing 4 (some .int) :: qW
set_option maxRecDepth 40000 in
theorem gkX8_standing : GoodIn qW wkX8_standing := q_good (qw 749 rfl rfl)
set_option maxRecDepth 40000 in
theorem knX8_standing : Cond.instanceMethod yX8_standing ∈ qW := qw 748 rfl rfl
set_option maxRecDepth 40000 in
theorem klX8_standing : Cond.selects RX8 yX8_standing yX8_standing ∈ qW := qw 25 rfl rfl
theorem dX8_standing_0 : decode cX8_standing 0 = .ok (.iconst 0, 1) := by decide +kernel
theorem dX8_standing_1 : decode cX8_standing 1 = .ok (.istore_n 2, 1) := by decide +kernel
theorem dX8_standing_2 : decode cX8_standing 2 = .ok (.iconst 0, 1) := by decide +kernel
theorem dX8_standing_3 : decode cX8_standing 3 = .ok (.istore_n 3, 1) := by decide +kernel
theorem dX8_standing_4 : decode cX8_standing 4 = .ok (.iload_n 3, 1) := by decide +kernel
theorem dX8_standing_5 : decode cX8_standing 5 = .ok (.aload_n 0, 1) := by decide +kernel
theorem dX8_standing_6 : decode cX8_standing 6 = .ok (.getfield 121, 3) := by decide +kernel
theorem dX8_standing_9 : decode cX8_standing 9 = .ok (.if_icmp .ge 56, 3) := by decide +kernel
theorem dX8_standing_12 : decode cX8_standing 12 = .ok (.iload_n 2, 1) := by decide +kernel
theorem dX8_standing_13 : decode cX8_standing 13 = .ok (.aload_n 0, 1) := by decide +kernel
theorem dX8_standing_14 : decode cX8_standing 14 = .ok (.getfield 59, 3) := by decide +kernel
theorem dX8_standing_17 : decode cX8_standing 17 = .ok (.iload_n 3, 1) := by decide +kernel
theorem dX8_standing_18 : decode cX8_standing 18 = .ok (.iaload, 1) := by decide +kernel
theorem dX8_standing_19 : decode cX8_standing 19 = .ok (.iload_n 1, 1) := by decide +kernel
theorem dX8_standing_20 : decode cX8_standing 20 = .ok (.if_icmp .ne 7, 3) := by decide +kernel
theorem dX8_standing_23 : decode cX8_standing 23 = .ok (.iconst 1, 1) := by decide +kernel
theorem dX8_standing_24 : decode cX8_standing 24 = .ok (.goto 4, 3) := by decide +kernel
theorem dX8_standing_27 : decode cX8_standing 27 = .ok (.iconst 0, 1) := by decide +kernel
theorem dX8_standing_28 : decode cX8_standing 28 = .ok (.iadd, 1) := by decide +kernel
theorem dX8_standing_29 : decode cX8_standing 29 = .ok (.istore_n 2, 1) := by decide +kernel
theorem dX8_standing_30 : decode cX8_standing 30 = .ok (.iload_n 2, 1) := by decide +kernel
theorem dX8_standing_31 : decode cX8_standing 31 = .ok (.aload_n 0, 1) := by decide +kernel
theorem dX8_standing_32 : decode cX8_standing 32 = .ok (.getfield 56, 3) := by decide +kernel
theorem dX8_standing_35 : decode cX8_standing 35 = .ok (.iload_n 3, 1) := by decide +kernel
theorem dX8_standing_36 : decode cX8_standing 36 = .ok (.iaload, 1) := by decide +kernel
theorem dX8_standing_37 : decode cX8_standing 37 = .ok (.bipush 32, 2) := by decide +kernel
theorem dX8_standing_39 : decode cX8_standing 39 = .ok (.if_icmp .lt 17, 3) := by decide +kernel
theorem dX8_standing_42 : decode cX8_standing 42 = .ok (.aload_n 0, 1) := by decide +kernel
theorem dX8_standing_43 : decode cX8_standing 43 = .ok (.getfield 62, 3) := by decide +kernel
theorem dX8_standing_46 : decode cX8_standing 46 = .ok (.iload_n 3, 1) := by decide +kernel
theorem dX8_standing_47 : decode cX8_standing 47 = .ok (.iaload, 1) := by decide +kernel
theorem dX8_standing_48 : decode cX8_standing 48 = .ok (.iload_n 1, 1) := by decide +kernel
theorem dX8_standing_49 : decode cX8_standing 49 = .ok (.if_icmp .ne 7, 3) := by decide +kernel
theorem dX8_standing_52 : decode cX8_standing 52 = .ok (.iconst 1, 1) := by decide +kernel
theorem dX8_standing_53 : decode cX8_standing 53 = .ok (.goto 4, 3) := by decide +kernel
theorem dX8_standing_56 : decode cX8_standing 56 = .ok (.iconst 0, 1) := by decide +kernel
theorem dX8_standing_57 : decode cX8_standing 57 = .ok (.iadd, 1) := by decide +kernel
theorem dX8_standing_58 : decode cX8_standing 58 = .ok (.istore_n 2, 1) := by decide +kernel
theorem dX8_standing_59 : decode cX8_standing 59 = .ok (.iinc 3 1, 3) := by decide +kernel
theorem dX8_standing_62 : decode cX8_standing 62 = .ok (.goto (-58), 3) := by decide +kernel
theorem dX8_standing_65 : decode cX8_standing 65 = .ok (.iload_n 2, 1) := by decide +kernel
theorem dX8_standing_66 : decode cX8_standing 66 = .ok (.ireturn, 1) := by decide +kernel
set_option maxRecDepth 40000 in
theorem kfX8_121 : Cond.fieldLink RX8 121 "QlRewriteModel" "made" "I" ∈ qW := qw 590 rfl rfl
set_option maxRecDepth 40000 in
theorem kfX8_59 : Cond.fieldLink RX8 59 "QlRewriteModel" "a" "[I" ∈ qW := qw 592 rfl rfl
set_option maxRecDepth 40000 in
theorem kfX8_56 : Cond.fieldLink RX8 56 "QlRewriteModel" "p" "[I" ∈ qW := qw 591 rfl rfl
set_option maxRecDepth 40000 in
theorem kfX8_62 : Cond.fieldLink RX8 62 "QlRewriteModel" "b" "[I" ∈ qW := qw 593 rfl rfl
abbrev rm_c_Model_standing : Room := { frames := 0, cells := 0, slots := 0, locals := 0 }
set_option maxHeartbeats 4000000 in
set_option maxRecDepth 100000 in
theorem c_Model_standing (l : Launch) (dC : Nat → ClassId) (dI : Nat → Nat → Nat) (cI cL cQ cZ : ClassId) (x0 : Nat) (ax : Nat) (z1 : Nat) (z2 : Nat) (z3 : Nat) (fc : Nat) (z5 : Nat) (z6 : Nat) (z7 : Nat) (qs : Nat) (z9 : Nat) (z10 : Nat) (z11 : Nat) (z12 : Nat) (z13 : Nat) (hd : Option Nat) (lg : Bool) (fcn : Nat) (z17 : Nat) (z18 : Nat) (z19 : Nat) (md : Nat) (z21 : Nat) (z22 : Nat) (z23 : Nat) (z24 : Nat) (hc : Nat) (z26 : Nat) (z27 : Nat) (z28 : Nat) (z29 : Nat) (z30 : Nat) (z31 : Nat) (sm : Bool) (z33 : Nat) (z34 : Nat) (pp : Nat → Nat) (pa : Nat → Nat) (pb : Nat → Nat) (v : Nat) (hmd : md ≤ 4) (hpp : ∀ j, pp j < 64) (hpa : ∀ j, pa j < 18) (hpb : ∀ j, pb j < 18) (hv : v < 18) : Met l yX8_standing wkX8_standing rm_c_Model_standing (q_R (dC, dI) qCl (qT cI cL cQ cZ) [(x0, .inr (8, mO ax z1 z2 z3 fc z5 z6 z7 qs z9 z10 z11 z12 z13 hd lg fcn z17 z18 z19 md z21 z22 z23 z24 hc z26 z27 z28 z29 z30 z31 sm z33 z34)), (z21, .inl (cI, 4, .inl (nF pp))), (z22, .inl (cI, 4, .inl (nF pa))), (z23, .inl (cI, 4, .inl (nF pb)))] [.ref x0, .int (nI (v))]) (vp_Si (fun r => r = (nI (m_stn pp pa pb v md)))) 0 0 (fun _ => False) := by
  refine Met.ofW (cc := cX8_standing) (maxL := 4) (ret := (some .int)) (by decide) rfl ?_
  intro p e s m args below meth c s₁ B hml hv
  obtain ⟨hargs, hP, hK⟩ := hv
  have hx := B.exec
  have hb := B.bytes
  have hr := B.returns
  have hts : ∀ w ∈ qW, w.before args s = true := fun w h => atoms_spec (ws := wkX8_standing) B.pre w (List.mem_cons_of_mem _ h)
  have hown : s.vm.findClass RX8 = some m.cls := findClass_of_methodNamed B.named
  have hlocks := B.notSynchronized
  refine q_named (fun Q hQ => ?_)
  refine q_entry hargs (Nat.le_of_ble_eq_true rfl) (fun ls hl => ?_)
  have hl : lv_has ls 4 [(0, .ref x0), (1, .int (nI (v)))] := hl
  refine lv_iconst (v := (nI (0))) hx hb dX8_standing_0 (by decide) ?_
  refine lv_istore_n (lv' := [(2, .int (nI (0))), (0, .ref x0), (1, .int (nI (v)))]) hx hb dX8_standing_1 rfl hl (by decide) rfl (fun ls hl => ?_)
  refine lv_iconst (v := (nI (0))) hx hb dX8_standing_2 (by decide) ?_
  refine lv_istore_n (lv' := [(3, .int (nI (0))), (2, .int (nI (0))), (0, .ref x0), (1, .int (nI (v)))]) hx hb dX8_standing_3 rfl hl (by decide) rfl (fun ls hl => ?_)
  have L4 : ∀ (fu : Nat) (cn : Nat) (i : Nat) (ls : Array Slot), md - i < fu → (cn = m_stn pp pa pb v i) → (i ≤ md) → lv_has ls 4 [(3, .int (nI (i))), (2, .int (nI (cn))), (0, .ref x0), (1, .int (nI (v)))] → W p l e (headSpec wkX8_standing rm_c_Model_standing).room s m args below meth c s.heap [] 0 0 Q (F0 m 4 ls []) := by
    intro fu
    induction fu with
    | zero => intro cn i ls hmu; exact absurd hmu (Nat.not_lt_zero _)
    | succ fu ih4 =>
      intro cn i ls hmu hc9 hi hl
      refine lv_iload_n hx hb dX8_standing_4 rfl (lv_at hl 0 rfl) ?_
      refine lv_aload_n hx hb dX8_standing_5 rfl (lv_at hl 2 rfl) ?_
      refine va_get (D := (dC, dI)) (ci := 8) (v := .int (nI (md))) (C := RX8) (T := TX8) (N := 35) hx hb hts uX8 hown hK hP 0 rfl rfl 20 (by decide) (hts _ kfX8_121) (fun _ h9 => h9) rfl dX8_standing_6 ?_
      refine q_icmp_ge (x := i) (y := md) (tgt := 65) hx hb dX8_standing_9 (by decide) (by omega) (by omega) (fun c9_1 => ?_) (fun c9_1 => ?_)
      · refine lv_iload_n hx hb dX8_standing_65 rfl (lv_at hl 1 rfl) ?_
        subst hQ
        exact W.iret (v := (nI (cn))) hx hb hr (fun t9 h9 _ => ⟨_, rfl, congrArg nI (show cn = m_stn pp pa pb v md from by (rw [hc9, show i = md by omega])), h9⟩) (fun q hq => by cases hq) dX8_standing_66
      · refine lv_iload_n hx hb dX8_standing_12 rfl (lv_at hl 1 rfl) ?_
        refine lv_aload_n hx hb dX8_standing_13 rfl (lv_at hl 2 rfl) ?_
        refine va_get (D := (dC, dI)) (ci := 8) (v := .ref z22) (C := RX8) (T := TX8) (N := 35) hx hb hts uX8 hown hK hP 0 rfl rfl 22 (by decide) (hts _ kfX8_59) (fun _ h9 => h9) rfl dX8_standing_14 ?_
        refine lv_iload_n hx hb dX8_standing_17 rfl (lv_at hl 0 rfl) ?_
        refine q_ialdN hx hb hK hP 2 0 rfl rfl (j := i) (by omega) (by omega) dX8_standing_18 ?_
        have bd2 := hpa i
        refine lv_iload_n hx hb dX8_standing_19 rfl (lv_at hl 3 rfl) ?_
        refine q_icmp_ne (x := pa i) (y := v) (tgt := 27) hx hb dX8_standing_20 (by decide) (by omega) (by omega) (fun c20_3 => ?_) (fun c20_3 => ?_)
        · refine lv_iconst (v := (nI (0))) hx hb dX8_standing_27 (by decide) ?_
          refine q_iadd (x := cn) (y := 0) hx hb dX8_standing_28 ?_
          refine lv_istore_n (lv' := [(2, .int (nI (cn + 0))), (3, .int (nI (i))), (0, .ref x0), (1, .int (nI (v)))]) hx hb dX8_standing_29 rfl hl (by decide) rfl (fun ls hl => ?_)
          refine lv_iload_n hx hb dX8_standing_30 rfl (lv_at hl 0 rfl) ?_
          refine lv_aload_n hx hb dX8_standing_31 rfl (lv_at hl 2 rfl) ?_
          refine va_get (D := (dC, dI)) (ci := 8) (v := .ref z21) (C := RX8) (T := TX8) (N := 35) hx hb hts uX8 hown hK hP 0 rfl rfl 21 (by decide) (hts _ kfX8_56) (fun _ h9 => h9) rfl dX8_standing_32 ?_
          refine lv_iload_n hx hb dX8_standing_35 rfl (lv_at hl 1 rfl) ?_
          refine q_ialdN hx hb hK hP 1 0 rfl rfl (j := i) (by omega) (by omega) dX8_standing_36 ?_
          have bd4 := hpp i
          refine lv_bipush (v := (nI (32))) hx hb dX8_standing_37 (by decide) ?_
          refine q_icmp_lt (x := pp i) (y := 32) (tgt := 56) hx hb dX8_standing_39 (by decide) (by omega) (by omega) (fun c39_5 => ?_) (fun c39_5 => ?_)
          · refine lv_iconst (v := (nI (0))) hx hb dX8_standing_56 (by decide) ?_
            refine q_iadd (x := cn + 0) (y := 0) hx hb dX8_standing_57 ?_
            refine lv_istore_n (lv' := [(2, .int (nI ((cn + 0) + 0))), (3, .int (nI (i))), (0, .ref x0), (1, .int (nI (v)))]) hx hb dX8_standing_58 rfl hl (by decide) rfl (fun ls hl => ?_)
            refine lv_iinc (v := (nI (i + 1))) (lv' := [(3, .int (nI (i + 1))), (2, .int (nI ((cn + 0) + 0))), (0, .ref x0), (1, .int (nI (v)))]) hx hb dX8_standing_59 hl (k := 1) rfl (q_inc _) (by decide) rfl (fun ls hl => ?_)
            refine lv_goto (tgt := 4) hx hb dX8_standing_62 (by decide) ?_
            exact ih4 ((cn + 0) + 0) (i + 1) ls (by omega) (show ((cn + 0) + 0) = m_stn pp pa pb v (i + 1) from by (simp only [m_stn]; split <;> split <;> omega)) (show (i + 1) ≤ md from by omega) (lv_sub hl [0, 1, 2, 3] rfl)
          · refine lv_aload_n hx hb dX8_standing_42 rfl (lv_at hl 2 rfl) ?_
            refine va_get (D := (dC, dI)) (ci := 8) (v := .ref z23) (C := RX8) (T := TX8) (N := 35) hx hb hts uX8 hown hK hP 0 rfl rfl 23 (by decide) (hts _ kfX8_62) (fun _ h9 => h9) rfl dX8_standing_43 ?_
            refine lv_iload_n hx hb dX8_standing_46 rfl (lv_at hl 1 rfl) ?_
            refine q_ialdN hx hb hK hP 3 0 rfl rfl (j := i) (by omega) (by omega) dX8_standing_47 ?_
            have bd6 := hpb i
            refine lv_iload_n hx hb dX8_standing_48 rfl (lv_at hl 3 rfl) ?_
            refine q_icmp_ne (x := pb i) (y := v) (tgt := 56) hx hb dX8_standing_49 (by decide) (by omega) (by omega) (fun c49_7 => ?_) (fun c49_7 => ?_)
            · refine lv_iconst (v := (nI (0))) hx hb dX8_standing_56 (by decide) ?_
              refine q_iadd (x := cn + 0) (y := 0) hx hb dX8_standing_57 ?_
              refine lv_istore_n (lv' := [(2, .int (nI ((cn + 0) + 0))), (3, .int (nI (i))), (0, .ref x0), (1, .int (nI (v)))]) hx hb dX8_standing_58 rfl hl (by decide) rfl (fun ls hl => ?_)
              refine lv_iinc (v := (nI (i + 1))) (lv' := [(3, .int (nI (i + 1))), (2, .int (nI ((cn + 0) + 0))), (0, .ref x0), (1, .int (nI (v)))]) hx hb dX8_standing_59 hl (k := 1) rfl (q_inc _) (by decide) rfl (fun ls hl => ?_)
              refine lv_goto (tgt := 4) hx hb dX8_standing_62 (by decide) ?_
              exact ih4 ((cn + 0) + 0) (i + 1) ls (by omega) (show ((cn + 0) + 0) = m_stn pp pa pb v (i + 1) from by (simp only [m_stn]; split <;> split <;> omega)) (show (i + 1) ≤ md from by omega) (lv_sub hl [0, 1, 2, 3] rfl)
            · refine lv_iconst (v := (nI (1))) hx hb dX8_standing_52 (by decide) ?_
              refine lv_goto (tgt := 57) hx hb dX8_standing_53 (by decide) ?_
              refine q_iadd (x := cn + 0) (y := 1) hx hb dX8_standing_57 ?_
              refine lv_istore_n (lv' := [(2, .int (nI ((cn + 0) + 1))), (3, .int (nI (i))), (0, .ref x0), (1, .int (nI (v)))]) hx hb dX8_standing_58 rfl hl (by decide) rfl (fun ls hl => ?_)
              refine lv_iinc (v := (nI (i + 1))) (lv' := [(3, .int (nI (i + 1))), (2, .int (nI ((cn + 0) + 1))), (0, .ref x0), (1, .int (nI (v)))]) hx hb dX8_standing_59 hl (k := 1) rfl (q_inc _) (by decide) rfl (fun ls hl => ?_)
              refine lv_goto (tgt := 4) hx hb dX8_standing_62 (by decide) ?_
              exact ih4 ((cn + 0) + 1) (i + 1) ls (by omega) (show ((cn + 0) + 1) = m_stn pp pa pb v (i + 1) from by (simp only [m_stn]; split <;> split <;> omega)) (show (i + 1) ≤ md from by omega) (lv_sub hl [0, 1, 2, 3] rfl)
        · refine lv_iconst (v := (nI (1))) hx hb dX8_standing_23 (by decide) ?_
          refine lv_goto (tgt := 28) hx hb dX8_standing_24 (by decide) ?_
          refine q_iadd (x := cn) (y := 1) hx hb dX8_standing_28 ?_
          refine lv_istore_n (lv' := [(2, .int (nI (cn + 1))), (3, .int (nI (i))), (0, .ref x0), (1, .int (nI (v)))]) hx hb dX8_standing_29 rfl hl (by decide) rfl (fun ls hl => ?_)
          refine lv_iload_n hx hb dX8_standing_30 rfl (lv_at hl 0 rfl) ?_
          refine lv_aload_n hx hb dX8_standing_31 rfl (lv_at hl 2 rfl) ?_
          refine va_get (D := (dC, dI)) (ci := 8) (v := .ref z21) (C := RX8) (T := TX8) (N := 35) hx hb hts uX8 hown hK hP 0 rfl rfl 21 (by decide) (hts _ kfX8_56) (fun _ h9 => h9) rfl dX8_standing_32 ?_
          refine lv_iload_n hx hb dX8_standing_35 rfl (lv_at hl 1 rfl) ?_
          refine q_ialdN hx hb hK hP 1 0 rfl rfl (j := i) (by omega) (by omega) dX8_standing_36 ?_
          have bd8 := hpp i
          refine lv_bipush (v := (nI (32))) hx hb dX8_standing_37 (by decide) ?_
          refine q_icmp_lt (x := pp i) (y := 32) (tgt := 56) hx hb dX8_standing_39 (by decide) (by omega) (by omega) (fun c39_9 => ?_) (fun c39_9 => ?_)
          · refine lv_iconst (v := (nI (0))) hx hb dX8_standing_56 (by decide) ?_
            refine q_iadd (x := cn + 1) (y := 0) hx hb dX8_standing_57 ?_
            refine lv_istore_n (lv' := [(2, .int (nI ((cn + 1) + 0))), (3, .int (nI (i))), (0, .ref x0), (1, .int (nI (v)))]) hx hb dX8_standing_58 rfl hl (by decide) rfl (fun ls hl => ?_)
            refine lv_iinc (v := (nI (i + 1))) (lv' := [(3, .int (nI (i + 1))), (2, .int (nI ((cn + 1) + 0))), (0, .ref x0), (1, .int (nI (v)))]) hx hb dX8_standing_59 hl (k := 1) rfl (q_inc _) (by decide) rfl (fun ls hl => ?_)
            refine lv_goto (tgt := 4) hx hb dX8_standing_62 (by decide) ?_
            exact ih4 ((cn + 1) + 0) (i + 1) ls (by omega) (show ((cn + 1) + 0) = m_stn pp pa pb v (i + 1) from by (simp only [m_stn]; split <;> split <;> omega)) (show (i + 1) ≤ md from by omega) (lv_sub hl [0, 1, 2, 3] rfl)
          · refine lv_aload_n hx hb dX8_standing_42 rfl (lv_at hl 2 rfl) ?_
            refine va_get (D := (dC, dI)) (ci := 8) (v := .ref z23) (C := RX8) (T := TX8) (N := 35) hx hb hts uX8 hown hK hP 0 rfl rfl 23 (by decide) (hts _ kfX8_62) (fun _ h9 => h9) rfl dX8_standing_43 ?_
            refine lv_iload_n hx hb dX8_standing_46 rfl (lv_at hl 1 rfl) ?_
            refine q_ialdN hx hb hK hP 3 0 rfl rfl (j := i) (by omega) (by omega) dX8_standing_47 ?_
            have bd10 := hpb i
            refine lv_iload_n hx hb dX8_standing_48 rfl (lv_at hl 3 rfl) ?_
            refine q_icmp_ne (x := pb i) (y := v) (tgt := 56) hx hb dX8_standing_49 (by decide) (by omega) (by omega) (fun c49_11 => ?_) (fun c49_11 => ?_)
            · refine lv_iconst (v := (nI (0))) hx hb dX8_standing_56 (by decide) ?_
              refine q_iadd (x := cn + 1) (y := 0) hx hb dX8_standing_57 ?_
              refine lv_istore_n (lv' := [(2, .int (nI ((cn + 1) + 0))), (3, .int (nI (i))), (0, .ref x0), (1, .int (nI (v)))]) hx hb dX8_standing_58 rfl hl (by decide) rfl (fun ls hl => ?_)
              refine lv_iinc (v := (nI (i + 1))) (lv' := [(3, .int (nI (i + 1))), (2, .int (nI ((cn + 1) + 0))), (0, .ref x0), (1, .int (nI (v)))]) hx hb dX8_standing_59 hl (k := 1) rfl (q_inc _) (by decide) rfl (fun ls hl => ?_)
              refine lv_goto (tgt := 4) hx hb dX8_standing_62 (by decide) ?_
              exact ih4 ((cn + 1) + 0) (i + 1) ls (by omega) (show ((cn + 1) + 0) = m_stn pp pa pb v (i + 1) from by (simp only [m_stn]; split <;> split <;> omega)) (show (i + 1) ≤ md from by omega) (lv_sub hl [0, 1, 2, 3] rfl)
            · refine lv_iconst (v := (nI (1))) hx hb dX8_standing_52 (by decide) ?_
              refine lv_goto (tgt := 57) hx hb dX8_standing_53 (by decide) ?_
              refine q_iadd (x := cn + 1) (y := 1) hx hb dX8_standing_57 ?_
              refine lv_istore_n (lv' := [(2, .int (nI ((cn + 1) + 1))), (3, .int (nI (i))), (0, .ref x0), (1, .int (nI (v)))]) hx hb dX8_standing_58 rfl hl (by decide) rfl (fun ls hl => ?_)
              refine lv_iinc (v := (nI (i + 1))) (lv' := [(3, .int (nI (i + 1))), (2, .int (nI ((cn + 1) + 1))), (0, .ref x0), (1, .int (nI (v)))]) hx hb dX8_standing_59 hl (k := 1) rfl (q_inc _) (by decide) rfl (fun ls hl => ?_)
              refine lv_goto (tgt := 4) hx hb dX8_standing_62 (by decide) ?_
              exact ih4 ((cn + 1) + 1) (i + 1) ls (by omega) (show ((cn + 1) + 1) = m_stn pp pa pb v (i + 1) from by (simp only [m_stn]; split <;> split <;> omega)) (show (i + 1) ≤ md from by omega) (lv_sub hl [0, 1, 2, 3] rfl)
  exact L4 _ 0 0 ls (by exact Nat.lt_succ_self _) (show 0 = m_stn pp pa pb v 0 from by rfl) (show 0 ≤ md from by omega) (lv_sub hl [0, 1, 2, 3] rfl)
