theorem tab_out3 {x : Int32} (h0 : ¬ x = nI 0) (h1 : ¬ x = nI 1) (h2 : ¬ x = nI 2) : x.toInt < 0 ∨ 2 < x.toInt := by
  have g : ∀ k : Nat, k < 2 ^ 31 → ¬ x = nI k → x.toInt ≠ (k : Int) := fun k hk h e => h (Int32.toInt_inj.mp (by rw [nI_toInt hk]; exact e))
  have a0 := g 0 (by decide) h0
  have a1 := g 1 (by decide) h1
  have a2 := g 2 (by decide) h2
  omega
abbrev cX7_count : ByteArray := prog_1_method_13_code
def yX7_count : MethodName := ⟨RX7, "count", "(I)I"⟩
def wkX7_count : List Cond := .code yX7_count cX7_count 2 (some .int) :: qW
set_option maxRecDepth 40000 in
theorem gkX7_count : GoodIn qW wkX7_count := q_good (qw 559 rfl rfl)
set_option maxRecDepth 40000 in
theorem knX7_count : Cond.instanceMethod yX7_count ∈ qW := qw 557 rfl rfl
set_option maxRecDepth 40000 in
theorem klX7_count : Cond.selects RX7 yX7_count yX7_count ∈ qW := qw 558 rfl rfl
theorem dX7_count_0 : decode cX7_count 0 = .ok (.iload_n 1, 1) := by decide +kernel
theorem dX7_count_1 : decode cX7_count 1 = .ok (.tableswitch 48 0 2 #[27, 35, 43], 27) := by decide +kernel
theorem dX7_count_28 : decode cX7_count 28 = .ok (.aload_n 0, 1) := by decide +kernel
theorem dX7_count_29 : decode cX7_count 29 = .ok (.getfield 12, 3) := by decide +kernel
theorem dX7_count_32 : decode cX7_count 32 = .ok (.getfield 67, 3) := by decide +kernel
theorem dX7_count_35 : decode cX7_count 35 = .ok (.ireturn, 1) := by decide +kernel
theorem dX7_count_36 : decode cX7_count 36 = .ok (.aload_n 0, 1) := by decide +kernel
theorem dX7_count_37 : decode cX7_count 37 = .ok (.getfield 19, 3) := by decide +kernel
theorem dX7_count_40 : decode cX7_count 40 = .ok (.getfield 87, 3) := by decide +kernel
theorem dX7_count_43 : decode cX7_count 43 = .ok (.ireturn, 1) := by decide +kernel
theorem dX7_count_44 : decode cX7_count 44 = .ok (.aload_n 0, 1) := by decide +kernel
theorem dX7_count_45 : decode cX7_count 45 = .ok (.getfield 30, 3) := by decide +kernel
theorem dX7_count_48 : decode cX7_count 48 = .ok (.ireturn, 1) := by decide +kernel
theorem dX7_count_49 : decode cX7_count 49 = .ok (.iconst (-1), 1) := by decide +kernel
theorem dX7_count_50 : decode cX7_count 50 = .ok (.ireturn, 1) := by decide +kernel
abbrev cX7_clear : ByteArray := prog_1_method_14_code
def yX7_clear : MethodName := ⟨RX7, "clear", "()I"⟩
def wkX7_clear : List Cond := .code yX7_clear cX7_clear 2 (some .int) :: qW
set_option maxRecDepth 40000 in
theorem gkX7_clear : GoodIn qW wkX7_clear := q_good (qw 563 rfl rfl)
set_option maxRecDepth 40000 in
theorem knX7_clear : Cond.instanceMethod yX7_clear ∈ qW := qw 561 rfl rfl
set_option maxRecDepth 40000 in
theorem klX7_clear : Cond.selects RX7 yX7_clear yX7_clear ∈ qW := qw 562 rfl rfl
theorem dX7_clear_0 : decode cX7_clear 0 = .ok (.aload_n 0, 1) := by decide +kernel
theorem dX7_clear_1 : decode cX7_clear 1 = .ok (.getfield 30, 3) := by decide +kernel
theorem dX7_clear_4 : decode cX7_clear 4 = .ok (.istore_n 1, 1) := by decide +kernel
theorem dX7_clear_5 : decode cX7_clear 5 = .ok (.aload_n 0, 1) := by decide +kernel
theorem dX7_clear_6 : decode cX7_clear 6 = .ok (.iconst 0, 1) := by decide +kernel
theorem dX7_clear_7 : decode cX7_clear 7 = .ok (.putfield 30, 3) := by decide +kernel
theorem dX7_clear_10 : decode cX7_clear 10 = .ok (.iload_n 1, 1) := by decide +kernel
theorem dX7_clear_11 : decode cX7_clear 11 = .ok (.ireturn, 1) := by decide +kernel
set_option maxRecDepth 40000 in
theorem kfX7_12 : Cond.fieldLink RX7 12 "QlRewrite" "axioms" "LQlRewrite$Axioms;" ∈ qW := qw 257 rfl rfl
set_option maxRecDepth 40000 in
theorem kfX7_67 : Cond.fieldLink RX7 67 "QlRewrite$Axioms" "size" "I" ∈ qW := qw 74 rfl rfl
set_option maxRecDepth 40000 in
theorem kfX7_19 : Cond.fieldLink RX7 19 "QlRewrite" "facts" "LQlRewrite$Facts;" ∈ qW := qw 258 rfl rfl
set_option maxRecDepth 40000 in
theorem kfX7_87 : Cond.fieldLink RX7 87 "QlRewrite$Facts" "size" "I" ∈ qW := qw 103 rfl rfl
set_option maxRecDepth 40000 in
theorem kfX7_30 : Cond.fieldLink RX7 30 "QlRewrite" "questions" "I" ∈ qW := qw 260 rfl rfl
abbrev rm_c__count : Room := { frames := 0, cells := 0, slots := 0, locals := 0 }
set_option maxHeartbeats 4000000 in
set_option maxRecDepth 100000 in
theorem c__count (l : Launch) (dC : Nat → ClassId) (dI : Nat → Nat → Nat) (cI cL cQ cZ : ClassId) (x0 : Nat) (axm : Nat) (fct : Nat) (asd : Nat) (qs : Nat) (fbd : Nat) (rwr : Nat) (fnr : Nat) (brk : Int32) (bkn : Bool) (k1 : Nat) (k2 : Nat) (k3 : Nat) (ax : Nat) (m1 : Nat) (t1 : Nat) (s1 : Nat) (st1 : Nat) (e1 : Nat) (fc : Nat) (w : Int32)  : Met l yX7_count wkX7_count rm_c__count (q_R (dC, dI) qCl (qT cI cL cQ cZ) [(x0, .inr (7, [.ref axm, .ref fct, .ref asd, .int (nI (qs)), .ref fbd, .ref rwr, .ref fnr, .int (brk), .int (bI (bkn))])), (axm, .inr (0, [.ref k1, .ref k2, .ref k3, .int (nI (ax))])), (fct, .inr (1, [.ref m1, .ref t1, .ref s1, .ref st1, .ref e1, .int (nI (fc))]))] [.ref x0, .int (w)]) (vp_Si (fun r => r = (s_count ax fc qs w))) 0 0 (fun _ => False) := by
  refine Met.ofW (cc := cX7_count) (maxL := 2) (ret := (some .int)) (by decide) rfl ?_
  intro p e s m args below meth c s₁ B hml hv
  obtain ⟨hargs, hP, hK⟩ := hv
  have hx := B.exec
  have hb := B.bytes
  have hr := B.returns
  have hts : ∀ w ∈ qW, w.before args s = true := fun w h => atoms_spec (ws := wkX7_count) B.pre w (List.mem_cons_of_mem _ h)
  have hown : s.vm.findClass RX7 = some m.cls := findClass_of_methodNamed B.named
  have hlocks := B.notSynchronized
  refine q_named (fun Q hQ => ?_)
  refine q_entry hargs (Nat.le_of_ble_eq_true rfl) (fun ls hl => ?_)
  have hl : lv_has ls 2 [(0, .ref x0), (1, .int (w))] := hl
  refine lv_iload_n hx hb dX7_count_0 rfl (lv_at hl 1 rfl) ?_
  by_cases e0_1 : (w) = nI 0
  · refine q_top e0_1 ?_
    refine lv_tableIn (tgt := 28) (off := 27) hx hb dX7_count_1 (by decide) (by decide) (by decide) (by decide) ?_
    refine lv_aload_n hx hb dX7_count_28 rfl (lv_at hl 0 rfl) ?_
    refine va_get (D := (dC, dI)) (ci := 7) (v := .ref axm) (C := RX7) (T := TX7) (N := 9) hx hb hts uX7 hown hK hP 0 rfl rfl 0 (by decide) (hts _ kfX7_12) (fun _ h9 => h9) rfl dX7_count_29 ?_
    refine va_get (D := (dC, dI)) (ci := 0) (v := .int (nI (ax))) (C := RX0) (T := TX0) (N := 4) hx hb hts uX0 hown hK hP 1 rfl rfl 3 (by decide) (hts _ kfX7_67) (fun _ h9 => h9) rfl dX7_count_32 ?_
    subst hQ
    exact W.iret (v := (nI (ax))) hx hb hr (fun t9 h9 _ => ⟨_, rfl, show (nI (ax)) = (s_count ax fc qs w) from by (first | (rw [s_count, if_pos (by first | assumption | (rw [← nI_0]; assumption))]) | (rw [s_count, if_neg (by first | assumption | (rw [← nI_0]; assumption)), if_pos (by first | assumption | (rw [← nI_0]; assumption))]) | (rw [s_count, if_neg (by first | assumption | (rw [← nI_0]; assumption)), if_neg (by first | assumption | (rw [← nI_0]; assumption)), if_pos (by first | assumption | (rw [← nI_0]; assumption))]) | (rw [s_count, if_neg (by first | assumption | (rw [← nI_0]; assumption)), if_neg (by first | assumption | (rw [← nI_0]; assumption)), if_neg (by first | assumption | (rw [← nI_0]; assumption))]; rfl)), h9⟩) (fun q hq => by cases hq) dX7_count_35
  by_cases e1_2 : (w) = nI 1
  · refine q_top e1_2 ?_
    refine lv_tableIn (tgt := 36) (off := 35) hx hb dX7_count_1 (by decide) (by decide) (by decide) (by decide) ?_
    refine lv_aload_n hx hb dX7_count_36 rfl (lv_at hl 0 rfl) ?_
    refine va_get (D := (dC, dI)) (ci := 7) (v := .ref fct) (C := RX7) (T := TX7) (N := 9) hx hb hts uX7 hown hK hP 0 rfl rfl 1 (by decide) (hts _ kfX7_19) (fun _ h9 => h9) rfl dX7_count_37 ?_
    refine va_get (D := (dC, dI)) (ci := 1) (v := .int (nI (fc))) (C := RX1) (T := TX1) (N := 6) hx hb hts uX1 hown hK hP 2 rfl rfl 5 (by decide) (hts _ kfX7_87) (fun _ h9 => h9) rfl dX7_count_40 ?_
    subst hQ
    exact W.iret (v := (nI (fc))) hx hb hr (fun t9 h9 _ => ⟨_, rfl, show (nI (fc)) = (s_count ax fc qs w) from by (first | (rw [s_count, if_pos (by first | assumption | (rw [← nI_0]; assumption))]) | (rw [s_count, if_neg (by first | assumption | (rw [← nI_0]; assumption)), if_pos (by first | assumption | (rw [← nI_0]; assumption))]) | (rw [s_count, if_neg (by first | assumption | (rw [← nI_0]; assumption)), if_neg (by first | assumption | (rw [← nI_0]; assumption)), if_pos (by first | assumption | (rw [← nI_0]; assumption))]) | (rw [s_count, if_neg (by first | assumption | (rw [← nI_0]; assumption)), if_neg (by first | assumption | (rw [← nI_0]; assumption)), if_neg (by first | assumption | (rw [← nI_0]; assumption))]; rfl)), h9⟩) (fun q hq => by cases hq) dX7_count_43
  by_cases e2_3 : (w) = nI 2
  · refine q_top e2_3 ?_
    refine lv_tableIn (tgt := 44) (off := 43) hx hb dX7_count_1 (by decide) (by decide) (by decide) (by decide) ?_
    refine lv_aload_n hx hb dX7_count_44 rfl (lv_at hl 0 rfl) ?_
    refine va_get (D := (dC, dI)) (ci := 7) (v := .int (nI (qs))) (C := RX7) (T := TX7) (N := 9) hx hb hts uX7 hown hK hP 0 rfl rfl 3 (by decide) (hts _ kfX7_30) (fun _ h9 => h9) rfl dX7_count_45 ?_
    subst hQ
    exact W.iret (v := (nI (qs))) hx hb hr (fun t9 h9 _ => ⟨_, rfl, show (nI (qs)) = (s_count ax fc qs w) from by (first | (rw [s_count, if_pos (by first | assumption | (rw [← nI_0]; assumption))]) | (rw [s_count, if_neg (by first | assumption | (rw [← nI_0]; assumption)), if_pos (by first | assumption | (rw [← nI_0]; assumption))]) | (rw [s_count, if_neg (by first | assumption | (rw [← nI_0]; assumption)), if_neg (by first | assumption | (rw [← nI_0]; assumption)), if_pos (by first | assumption | (rw [← nI_0]; assumption))]) | (rw [s_count, if_neg (by first | assumption | (rw [← nI_0]; assumption)), if_neg (by first | assumption | (rw [← nI_0]; assumption)), if_neg (by first | assumption | (rw [← nI_0]; assumption))]; rfl)), h9⟩) (fun q hq => by cases hq) dX7_count_48
  refine lv_tableOut (tgt := 49) hx hb dX7_count_1 (tab_out3 e0_1 e1_2 e2_3) (by decide) ?_
  refine lv_iconst (v := (oI (none))) hx hb dX7_count_49 (by decide) ?_
  subst hQ
  exact W.iret (v := (oI (none))) hx hb hr (fun t9 h9 _ => ⟨_, rfl, show (oI (none)) = (s_count ax fc qs w) from by (first | (rw [s_count, if_pos (by first | assumption | (rw [← nI_0]; assumption))]) | (rw [s_count, if_neg (by first | assumption | (rw [← nI_0]; assumption)), if_pos (by first | assumption | (rw [← nI_0]; assumption))]) | (rw [s_count, if_neg (by first | assumption | (rw [← nI_0]; assumption)), if_neg (by first | assumption | (rw [← nI_0]; assumption)), if_pos (by first | assumption | (rw [← nI_0]; assumption))]) | (rw [s_count, if_neg (by first | assumption | (rw [← nI_0]; assumption)), if_neg (by first | assumption | (rw [← nI_0]; assumption)), if_neg (by first | assumption | (rw [← nI_0]; assumption))]; rfl)), h9⟩) (fun q hq => by cases hq) dX7_count_50
abbrev rm_c__clear : Room := { frames := 0, cells := 0, slots := 0, locals := 0 }
set_option maxHeartbeats 4000000 in
set_option maxRecDepth 100000 in
theorem c__clear (l : Launch) (dC : Nat → ClassId) (dI : Nat → Nat → Nat) (cI cL cQ cZ : ClassId) (x0 : Nat) (axm : Nat) (fct : Nat) (asd : Nat) (qs : Nat) (fbd : Nat) (rwr : Nat) (fnr : Nat) (brk : Int32) (bkn : Bool)  : Met l yX7_clear wkX7_clear rm_c__clear (q_W (dC, dI) qCl (qT cI cL cQ cZ) [(x0, .inr (7, [.ref axm, .ref fct, .ref asd, .int (nI (qs)), .ref fbd, .ref rwr, .ref fnr, .int (brk), .int (bI (bkn))]))] [.ref x0]) (va_Qi (fun (r : Int32) (u : Unit) => (r = (nI (qs)))) (fun (u : Unit) t => va_P (dC, dI) qCl [(x0, .inr (7, [.ref axm, .ref fct, .ref asd, .int (nI (0)), .ref fbd, .ref rwr, .ref fnr, .int (brk), .int (bI (bkn))]))] t.heap) (q_A [(x0, .inr (7, [.ref axm, .ref fct, .ref asd, .int (nI (qs)), .ref fbd, .ref rwr, .ref fnr, .int (brk), .int (bI (bkn))]))])) 0 0 (q_A [(x0, .inr (7, [.ref axm, .ref fct, .ref asd, .int (nI (qs)), .ref fbd, .ref rwr, .ref fnr, .int (brk), .int (bI (bkn))]))]) := by
  refine Met.ofW (cc := cX7_clear) (maxL := 2) (ret := (some .int)) (by decide) rfl ?_
  intro p e s m args below meth c s₁ B hml hv
  obtain ⟨hargs, hP, hK, hD0⟩ := hv
  have hx := B.exec
  have hb := B.bytes
  have hr := B.returns
  have hts : ∀ w ∈ qW, w.before args s = true := fun w h => atoms_spec (ws := wkX7_clear) B.pre w (List.mem_cons_of_mem _ h)
  have hown : s.vm.findClass RX7 = some m.cls := findClass_of_methodNamed B.named
  have hlocks := B.notSynchronized
  refine q_named (fun Q hQ => ?_)
  have hD : va_D (q_A [(x0, .inr (7, [.ref axm, .ref fct, .ref asd, .int (nI (qs)), .ref fbd, .ref rwr, .ref fnr, .int (brk), .int (bI (bkn))]))]) [(x0, .inr (7, [.ref axm, .ref fct, .ref asd, .int (nI (qs)), .ref fbd, .ref rwr, .ref fnr, .int (brk), .int (bI (bkn))]))] := ⟨hD0.1, fun k q h => ⟨k, q.2, h⟩⟩
  generalize hAe : q_A [(x0, .inr (7, [.ref axm, .ref fct, .ref asd, .int (nI (qs)), .ref fbd, .ref rwr, .ref fnr, .int (brk), .int (bI (bkn))]))] = A at hD
  have hS : va_S A s.heap s.heap [] := va_S.rf
  refine q_entry hargs (Nat.le_of_ble_eq_true rfl) (fun ls hl => ?_)
  have hl : lv_has ls 2 [(0, .ref x0)] := hl
  obtain ⟨H, locs, eH, eL⟩ : ∃ (H : Heap) (locs : List Loc), s.heap = H ∧ ([] : List Loc) = locs := ⟨_, _, rfl, rfl⟩
  have hS : va_S A s.heap H locs := by rw [← eH, ← eL]; exact hS
  have hP : va_P (dC, dI) qCl [(x0, .inr (7, [.ref axm, .ref fct, .ref asd, .int (nI (qs)), .ref fbd, .ref rwr, .ref fnr, .int (brk), .int (bI (bkn))]))] H := by rw [← eH]; exact hP
  refine W_at eH eL ?_
  refine lv_aload_n hx hb dX7_clear_0 rfl (lv_at hl 0 rfl) ?_
  refine va_get (D := (dC, dI)) (ci := 7) (v := .int (nI (qs))) (C := RX7) (T := TX7) (N := 9) hx hb hts uX7 hown hK hP 0 rfl rfl 3 (by decide) (hts _ kfX7_30) (fun _ h9 => h9) rfl dX7_clear_1 ?_
  refine lv_istore_n (lv' := [(1, .int (nI (qs))), (0, .ref x0)]) hx hb dX7_clear_4 rfl hl (by decide) rfl (fun ls hl => ?_)
  refine lv_aload_n hx hb dX7_clear_5 rfl (lv_at hl 1 rfl) ?_
  refine lv_iconst (v := (nI (0))) hx hb dX7_clear_6 (by decide) ?_
  refine va_put (D := (dC, dI)) (ci := 7) (v := .int (nI (0))) (ty := .int) (C := RX7) (T := TX7) (N := 9) hx hb hts uX7 tyX7 tyX7_ok nmX7 hown hK hP hD hS 0 rfl rfl 3 (by decide) (hts _ kfX7_30) (fun _ h9 => h9) rfl (by decide +kernel) (rfl) (rfl) (Nat.le_of_ble_eq_true rfl) dX7_clear_7 (fun H locs hP hD hS => ?_)
  have hP : va_P (dC, dI) qCl [(x0, .inr (7, [.ref axm, .ref fct, .ref asd, .int (nI (0)), .ref fbd, .ref rwr, .ref fnr, .int (brk), .int (bI (bkn))]))] H := hP
  have hD : va_D A [(x0, .inr (7, [.ref axm, .ref fct, .ref asd, .int (nI (0)), .ref fbd, .ref rwr, .ref fnr, .int (brk), .int (bI (bkn))]))] := hD
  refine lv_iload_n hx hb dX7_clear_10 rfl (lv_at hl 0 rfl) ?_
  subst hQ
  subst hAe
  have hP9 := hP.sub (ws' := [(x0, .inr (7, [.ref axm, .ref fct, .ref asd, .int (nI (0)), .ref fbd, .ref rwr, .ref fnr, .int (brk), .int (bI (bkn))]))]) [0] rfl
  exact W.iret (v := (nI (qs))) hx hb hr (fun t9 h9 _ => ⟨⟨(nI (qs)), (), rfl, congrArg nI (show qs = qs from by omega), by show va_P _ _ _ t9.heap; rw [h9]; exact hP9⟩, hS.F h9⟩) hS.2.2 dX7_clear_11
