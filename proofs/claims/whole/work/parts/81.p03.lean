abbrev cX4_init : ByteArray := prog_6_method_1_code
def yX4_init : MethodName := ⟨RX4, "<init>", "()V"⟩
def wkX4_init : List Cond := .code yX4_init cX4_init 2 none :: qW
set_option maxRecDepth 40000 in
theorem gkX4_init : GoodIn qW wkX4_init := q_good (qw 212 rfl rfl)
set_option maxRecDepth 40000 in
theorem knX4_init : Cond.instanceMethod yX4_init ∈ qW := qw 211 rfl rfl
theorem dX4_init_0 : decode cX4_init 0 = .ok (.aload_n 0, 1) := by decide +kernel
theorem dX4_init_1 : decode cX4_init 1 = .ok (.invokespecial 3, 3) := by decide +kernel
theorem dX4_init_4 : decode cX4_init 4 = .ok (.aload_n 0, 1) := by decide +kernel
theorem dX4_init_5 : decode cX4_init 5 = .ok (.bipush 16, 2) := by decide +kernel
theorem dX4_init_7 : decode cX4_init 7 = .ok (.newarray .int, 2) := by decide +kernel
theorem dX4_init_9 : decode cX4_init 9 = .ok (.putfield 9, 3) := by decide +kernel
theorem dX4_init_12 : decode cX4_init 12 = .ok (.aload_n 0, 1) := by decide +kernel
theorem dX4_init_13 : decode cX4_init 13 = .ok (.iconst 4, 1) := by decide +kernel
theorem dX4_init_14 : decode cX4_init 14 = .ok (.newarray .int, 2) := by decide +kernel
theorem dX4_init_16 : decode cX4_init 16 = .ok (.putfield 15, 3) := by decide +kernel
theorem dX4_init_19 : decode cX4_init 19 = .ok (.aload_n 0, 1) := by decide +kernel
theorem dX4_init_20 : decode cX4_init 20 = .ok (.iconst 4, 1) := by decide +kernel
theorem dX4_init_21 : decode cX4_init 21 = .ok (.newarray .int, 2) := by decide +kernel
theorem dX4_init_23 : decode cX4_init 23 = .ok (.putfield 18, 3) := by decide +kernel
theorem dX4_init_26 : decode cX4_init 26 = .ok (.iconst 0, 1) := by decide +kernel
theorem dX4_init_27 : decode cX4_init 27 = .ok (.istore_n 1, 1) := by decide +kernel
theorem dX4_init_28 : decode cX4_init 28 = .ok (.iload_n 1, 1) := by decide +kernel
theorem dX4_init_29 : decode cX4_init 29 = .ok (.bipush 8, 2) := by decide +kernel
theorem dX4_init_31 : decode cX4_init 31 = .ok (.if_icmp .ge 16, 3) := by decide +kernel
theorem dX4_init_34 : decode cX4_init 34 = .ok (.aload_n 0, 1) := by decide +kernel
theorem dX4_init_35 : decode cX4_init 35 = .ok (.getfield 9, 3) := by decide +kernel
theorem dX4_init_38 : decode cX4_init 38 = .ok (.iload_n 1, 1) := by decide +kernel
theorem dX4_init_39 : decode cX4_init 39 = .ok (.iload_n 1, 1) := by decide +kernel
theorem dX4_init_40 : decode cX4_init 40 = .ok (.iastore, 1) := by decide +kernel
theorem dX4_init_41 : decode cX4_init 41 = .ok (.iinc 1 1, 3) := by decide +kernel
theorem dX4_init_44 : decode cX4_init 44 = .ok (.goto (-16), 3) := by decide +kernel
theorem dX4_init_47 : decode cX4_init 47 = .ok (.return_, 1) := by decide +kernel
set_option maxRecDepth 40000 in
theorem kmX4_3 : Cond.methodLink RX4 3 objectInit ∈ qW := qw 213 rfl rfl
abbrev rm_c_Namer_init : Room := { frames := 1, cells := 3, slots := 24, locals := 40 }
set_option maxHeartbeats 4000000 in
set_option maxRecDepth 100000 in
theorem c_Namer_init (l : Launch) (dC : Nat → ClassId) (dI : Nat → Nat → Nat) (cI cL cQ cZ : ClassId) (m0 : Nat)  (sz0 : Nat) : Met l yX4_init wkX4_init rm_c_Namer_init (q_N (dC, dI) qCl (qT cI cL cQ cZ) [(m0, .inr (4, [.null, .null, .null]))] [.ref m0] sz0) (va_Qv (fun (u : Nat × Nat × Nat × (Nat → Nat)) => (c_nmk u.2.2.2 (fun _ => 0) (fun _ => 0))) (fun (u : Nat × Nat × Nat × (Nat → Nat)) t => va_P (dC, dI) qCl [(m0, .inr (4, [.ref u.1, .ref u.2.1, .ref u.2.2.1])), (u.1, .inl (cI, 16, .inl (nF u.2.2.2))), (u.2.1, .inl (cI, 4, .inl (nF (fun _ => 0)))), (u.2.2.1, .inl (cI, 4, .inl (nF (fun _ => 0))))] t.heap ∧ va_D (va_A [(m0, .inr (4, [.null, .null, .null]))] sz0) [(m0, .inr (4, [.ref u.1, .ref u.2.1, .ref u.2.2.1])), (u.1, .inl (cI, 16, .inl (nF u.2.2.2))), (u.2.1, .inl (cI, 4, .inl (nF (fun _ => 0)))), (u.2.2.1, .inl (cI, 4, .inl (nF (fun _ => 0))))]) (va_A [(m0, .inr (4, [.null, .null, .null]))] sz0)) 3 24 (va_A [(m0, .inr (4, [.null, .null, .null]))] sz0) := by
  refine Met.ofW (cc := cX4_init) (maxL := 2) (ret := none) (by decide) rfl ?_
  intro p e s m args below meth c s₁ B hml hv
  obtain ⟨hargs, hsz, hP, hK, hD0, hNs⟩ := hv
  have hx := B.exec
  have hb := B.bytes
  have hr := B.returns
  have hts : ∀ w ∈ qW, w.before args s = true := fun w h => atoms_spec (ws := wkX4_init) B.pre w (List.mem_cons_of_mem _ h)
  have hown : s.vm.findClass RX4 = some m.cls := findClass_of_methodNamed B.named
  have hlocks := B.notSynchronized
  have hin : meth.name = "<init>" := (name_of_methodNamed B.named B.method).1
  subst hsz
  refine q_named (fun Q hQ => ?_)
  have hD := hD0.self (sz := s.heap.size)
  generalize hAe : va_A [(m0, .inr (4, [.null, .null, .null]))] s.heap.size = A at hD
  have hA : ∀ q : Nat, s.heap.size ≤ q → A q := fun q h => by rw [← hAe]; exact Or.inr h
  have hS : va_S A s.heap s.heap [] := va_S.rf
  refine q_entry hargs (Nat.le_of_ble_eq_true rfl) (fun ls hl => ?_)
  have hl : lv_has ls 2 [(0, .ref m0)] := hl
  obtain ⟨H, locs, eH, eL⟩ : ∃ (H : Heap) (locs : List Loc), s.heap = H ∧ ([] : List Loc) = locs := ⟨_, _, rfl, rfl⟩
  have hS : va_S A s.heap H locs := by rw [← eH, ← eL]; exact hS
  have hP : va_P (dC, dI) qCl [(m0, .inr (4, [.null, .null, .null]))] H := by rw [← eH]; exact hP
  refine W_at eH eL ?_
  refine lv_aload_n hx hb dX4_init_0 rfl (lv_at hl 0 rfl) ?_
  refine W.objInit hx hb hown (hts _ kmX4_3) (hts _ k_oi_m) (hts _ k_oi_c) rfl (by rw [hml]; exact hl.1) rfl dX4_init_1 (Nat.le_of_ble_eq_true rfl) (Nat.le_of_ble_eq_true rfl) ?_
  refine W.eq (g2 := F0 m 4 ls []) rfl ?_
  refine lv_aload_n hx hb dX4_init_4 rfl (lv_at hl 0 rfl) ?_
  refine lv_bipush (v := (nI (16))) hx hb dX4_init_5 (by decide) ?_
  refine q_newi (n := 16) (f := nF (fun _ => 0)) hx hb (hts _ k_arr_int) hK hP hD hS hA 0 rfl (fun _ => rfl) (by decide) (Nat.le_of_ble_eq_true rfl) (Nat.le_of_ble_eq_true rfl) dX4_init_7 (fun q1 H hP hD hS => ?_)
  have hP : va_P (dC, dI) qCl [(m0, .inr (4, [.null, .null, .null])), (q1, .inl (cI, 16, .inl (nF (fun _ => 0))))] H := hP
  have hD : va_D A [(m0, .inr (4, [.null, .null, .null])), (q1, .inl (cI, 16, .inl (nF (fun _ => 0))))] := hD
  refine va_putF (D := (dC, dI)) (ci := 4) (v := .ref q1) (ty := (.array .int)) (C := RX4) (T := TX4) (N := 3) hx hb hts uX4 tyX4 tyX4_ok nmX4 hown hK hP hD hS 0 rfl rfl 0 (by decide) (hts _ kfX4_9) (fun _ h9 => h9) rfl hin rfl (by decide +kernel) (rfl) (rfl) (Nat.le_of_ble_eq_true rfl) dX4_init_9 (fun H locs hP hD hS => ?_)
  have hP : va_P (dC, dI) qCl [(m0, .inr (4, [.ref q1, .null, .null])), (q1, .inl (cI, 16, .inl (nF (fun _ => 0))))] H := hP
  have hD : va_D A [(m0, .inr (4, [.ref q1, .null, .null])), (q1, .inl (cI, 16, .inl (nF (fun _ => 0))))] := hD
  refine lv_aload_n hx hb dX4_init_12 rfl (lv_at hl 0 rfl) ?_
  refine lv_iconst (v := (nI (4))) hx hb dX4_init_13 (by decide) ?_
  refine q_newi (n := 4) (f := nF (fun _ => 0)) hx hb (hts _ k_arr_int) hK hP hD hS hA 0 rfl (fun _ => rfl) (by decide) (Nat.le_of_ble_eq_true rfl) (Nat.le_of_ble_eq_true rfl) dX4_init_14 (fun q2 H hP hD hS => ?_)
  have hP : va_P (dC, dI) qCl [(m0, .inr (4, [.ref q1, .null, .null])), (q1, .inl (cI, 16, .inl (nF (fun _ => 0)))), (q2, .inl (cI, 4, .inl (nF (fun _ => 0))))] H := hP
  have hD : va_D A [(m0, .inr (4, [.ref q1, .null, .null])), (q1, .inl (cI, 16, .inl (nF (fun _ => 0)))), (q2, .inl (cI, 4, .inl (nF (fun _ => 0))))] := hD
  refine va_putF (D := (dC, dI)) (ci := 4) (v := .ref q2) (ty := (.array .int)) (C := RX4) (T := TX4) (N := 3) hx hb hts uX4 tyX4 tyX4_ok nmX4 hown hK hP hD hS 0 rfl rfl 1 (by decide) (hts _ kfX4_15) (fun _ h9 => h9) rfl hin rfl (by decide +kernel) (rfl) (rfl) (Nat.le_of_ble_eq_true rfl) dX4_init_16 (fun H locs hP hD hS => ?_)
  have hP : va_P (dC, dI) qCl [(m0, .inr (4, [.ref q1, .ref q2, .null])), (q1, .inl (cI, 16, .inl (nF (fun _ => 0)))), (q2, .inl (cI, 4, .inl (nF (fun _ => 0))))] H := hP
  have hD : va_D A [(m0, .inr (4, [.ref q1, .ref q2, .null])), (q1, .inl (cI, 16, .inl (nF (fun _ => 0)))), (q2, .inl (cI, 4, .inl (nF (fun _ => 0))))] := hD
  refine lv_aload_n hx hb dX4_init_19 rfl (lv_at hl 0 rfl) ?_
  refine lv_iconst (v := (nI (4))) hx hb dX4_init_20 (by decide) ?_
  refine q_newi (n := 4) (f := nF (fun _ => 0)) hx hb (hts _ k_arr_int) hK hP hD hS hA 0 rfl (fun _ => rfl) (by decide) (Nat.le_of_ble_eq_true rfl) (Nat.le_of_ble_eq_true rfl) dX4_init_21 (fun q3 H hP hD hS => ?_)
  have hP : va_P (dC, dI) qCl [(m0, .inr (4, [.ref q1, .ref q2, .null])), (q1, .inl (cI, 16, .inl (nF (fun _ => 0)))), (q2, .inl (cI, 4, .inl (nF (fun _ => 0)))), (q3, .inl (cI, 4, .inl (nF (fun _ => 0))))] H := hP
  have hD : va_D A [(m0, .inr (4, [.ref q1, .ref q2, .null])), (q1, .inl (cI, 16, .inl (nF (fun _ => 0)))), (q2, .inl (cI, 4, .inl (nF (fun _ => 0)))), (q3, .inl (cI, 4, .inl (nF (fun _ => 0))))] := hD
  refine va_putF (D := (dC, dI)) (ci := 4) (v := .ref q3) (ty := (.array .int)) (C := RX4) (T := TX4) (N := 3) hx hb hts uX4 tyX4 tyX4_ok nmX4 hown hK hP hD hS 0 rfl rfl 2 (by decide) (hts _ kfX4_18) (fun _ h9 => h9) rfl hin rfl (by decide +kernel) (rfl) (rfl) (Nat.le_of_ble_eq_true rfl) dX4_init_23 (fun H locs hP hD hS => ?_)
  have hP : va_P (dC, dI) qCl [(m0, .inr (4, [.ref q1, .ref q2, .ref q3])), (q1, .inl (cI, 16, .inl (nF (fun _ => 0)))), (q2, .inl (cI, 4, .inl (nF (fun _ => 0)))), (q3, .inl (cI, 4, .inl (nF (fun _ => 0))))] H := hP
  have hD : va_D A [(m0, .inr (4, [.ref q1, .ref q2, .ref q3])), (q1, .inl (cI, 16, .inl (nF (fun _ => 0)))), (q2, .inl (cI, 4, .inl (nF (fun _ => 0)))), (q3, .inl (cI, 4, .inl (nF (fun _ => 0))))] := hD
  refine lv_iconst (v := (nI (0))) hx hb dX4_init_26 (by decide) ?_
  refine lv_istore_n (lv' := [(1, .int (nI (0))), (0, .ref m0)]) hx hb dX4_init_27 rfl hl (by decide) rfl (fun ls hl => ?_)
  refine lv_iload_n hx hb dX4_init_28 rfl (lv_at hl 0 rfl) ?_
  refine lv_bipush (v := (nI (8))) hx hb dX4_init_29 (by decide) ?_
  refine q_icmp_ge (x := 0) (y := 8) (tgt := 47) hx hb dX4_init_31 (by decide) (by omega) (by omega) (fun c31_4 => ?_) (fun c31_4 => ?_)
  · (exfalso; omega)
  · refine lv_aload_n hx hb dX4_init_34 rfl (lv_at hl 1 rfl) ?_
    refine va_get (D := (dC, dI)) (ci := 4) (v := .ref q1) (C := RX4) (T := TX4) (N := 3) hx hb hts uX4 hown hK hP 0 rfl rfl 0 (by decide) (hts _ kfX4_9) (fun _ h9 => h9) rfl dX4_init_35 ?_
    refine lv_iload_n hx hb dX4_init_38 rfl (lv_at hl 0 rfl) ?_
    refine lv_iload_n hx hb dX4_init_39 rfl (lv_at hl 0 rfl) ?_
    refine q_iastN hx hb hK hP hD hS 1 0 rfl rfl (j := 0) (x := 0) (by omega) (by omega) dX4_init_40 (fun H locs hP hD hS => ?_)
    have hP : va_P (dC, dI) qCl [(m0, .inr (4, [.ref q1, .ref q2, .ref q3])), (q1, .inl (cI, 16, .inl (nF (va_up (fun _ => 0) 0 0)))), (q2, .inl (cI, 4, .inl (nF (fun _ => 0)))), (q3, .inl (cI, 4, .inl (nF (fun _ => 0))))] H := hP
    have hD : va_D A [(m0, .inr (4, [.ref q1, .ref q2, .ref q3])), (q1, .inl (cI, 16, .inl (nF (va_up (fun _ => 0) 0 0)))), (q2, .inl (cI, 4, .inl (nF (fun _ => 0)))), (q3, .inl (cI, 4, .inl (nF (fun _ => 0))))] := hD
    refine lv_iinc (v := (nI (1))) (lv' := [(1, .int (nI (1))), (0, .ref m0)]) hx hb dX4_init_41 hl (k := 0) rfl (q_inc _) (by decide) rfl (fun ls hl => ?_)
    refine lv_goto (tgt := 28) hx hb dX4_init_44 (by decide) ?_
    refine lv_iload_n hx hb dX4_init_28 rfl (lv_at hl 0 rfl) ?_
    refine lv_bipush (v := (nI (8))) hx hb dX4_init_29 (by decide) ?_
    refine q_icmp_ge (x := 1) (y := 8) (tgt := 47) hx hb dX4_init_31 (by decide) (by omega) (by omega) (fun c31_5 => ?_) (fun c31_5 => ?_)
    · (exfalso; omega)
    · refine lv_aload_n hx hb dX4_init_34 rfl (lv_at hl 1 rfl) ?_
      refine va_get (D := (dC, dI)) (ci := 4) (v := .ref q1) (C := RX4) (T := TX4) (N := 3) hx hb hts uX4 hown hK hP 0 rfl rfl 0 (by decide) (hts _ kfX4_9) (fun _ h9 => h9) rfl dX4_init_35 ?_
      refine lv_iload_n hx hb dX4_init_38 rfl (lv_at hl 0 rfl) ?_
      refine lv_iload_n hx hb dX4_init_39 rfl (lv_at hl 0 rfl) ?_
      refine q_iastN hx hb hK hP hD hS 1 0 rfl rfl (j := 1) (x := 1) (by omega) (by omega) dX4_init_40 (fun H locs hP hD hS => ?_)
      have hP : va_P (dC, dI) qCl [(m0, .inr (4, [.ref q1, .ref q2, .ref q3])), (q1, .inl (cI, 16, .inl (nF (va_up (va_up (fun _ => 0) 0 0) 1 1)))), (q2, .inl (cI, 4, .inl (nF (fun _ => 0)))), (q3, .inl (cI, 4, .inl (nF (fun _ => 0))))] H := hP
      have hD : va_D A [(m0, .inr (4, [.ref q1, .ref q2, .ref q3])), (q1, .inl (cI, 16, .inl (nF (va_up (va_up (fun _ => 0) 0 0) 1 1)))), (q2, .inl (cI, 4, .inl (nF (fun _ => 0)))), (q3, .inl (cI, 4, .inl (nF (fun _ => 0))))] := hD
      refine lv_iinc (v := (nI (2))) (lv' := [(1, .int (nI (2))), (0, .ref m0)]) hx hb dX4_init_41 hl (k := 0) rfl (q_inc _) (by decide) rfl (fun ls hl => ?_)
      refine lv_goto (tgt := 28) hx hb dX4_init_44 (by decide) ?_
      refine lv_iload_n hx hb dX4_init_28 rfl (lv_at hl 0 rfl) ?_
      refine lv_bipush (v := (nI (8))) hx hb dX4_init_29 (by decide) ?_
      refine q_icmp_ge (x := 2) (y := 8) (tgt := 47) hx hb dX4_init_31 (by decide) (by omega) (by omega) (fun c31_6 => ?_) (fun c31_6 => ?_)
      · (exfalso; omega)
      · refine lv_aload_n hx hb dX4_init_34 rfl (lv_at hl 1 rfl) ?_
        refine va_get (D := (dC, dI)) (ci := 4) (v := .ref q1) (C := RX4) (T := TX4) (N := 3) hx hb hts uX4 hown hK hP 0 rfl rfl 0 (by decide) (hts _ kfX4_9) (fun _ h9 => h9) rfl dX4_init_35 ?_
        refine lv_iload_n hx hb dX4_init_38 rfl (lv_at hl 0 rfl) ?_
        refine lv_iload_n hx hb dX4_init_39 rfl (lv_at hl 0 rfl) ?_
        refine q_iastN hx hb hK hP hD hS 1 0 rfl rfl (j := 2) (x := 2) (by omega) (by omega) dX4_init_40 (fun H locs hP hD hS => ?_)
        have hP : va_P (dC, dI) qCl [(m0, .inr (4, [.ref q1, .ref q2, .ref q3])), (q1, .inl (cI, 16, .inl (nF (va_up (va_up (va_up (fun _ => 0) 0 0) 1 1) 2 2)))), (q2, .inl (cI, 4, .inl (nF (fun _ => 0)))), (q3, .inl (cI, 4, .inl (nF (fun _ => 0))))] H := hP
        have hD : va_D A [(m0, .inr (4, [.ref q1, .ref q2, .ref q3])), (q1, .inl (cI, 16, .inl (nF (va_up (va_up (va_up (fun _ => 0) 0 0) 1 1) 2 2)))), (q2, .inl (cI, 4, .inl (nF (fun _ => 0)))), (q3, .inl (cI, 4, .inl (nF (fun _ => 0))))] := hD
        refine lv_iinc (v := (nI (3))) (lv' := [(1, .int (nI (3))), (0, .ref m0)]) hx hb dX4_init_41 hl (k := 0) rfl (q_inc _) (by decide) rfl (fun ls hl => ?_)
        refine lv_goto (tgt := 28) hx hb dX4_init_44 (by decide) ?_
        refine lv_iload_n hx hb dX4_init_28 rfl (lv_at hl 0 rfl) ?_
        refine lv_bipush (v := (nI (8))) hx hb dX4_init_29 (by decide) ?_
        refine q_icmp_ge (x := 3) (y := 8) (tgt := 47) hx hb dX4_init_31 (by decide) (by omega) (by omega) (fun c31_7 => ?_) (fun c31_7 => ?_)
        · (exfalso; omega)
        · refine lv_aload_n hx hb dX4_init_34 rfl (lv_at hl 1 rfl) ?_
          refine va_get (D := (dC, dI)) (ci := 4) (v := .ref q1) (C := RX4) (T := TX4) (N := 3) hx hb hts uX4 hown hK hP 0 rfl rfl 0 (by decide) (hts _ kfX4_9) (fun _ h9 => h9) rfl dX4_init_35 ?_
          refine lv_iload_n hx hb dX4_init_38 rfl (lv_at hl 0 rfl) ?_
          refine lv_iload_n hx hb dX4_init_39 rfl (lv_at hl 0 rfl) ?_
          refine q_iastN hx hb hK hP hD hS 1 0 rfl rfl (j := 3) (x := 3) (by omega) (by omega) dX4_init_40 (fun H locs hP hD hS => ?_)
          have hP : va_P (dC, dI) qCl [(m0, .inr (4, [.ref q1, .ref q2, .ref q3])), (q1, .inl (cI, 16, .inl (nF (va_up (va_up (va_up (va_up (fun _ => 0) 0 0) 1 1) 2 2) 3 3)))), (q2, .inl (cI, 4, .inl (nF (fun _ => 0)))), (q3, .inl (cI, 4, .inl (nF (fun _ => 0))))] H := hP
          have hD : va_D A [(m0, .inr (4, [.ref q1, .ref q2, .ref q3])), (q1, .inl (cI, 16, .inl (nF (va_up (va_up (va_up (va_up (fun _ => 0) 0 0) 1 1) 2 2) 3 3)))), (q2, .inl (cI, 4, .inl (nF (fun _ => 0)))), (q3, .inl (cI, 4, .inl (nF (fun _ => 0))))] := hD
          refine lv_iinc (v := (nI (4))) (lv' := [(1, .int (nI (4))), (0, .ref m0)]) hx hb dX4_init_41 hl (k := 0) rfl (q_inc _) (by decide) rfl (fun ls hl => ?_)
          refine lv_goto (tgt := 28) hx hb dX4_init_44 (by decide) ?_
          refine lv_iload_n hx hb dX4_init_28 rfl (lv_at hl 0 rfl) ?_
          refine lv_bipush (v := (nI (8))) hx hb dX4_init_29 (by decide) ?_
          refine q_icmp_ge (x := 4) (y := 8) (tgt := 47) hx hb dX4_init_31 (by decide) (by omega) (by omega) (fun c31_8 => ?_) (fun c31_8 => ?_)
          · (exfalso; omega)
          · refine lv_aload_n hx hb dX4_init_34 rfl (lv_at hl 1 rfl) ?_
            refine va_get (D := (dC, dI)) (ci := 4) (v := .ref q1) (C := RX4) (T := TX4) (N := 3) hx hb hts uX4 hown hK hP 0 rfl rfl 0 (by decide) (hts _ kfX4_9) (fun _ h9 => h9) rfl dX4_init_35 ?_
            refine lv_iload_n hx hb dX4_init_38 rfl (lv_at hl 0 rfl) ?_
            refine lv_iload_n hx hb dX4_init_39 rfl (lv_at hl 0 rfl) ?_
            refine q_iastN hx hb hK hP hD hS 1 0 rfl rfl (j := 4) (x := 4) (by omega) (by omega) dX4_init_40 (fun H locs hP hD hS => ?_)
            have hP : va_P (dC, dI) qCl [(m0, .inr (4, [.ref q1, .ref q2, .ref q3])), (q1, .inl (cI, 16, .inl (nF (va_up (va_up (va_up (va_up (va_up (fun _ => 0) 0 0) 1 1) 2 2) 3 3) 4 4)))), (q2, .inl (cI, 4, .inl (nF (fun _ => 0)))), (q3, .inl (cI, 4, .inl (nF (fun _ => 0))))] H := hP
            have hD : va_D A [(m0, .inr (4, [.ref q1, .ref q2, .ref q3])), (q1, .inl (cI, 16, .inl (nF (va_up (va_up (va_up (va_up (va_up (fun _ => 0) 0 0) 1 1) 2 2) 3 3) 4 4)))), (q2, .inl (cI, 4, .inl (nF (fun _ => 0)))), (q3, .inl (cI, 4, .inl (nF (fun _ => 0))))] := hD
            refine lv_iinc (v := (nI (5))) (lv' := [(1, .int (nI (5))), (0, .ref m0)]) hx hb dX4_init_41 hl (k := 0) rfl (q_inc _) (by decide) rfl (fun ls hl => ?_)
            refine lv_goto (tgt := 28) hx hb dX4_init_44 (by decide) ?_
            refine lv_iload_n hx hb dX4_init_28 rfl (lv_at hl 0 rfl) ?_
            refine lv_bipush (v := (nI (8))) hx hb dX4_init_29 (by decide) ?_
            refine q_icmp_ge (x := 5) (y := 8) (tgt := 47) hx hb dX4_init_31 (by decide) (by omega) (by omega) (fun c31_9 => ?_) (fun c31_9 => ?_)
            · (exfalso; omega)
            · refine lv_aload_n hx hb dX4_init_34 rfl (lv_at hl 1 rfl) ?_
              refine va_get (D := (dC, dI)) (ci := 4) (v := .ref q1) (C := RX4) (T := TX4) (N := 3) hx hb hts uX4 hown hK hP 0 rfl rfl 0 (by decide) (hts _ kfX4_9) (fun _ h9 => h9) rfl dX4_init_35 ?_
              refine lv_iload_n hx hb dX4_init_38 rfl (lv_at hl 0 rfl) ?_
              refine lv_iload_n hx hb dX4_init_39 rfl (lv_at hl 0 rfl) ?_
              refine q_iastN hx hb hK hP hD hS 1 0 rfl rfl (j := 5) (x := 5) (by omega) (by omega) dX4_init_40 (fun H locs hP hD hS => ?_)
              have hP : va_P (dC, dI) qCl [(m0, .inr (4, [.ref q1, .ref q2, .ref q3])), (q1, .inl (cI, 16, .inl (nF (va_up (va_up (va_up (va_up (va_up (va_up (fun _ => 0) 0 0) 1 1) 2 2) 3 3) 4 4) 5 5)))), (q2, .inl (cI, 4, .inl (nF (fun _ => 0)))), (q3, .inl (cI, 4, .inl (nF (fun _ => 0))))] H := hP
              have hD : va_D A [(m0, .inr (4, [.ref q1, .ref q2, .ref q3])), (q1, .inl (cI, 16, .inl (nF (va_up (va_up (va_up (va_up (va_up (va_up (fun _ => 0) 0 0) 1 1) 2 2) 3 3) 4 4) 5 5)))), (q2, .inl (cI, 4, .inl (nF (fun _ => 0)))), (q3, .inl (cI, 4, .inl (nF (fun _ => 0))))] := hD
              refine lv_iinc (v := (nI (6))) (lv' := [(1, .int (nI (6))), (0, .ref m0)]) hx hb dX4_init_41 hl (k := 0) rfl (q_inc _) (by decide) rfl (fun ls hl => ?_)
              refine lv_goto (tgt := 28) hx hb dX4_init_44 (by decide) ?_
              refine lv_iload_n hx hb dX4_init_28 rfl (lv_at hl 0 rfl) ?_
              refine lv_bipush (v := (nI (8))) hx hb dX4_init_29 (by decide) ?_
              refine q_icmp_ge (x := 6) (y := 8) (tgt := 47) hx hb dX4_init_31 (by decide) (by omega) (by omega) (fun c31_10 => ?_) (fun c31_10 => ?_)
              · (exfalso; omega)
              · refine lv_aload_n hx hb dX4_init_34 rfl (lv_at hl 1 rfl) ?_
                refine va_get (D := (dC, dI)) (ci := 4) (v := .ref q1) (C := RX4) (T := TX4) (N := 3) hx hb hts uX4 hown hK hP 0 rfl rfl 0 (by decide) (hts _ kfX4_9) (fun _ h9 => h9) rfl dX4_init_35 ?_
                refine lv_iload_n hx hb dX4_init_38 rfl (lv_at hl 0 rfl) ?_
                refine lv_iload_n hx hb dX4_init_39 rfl (lv_at hl 0 rfl) ?_
                refine q_iastN hx hb hK hP hD hS 1 0 rfl rfl (j := 6) (x := 6) (by omega) (by omega) dX4_init_40 (fun H locs hP hD hS => ?_)
                have hP : va_P (dC, dI) qCl [(m0, .inr (4, [.ref q1, .ref q2, .ref q3])), (q1, .inl (cI, 16, .inl (nF (va_up (va_up (va_up (va_up (va_up (va_up (va_up (fun _ => 0) 0 0) 1 1) 2 2) 3 3) 4 4) 5 5) 6 6)))), (q2, .inl (cI, 4, .inl (nF (fun _ => 0)))), (q3, .inl (cI, 4, .inl (nF (fun _ => 0))))] H := hP
                have hD : va_D A [(m0, .inr (4, [.ref q1, .ref q2, .ref q3])), (q1, .inl (cI, 16, .inl (nF (va_up (va_up (va_up (va_up (va_up (va_up (va_up (fun _ => 0) 0 0) 1 1) 2 2) 3 3) 4 4) 5 5) 6 6)))), (q2, .inl (cI, 4, .inl (nF (fun _ => 0)))), (q3, .inl (cI, 4, .inl (nF (fun _ => 0))))] := hD
                refine lv_iinc (v := (nI (7))) (lv' := [(1, .int (nI (7))), (0, .ref m0)]) hx hb dX4_init_41 hl (k := 0) rfl (q_inc _) (by decide) rfl (fun ls hl => ?_)
                refine lv_goto (tgt := 28) hx hb dX4_init_44 (by decide) ?_
                refine lv_iload_n hx hb dX4_init_28 rfl (lv_at hl 0 rfl) ?_
                refine lv_bipush (v := (nI (8))) hx hb dX4_init_29 (by decide) ?_
                refine q_icmp_ge (x := 7) (y := 8) (tgt := 47) hx hb dX4_init_31 (by decide) (by omega) (by omega) (fun c31_11 => ?_) (fun c31_11 => ?_)
                · (exfalso; omega)
                · refine lv_aload_n hx hb dX4_init_34 rfl (lv_at hl 1 rfl) ?_
                  refine va_get (D := (dC, dI)) (ci := 4) (v := .ref q1) (C := RX4) (T := TX4) (N := 3) hx hb hts uX4 hown hK hP 0 rfl rfl 0 (by decide) (hts _ kfX4_9) (fun _ h9 => h9) rfl dX4_init_35 ?_
                  refine lv_iload_n hx hb dX4_init_38 rfl (lv_at hl 0 rfl) ?_
                  refine lv_iload_n hx hb dX4_init_39 rfl (lv_at hl 0 rfl) ?_
                  refine q_iastN hx hb hK hP hD hS 1 0 rfl rfl (j := 7) (x := 7) (by omega) (by omega) dX4_init_40 (fun H locs hP hD hS => ?_)
                  have hP : va_P (dC, dI) qCl [(m0, .inr (4, [.ref q1, .ref q2, .ref q3])), (q1, .inl (cI, 16, .inl (nF (va_up (va_up (va_up (va_up (va_up (va_up (va_up (va_up (fun _ => 0) 0 0) 1 1) 2 2) 3 3) 4 4) 5 5) 6 6) 7 7)))), (q2, .inl (cI, 4, .inl (nF (fun _ => 0)))), (q3, .inl (cI, 4, .inl (nF (fun _ => 0))))] H := hP
                  have hD : va_D A [(m0, .inr (4, [.ref q1, .ref q2, .ref q3])), (q1, .inl (cI, 16, .inl (nF (va_up (va_up (va_up (va_up (va_up (va_up (va_up (va_up (fun _ => 0) 0 0) 1 1) 2 2) 3 3) 4 4) 5 5) 6 6) 7 7)))), (q2, .inl (cI, 4, .inl (nF (fun _ => 0)))), (q3, .inl (cI, 4, .inl (nF (fun _ => 0))))] := hD
                  refine lv_iinc (v := (nI (8))) (lv' := [(1, .int (nI (8))), (0, .ref m0)]) hx hb dX4_init_41 hl (k := 0) rfl (q_inc _) (by decide) rfl (fun ls hl => ?_)
                  refine lv_goto (tgt := 28) hx hb dX4_init_44 (by decide) ?_
                  refine lv_iload_n hx hb dX4_init_28 rfl (lv_at hl 0 rfl) ?_
                  refine lv_bipush (v := (nI (8))) hx hb dX4_init_29 (by decide) ?_
                  refine q_icmp_ge (x := 8) (y := 8) (tgt := 47) hx hb dX4_init_31 (by decide) (by omega) (by omega) (fun c31_12 => ?_) (fun c31_12 => ?_)
                  · subst hQ
                    subst hAe
                    have hP9 := hP.sub (ws' := [(m0, .inr (4, [.ref q1, .ref q2, .ref q3])), (q1, .inl (cI, 16, .inl (nF (va_up (va_up (va_up (va_up (va_up (va_up (va_up (va_up (fun _ => 0) 0 0) 1 1) 2 2) 3 3) 4 4) 5 5) 6 6) 7 7)))), (q2, .inl (cI, 4, .inl (nF (fun _ => 0)))), (q3, .inl (cI, 4, .inl (nF (fun _ => 0))))]) [0, 1, 2, 3] rfl
                    have hD9 := hD.sub (ws' := [(m0, .inr (4, [.ref q1, .ref q2, .ref q3])), (q1, .inl (cI, 16, .inl (nF (va_up (va_up (va_up (va_up (va_up (va_up (va_up (va_up (fun _ => 0) 0 0) 1 1) 2 2) 3 3) 4 4) 5 5) 6 6) 7 7)))), (q2, .inl (cI, 4, .inl (nF (fun _ => 0)))), (q3, .inl (cI, 4, .inl (nF (fun _ => 0))))]) [0, 1, 2, 3] (by decide) rfl
                    refine W.widen (k := 3) (n := 24) (by decide) (by decide) ?_
                    exact W.vret hx hb hr (fun t9 h9 _ => ⟨⟨(q1, q2, q3, va_up (va_up (va_up (va_up (va_up (va_up (va_up (va_up (fun _ => 0) 0 0) 1 1) 2 2) 3 3) 4 4) 5 5) 6 6) 7 7), rfl, (show c_nmk (va_up (va_up (va_up (va_up (va_up (va_up (va_up (va_up (fun _ => 0) 0 0) 1 1) 2 2) 3 3) 4 4) 5 5) 6 6) 7 7) (fun _ => 0) (fun _ => 0) from by (exact ⟨up_lt (up_lt (up_lt (up_lt (up_lt (up_lt (up_lt (up_lt (fun _ => by decide) (by decide)) (by decide)) (by decide)) (by decide)) (by decide)) (by decide)) (by decide)) (by decide), ⟨rfl, rfl, rfl, rfl⟩, fun _ => (by show 0 < 16; decide), fun _ => (by show 0 < 4096; decide)⟩)), by show va_P _ _ _ t9.heap ∧ _; rw [h9]; exact ⟨hP9, hD9⟩⟩, hS.F h9⟩) hS.2.2 dX4_init_47
                  · (exfalso; omega)
