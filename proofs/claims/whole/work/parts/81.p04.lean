abbrev cX5_init : ByteArray := prog_7_method_1_code
def yX5_init : MethodName := ⟨RX5, "<init>", "()V"⟩
def wkX5_init : List Cond := .code yX5_init cX5_init 1 none :: qW
set_option maxRecDepth 40000 in
theorem gkX5_init : GoodIn qW wkX5_init := q_good (qw 122 rfl rfl)
set_option maxRecDepth 40000 in
theorem knX5_init : Cond.instanceMethod yX5_init ∈ qW := qw 121 rfl rfl
theorem dX5_init_0 : decode cX5_init 0 = .ok (.aload_n 0, 1) := by decide +kernel
theorem dX5_init_1 : decode cX5_init 1 = .ok (.invokespecial 3, 3) := by decide +kernel
theorem dX5_init_4 : decode cX5_init 4 = .ok (.aload_n 0, 1) := by decide +kernel
theorem dX5_init_5 : decode cX5_init 5 = .ok (.new 9, 3) := by decide +kernel
theorem dX5_init_8 : decode cX5_init 8 = .ok (.dup, 1) := by decide +kernel
theorem dX5_init_9 : decode cX5_init 9 = .ok (.invokespecial 11, 3) := by decide +kernel
theorem dX5_init_12 : decode cX5_init 12 = .ok (.putfield 12, 3) := by decide +kernel
theorem dX5_init_15 : decode cX5_init 15 = .ok (.aload_n 0, 1) := by decide +kernel
theorem dX5_init_16 : decode cX5_init 16 = .ok (.iconst 0, 1) := by decide +kernel
theorem dX5_init_17 : decode cX5_init 17 = .ok (.putfield 18, 3) := by decide +kernel
theorem dX5_init_20 : decode cX5_init 20 = .ok (.aload_n 0, 1) := by decide +kernel
theorem dX5_init_21 : decode cX5_init 21 = .ok (.bipush 90, 2) := by decide +kernel
theorem dX5_init_23 : decode cX5_init 23 = .ok (.newarray .long, 2) := by decide +kernel
theorem dX5_init_25 : decode cX5_init 25 = .ok (.putfield 22, 3) := by decide +kernel
theorem dX5_init_28 : decode cX5_init 28 = .ok (.aload_n 0, 1) := by decide +kernel
theorem dX5_init_29 : decode cX5_init 29 = .ok (.iconst 0, 1) := by decide +kernel
theorem dX5_init_30 : decode cX5_init 30 = .ok (.putfield 26, 3) := by decide +kernel
theorem dX5_init_33 : decode cX5_init 33 = .ok (.aload_n 0, 1) := by decide +kernel
theorem dX5_init_34 : decode cX5_init 34 = .ok (.iconst 0, 1) := by decide +kernel
theorem dX5_init_35 : decode cX5_init 35 = .ok (.putfield 29, 3) := by decide +kernel
theorem dX5_init_38 : decode cX5_init 38 = .ok (.aload_n 0, 1) := by decide +kernel
theorem dX5_init_39 : decode cX5_init 39 = .ok (.iconst 0, 1) := by decide +kernel
theorem dX5_init_40 : decode cX5_init 40 = .ok (.putfield 33, 3) := by decide +kernel
theorem dX5_init_43 : decode cX5_init 43 = .ok (.aload_n 0, 1) := by decide +kernel
theorem dX5_init_44 : decode cX5_init 44 = .ok (.sipush 192, 3) := by decide +kernel
theorem dX5_init_47 : decode cX5_init 47 = .ok (.newarray .int, 2) := by decide +kernel
theorem dX5_init_49 : decode cX5_init 49 = .ok (.putfield 36, 3) := by decide +kernel
theorem dX5_init_52 : decode cX5_init 52 = .ok (.aload_n 0, 1) := by decide +kernel
theorem dX5_init_53 : decode cX5_init 53 = .ok (.iconst 0, 1) := by decide +kernel
theorem dX5_init_54 : decode cX5_init 54 = .ok (.putfield 40, 3) := by decide +kernel
theorem dX5_init_57 : decode cX5_init 57 = .ok (.return_, 1) := by decide +kernel
set_option maxRecDepth 40000 in
theorem kmX5_3 : Cond.methodLink RX5 3 objectInit ∈ qW := qw 123 rfl rfl
set_option maxRecDepth 40000 in
theorem kclX5_9 : Cond.classLink RX5 9 RX3 ∈ qW := qw 124 rfl rfl
set_option maxRecDepth 40000 in
theorem kinX3 : Cond.instantiable RX3 4 ∈ qW := qw 125 rfl rfl
set_option maxRecDepth 40000 in
theorem k_arr_long : Cond.arrayClass .long ∈ qW := qw 201 rfl rfl
set_option maxRecDepth 40000 in
theorem kfX5_22 : Cond.fieldLink RX5 22 "QlRewrite$Question" "rows" "[J" ∈ qW := qw 163 rfl rfl
set_option maxRecDepth 40000 in
theorem kfX5_26 : Cond.fieldLink RX5 26 "QlRewrite$Question" "size" "I" ∈ qW := qw 167 rfl rfl
set_option maxRecDepth 40000 in
theorem kfX5_29 : Cond.fieldLink RX5 29 "QlRewrite$Question" "large" "Z" ∈ qW := qw 171 rfl rfl
set_option maxRecDepth 40000 in
theorem kfX5_40 : Cond.fieldLink RX5 40 "QlRewrite$Question" "searched" "Z" ∈ qW := qw 180 rfl rfl
abbrev rm_c_Question_init : Room := { frames := 2, cells := 5, slots := 298, locals := 60 }
set_option maxHeartbeats 4000000 in
set_option maxRecDepth 100000 in
theorem c_Question_init (l : Launch) (dC : Nat → ClassId) (dI : Nat → Nat → Nat) (cI cL cQ cZ : ClassId) (q0 : Nat)  (sz0 : Nat) : Met l yX5_init wkX5_init rm_c_Question_init (q_N (dC, dI) qCl (qT cI cL cQ cZ) [(q0, .inr (5, [.null, .int (nI (0)), .null, .int (nI (0)), .int (bI (false)), .int (bI (false)), .null, .int (bI (false))]))] [.ref q0] sz0) (va_Qv (fun (u : Nat × Nat × Nat × Nat × Nat) => True) (fun (u : Nat × Nat × Nat × Nat × Nat) t => va_P (dC, dI) qCl [(q0, .inr (5, [.ref u.1, .int (nI (0)), .ref u.2.2.2.1, .int (nI (0)), .int (bI (false)), .int (bI (false)), .ref u.2.2.2.2, .int (bI (false))])), (u.1, .inr (3, [.ref u.2.1, .ref u.2.2.1, .int (nI (0)), .int (bI (false))])), (u.2.1, .inl (cI, 4, .inl (nF (fun _ => 0)))), (u.2.2.1, .inl (cI, 8, .inl (nF (fun _ => 0)))), (u.2.2.2.1, .inl (cL, 90, .inr (.inl (lF (fun _ => 0))))), (u.2.2.2.2, .inl (cI, 192, .inl (oF (fun _ => some 0))))] t.heap ∧ va_D (va_A [(q0, .inr (5, [.null, .int (nI (0)), .null, .int (nI (0)), .int (bI (false)), .int (bI (false)), .null, .int (bI (false))]))] sz0) [(q0, .inr (5, [.ref u.1, .int (nI (0)), .ref u.2.2.2.1, .int (nI (0)), .int (bI (false)), .int (bI (false)), .ref u.2.2.2.2, .int (bI (false))])), (u.1, .inr (3, [.ref u.2.1, .ref u.2.2.1, .int (nI (0)), .int (bI (false))])), (u.2.1, .inl (cI, 4, .inl (nF (fun _ => 0)))), (u.2.2.1, .inl (cI, 8, .inl (nF (fun _ => 0)))), (u.2.2.2.1, .inl (cL, 90, .inr (.inl (lF (fun _ => 0))))), (u.2.2.2.2, .inl (cI, 192, .inl (oF (fun _ => some 0))))]) (va_A [(q0, .inr (5, [.null, .int (nI (0)), .null, .int (nI (0)), .int (bI (false)), .int (bI (false)), .null, .int (bI (false))]))] sz0)) 5 298 (va_A [(q0, .inr (5, [.null, .int (nI (0)), .null, .int (nI (0)), .int (bI (false)), .int (bI (false)), .null, .int (bI (false))]))] sz0) := by
  refine Met.ofW (cc := cX5_init) (maxL := 1) (ret := none) (by decide) rfl ?_
  intro p e s m args below meth c s₁ B hml hv
  obtain ⟨hargs, hsz, hP, hK, hD0, hNs⟩ := hv
  have hx := B.exec
  have hb := B.bytes
  have hr := B.returns
  have hts : ∀ w ∈ qW, w.before args s = true := fun w h => atoms_spec (ws := wkX5_init) B.pre w (List.mem_cons_of_mem _ h)
  have hown : s.vm.findClass RX5 = some m.cls := findClass_of_methodNamed B.named
  have hlocks := B.notSynchronized
  have hin : meth.name = "<init>" := (name_of_methodNamed B.named B.method).1
  subst hsz
  refine q_named (fun Q hQ => ?_)
  have hD := hD0.self (sz := s.heap.size)
  generalize hAe : va_A [(q0, .inr (5, [.null, .int (nI (0)), .null, .int (nI (0)), .int (bI (false)), .int (bI (false)), .null, .int (bI (false))]))] s.heap.size = A at hD
  have hA : ∀ q : Nat, s.heap.size ≤ q → A q := fun q h => by rw [← hAe]; exact Or.inr h
  have hS : va_S A s.heap s.heap [] := va_S.rf
  refine q_entry hargs (Nat.le_of_ble_eq_true rfl) (fun ls hl => ?_)
  have hl : lv_has ls 1 [(0, .ref q0)] := hl
  obtain ⟨H, locs, eH, eL⟩ : ∃ (H : Heap) (locs : List Loc), s.heap = H ∧ ([] : List Loc) = locs := ⟨_, _, rfl, rfl⟩
  have hS : va_S A s.heap H locs := by rw [← eH, ← eL]; exact hS
  have hP : va_P (dC, dI) qCl [(q0, .inr (5, [.null, .int (nI (0)), .null, .int (nI (0)), .int (bI (false)), .int (bI (false)), .null, .int (bI (false))]))] H := by rw [← eH]; exact hP
  refine W_at eH eL ?_
  refine lv_aload_n hx hb dX5_init_0 rfl (lv_at hl 0 rfl) ?_
  refine W.objInit hx hb hown (hts _ kmX5_3) (hts _ k_oi_m) (hts _ k_oi_c) rfl (by rw [hml]; exact hl.1) rfl dX5_init_1 (Nat.le_of_ble_eq_true rfl) (Nat.le_of_ble_eq_true rfl) ?_
  refine W.eq (g2 := F0 m 4 ls []) rfl ?_
  refine lv_aload_n hx hb dX5_init_4 rfl (lv_at hl 0 rfl) ?_
  refine va_new (ci := 3) (fs := [.null, .null, .int (nI (0)), .int (bI (false))]) (C := RX3) (T := TX3) (N := 4) hx hb hts uX3 tyX3 tyX3_ok hown (hts _ kclX5_9) (hts _ kinX3) (hts _ kiX3) hK hP hD hS hA rfl (fun j hj => by rcases (show j = 0 ∨ j = 1 ∨ j = 2 ∨ j = 3 by omega) with rfl | rfl | rfl | rfl <;> rfl) (Nat.le_of_ble_eq_true rfl) (Nat.le_of_ble_eq_true rfl) dX5_init_5 (fun q1 H hP hD hS => ?_)
  have hP : va_P (dC, dI) qCl [(q0, .inr (5, [.null, .int (nI (0)), .null, .int (nI (0)), .int (bI (false)), .int (bI (false)), .null, .int (bI (false))])), (q1, .inr (3, [.null, .null, .int (nI (0)), .int (bI (false))]))] H := hP
  have hD : va_D A [(q0, .inr (5, [.null, .int (nI (0)), .null, .int (nI (0)), .int (bI (false)), .int (bI (false)), .null, .int (bI (false))])), (q1, .inr (3, [.null, .null, .int (nI (0)), .int (bI (false))]))] := hD
  refine lv_dup hx hb dX5_init_8 rfl ?_
  refine q_joinN (wr := [(q0, .inr (5, [.null, .int (nI (0)), .null, .int (nI (0)), .int (bI (false)), .int (bI (false)), .null, .int (bI (false))]))]) (va_runIN (As := []) (rest := [.ref q1, .ref q0]) ⟨hx, hb, hml, hown, hts⟩ (c_Form_init l dC dI cI cL cQ cZ q1 H.size) ⟨va_cnB 0 hts gkX3_init rfl rfl rfl hNs.2.2.2.1 (hts _ kiX3) (by decide +kernel) ⟨Nat.le_of_ble_eq_true rfl, Nat.le_of_ble_eq_true rfl⟩, rfl, hts _ knX3_init⟩ (q_preN hK hP hD hNs [1] rfl (by decide)) rfl rfl hl.1 rfl (lv_room (Nat.le_of_ble_eq_true rfl)) dX5_init_9 ⟨Nat.le_of_ble_eq_true rfl, Nat.le_of_ble_eq_true rfl⟩) hP hD hS hA [1] [0] rfl rfl (by decide) (by decide) (fun u9 H locs hq4 hP hD hS => ?_)
  obtain ⟨a1_2, a2_3⟩ := u9
  have hP : va_P (dC, dI) qCl [(q0, .inr (5, [.null, .int (nI (0)), .null, .int (nI (0)), .int (bI (false)), .int (bI (false)), .null, .int (bI (false))])), (q1, .inr (3, [.ref a1_2, .ref a2_3, .int (nI (0)), .int (bI (false))])), (a1_2, .inl (cI, 4, .inl (nF (fun _ => 0)))), (a2_3, .inl (cI, 8, .inl (nF (fun _ => 0))))] H := hP
  have hD : va_D A [(q0, .inr (5, [.null, .int (nI (0)), .null, .int (nI (0)), .int (bI (false)), .int (bI (false)), .null, .int (bI (false))])), (q1, .inr (3, [.ref a1_2, .ref a2_3, .int (nI (0)), .int (bI (false))])), (a1_2, .inl (cI, 4, .inl (nF (fun _ => 0)))), (a2_3, .inl (cI, 8, .inl (nF (fun _ => 0))))] := hD
  refine va_putF (D := (dC, dI)) (ci := 5) (v := .ref q1) (ty := (.object "QlRewrite$Form")) (C := RX5) (T := TX5) (N := 8) hx hb hts uX5 tyX5 tyX5_ok nmX5 hown hK hP hD hS 0 rfl rfl 0 (by decide) (hts _ kfX5_12) (fun _ h9 => h9) rfl hin rfl (by decide +kernel) (rfl) (rfl) (Nat.le_of_ble_eq_true rfl) dX5_init_12 (fun H locs hP hD hS => ?_)
  have hP : va_P (dC, dI) qCl [(q0, .inr (5, [.ref q1, .int (nI (0)), .null, .int (nI (0)), .int (bI (false)), .int (bI (false)), .null, .int (bI (false))])), (q1, .inr (3, [.ref a1_2, .ref a2_3, .int (nI (0)), .int (bI (false))])), (a1_2, .inl (cI, 4, .inl (nF (fun _ => 0)))), (a2_3, .inl (cI, 8, .inl (nF (fun _ => 0))))] H := hP
  have hD : va_D A [(q0, .inr (5, [.ref q1, .int (nI (0)), .null, .int (nI (0)), .int (bI (false)), .int (bI (false)), .null, .int (bI (false))])), (q1, .inr (3, [.ref a1_2, .ref a2_3, .int (nI (0)), .int (bI (false))])), (a1_2, .inl (cI, 4, .inl (nF (fun _ => 0)))), (a2_3, .inl (cI, 8, .inl (nF (fun _ => 0))))] := hD
  refine lv_aload_n hx hb dX5_init_15 rfl (lv_at hl 0 rfl) ?_
  refine lv_iconst (v := (nI (0))) hx hb dX5_init_16 (by decide) ?_
  refine va_put (D := (dC, dI)) (ci := 5) (v := .int (nI (0))) (ty := .int) (C := RX5) (T := TX5) (N := 8) hx hb hts uX5 tyX5 tyX5_ok nmX5 hown hK hP hD hS 0 rfl rfl 1 (by decide) (hts _ kfX5_18) (fun _ h9 => h9) rfl (by decide +kernel) (rfl) (rfl) (Nat.le_of_ble_eq_true rfl) dX5_init_17 (fun H locs hP hD hS => ?_)
  have hP : va_P (dC, dI) qCl [(q0, .inr (5, [.ref q1, .int (nI (0)), .null, .int (nI (0)), .int (bI (false)), .int (bI (false)), .null, .int (bI (false))])), (q1, .inr (3, [.ref a1_2, .ref a2_3, .int (nI (0)), .int (bI (false))])), (a1_2, .inl (cI, 4, .inl (nF (fun _ => 0)))), (a2_3, .inl (cI, 8, .inl (nF (fun _ => 0))))] H := hP
  have hD : va_D A [(q0, .inr (5, [.ref q1, .int (nI (0)), .null, .int (nI (0)), .int (bI (false)), .int (bI (false)), .null, .int (bI (false))])), (q1, .inr (3, [.ref a1_2, .ref a2_3, .int (nI (0)), .int (bI (false))])), (a1_2, .inl (cI, 4, .inl (nF (fun _ => 0)))), (a2_3, .inl (cI, 8, .inl (nF (fun _ => 0))))] := hD
  refine lv_aload_n hx hb dX5_init_20 rfl (lv_at hl 0 rfl) ?_
  refine lv_bipush (v := (nI (90))) hx hb dX5_init_21 (by decide) ?_
  refine q_newl (n := 90) (f := lF (fun _ => 0)) hx hb (hts _ k_arr_long) hK hP hD hS hA 1 rfl (fun _ => rfl) (by decide) (Nat.le_of_ble_eq_true rfl) (Nat.le_of_ble_eq_true rfl) dX5_init_23 (fun q5 H hP hD hS => ?_)
  have hP : va_P (dC, dI) qCl [(q0, .inr (5, [.ref q1, .int (nI (0)), .null, .int (nI (0)), .int (bI (false)), .int (bI (false)), .null, .int (bI (false))])), (q1, .inr (3, [.ref a1_2, .ref a2_3, .int (nI (0)), .int (bI (false))])), (a1_2, .inl (cI, 4, .inl (nF (fun _ => 0)))), (a2_3, .inl (cI, 8, .inl (nF (fun _ => 0)))), (q5, .inl (cL, 90, .inr (.inl (lF (fun _ => 0)))))] H := hP
  have hD : va_D A [(q0, .inr (5, [.ref q1, .int (nI (0)), .null, .int (nI (0)), .int (bI (false)), .int (bI (false)), .null, .int (bI (false))])), (q1, .inr (3, [.ref a1_2, .ref a2_3, .int (nI (0)), .int (bI (false))])), (a1_2, .inl (cI, 4, .inl (nF (fun _ => 0)))), (a2_3, .inl (cI, 8, .inl (nF (fun _ => 0)))), (q5, .inl (cL, 90, .inr (.inl (lF (fun _ => 0)))))] := hD
  refine va_putF (D := (dC, dI)) (ci := 5) (v := .ref q5) (ty := (.array .long)) (C := RX5) (T := TX5) (N := 8) hx hb hts uX5 tyX5 tyX5_ok nmX5 hown hK hP hD hS 0 rfl rfl 2 (by decide) (hts _ kfX5_22) (fun _ h9 => h9) rfl hin rfl (by decide +kernel) (rfl) (rfl) (Nat.le_of_ble_eq_true rfl) dX5_init_25 (fun H locs hP hD hS => ?_)
  have hP : va_P (dC, dI) qCl [(q0, .inr (5, [.ref q1, .int (nI (0)), .ref q5, .int (nI (0)), .int (bI (false)), .int (bI (false)), .null, .int (bI (false))])), (q1, .inr (3, [.ref a1_2, .ref a2_3, .int (nI (0)), .int (bI (false))])), (a1_2, .inl (cI, 4, .inl (nF (fun _ => 0)))), (a2_3, .inl (cI, 8, .inl (nF (fun _ => 0)))), (q5, .inl (cL, 90, .inr (.inl (lF (fun _ => 0)))))] H := hP
  have hD : va_D A [(q0, .inr (5, [.ref q1, .int (nI (0)), .ref q5, .int (nI (0)), .int (bI (false)), .int (bI (false)), .null, .int (bI (false))])), (q1, .inr (3, [.ref a1_2, .ref a2_3, .int (nI (0)), .int (bI (false))])), (a1_2, .inl (cI, 4, .inl (nF (fun _ => 0)))), (a2_3, .inl (cI, 8, .inl (nF (fun _ => 0)))), (q5, .inl (cL, 90, .inr (.inl (lF (fun _ => 0)))))] := hD
  refine lv_aload_n hx hb dX5_init_28 rfl (lv_at hl 0 rfl) ?_
  refine lv_iconst (v := (nI (0))) hx hb dX5_init_29 (by decide) ?_
  refine va_put (D := (dC, dI)) (ci := 5) (v := .int (nI (0))) (ty := .int) (C := RX5) (T := TX5) (N := 8) hx hb hts uX5 tyX5 tyX5_ok nmX5 hown hK hP hD hS 0 rfl rfl 3 (by decide) (hts _ kfX5_26) (fun _ h9 => h9) rfl (by decide +kernel) (rfl) (rfl) (Nat.le_of_ble_eq_true rfl) dX5_init_30 (fun H locs hP hD hS => ?_)
  have hP : va_P (dC, dI) qCl [(q0, .inr (5, [.ref q1, .int (nI (0)), .ref q5, .int (nI (0)), .int (bI (false)), .int (bI (false)), .null, .int (bI (false))])), (q1, .inr (3, [.ref a1_2, .ref a2_3, .int (nI (0)), .int (bI (false))])), (a1_2, .inl (cI, 4, .inl (nF (fun _ => 0)))), (a2_3, .inl (cI, 8, .inl (nF (fun _ => 0)))), (q5, .inl (cL, 90, .inr (.inl (lF (fun _ => 0)))))] H := hP
  have hD : va_D A [(q0, .inr (5, [.ref q1, .int (nI (0)), .ref q5, .int (nI (0)), .int (bI (false)), .int (bI (false)), .null, .int (bI (false))])), (q1, .inr (3, [.ref a1_2, .ref a2_3, .int (nI (0)), .int (bI (false))])), (a1_2, .inl (cI, 4, .inl (nF (fun _ => 0)))), (a2_3, .inl (cI, 8, .inl (nF (fun _ => 0)))), (q5, .inl (cL, 90, .inr (.inl (lF (fun _ => 0)))))] := hD
  refine lv_aload_n hx hb dX5_init_33 rfl (lv_at hl 0 rfl) ?_
  refine lv_iconst (v := (nI (0))) hx hb dX5_init_34 (by decide) ?_
  refine va_put (D := (dC, dI)) (ci := 5) (v := .int (bI (false))) (ty := .boolean) (C := RX5) (T := TX5) (N := 8) hx hb hts uX5 tyX5 tyX5_ok nmX5 hown hK hP hD hS 0 rfl rfl 4 (by decide) (hts _ kfX5_29) (fun _ h9 => h9) rfl (by decide +kernel) (bI_nar _) (rfl) (Nat.le_of_ble_eq_true rfl) dX5_init_35 (fun H locs hP hD hS => ?_)
  have hP : va_P (dC, dI) qCl [(q0, .inr (5, [.ref q1, .int (nI (0)), .ref q5, .int (nI (0)), .int (bI (false)), .int (bI (false)), .null, .int (bI (false))])), (q1, .inr (3, [.ref a1_2, .ref a2_3, .int (nI (0)), .int (bI (false))])), (a1_2, .inl (cI, 4, .inl (nF (fun _ => 0)))), (a2_3, .inl (cI, 8, .inl (nF (fun _ => 0)))), (q5, .inl (cL, 90, .inr (.inl (lF (fun _ => 0)))))] H := hP
  have hD : va_D A [(q0, .inr (5, [.ref q1, .int (nI (0)), .ref q5, .int (nI (0)), .int (bI (false)), .int (bI (false)), .null, .int (bI (false))])), (q1, .inr (3, [.ref a1_2, .ref a2_3, .int (nI (0)), .int (bI (false))])), (a1_2, .inl (cI, 4, .inl (nF (fun _ => 0)))), (a2_3, .inl (cI, 8, .inl (nF (fun _ => 0)))), (q5, .inl (cL, 90, .inr (.inl (lF (fun _ => 0)))))] := hD
  refine lv_aload_n hx hb dX5_init_38 rfl (lv_at hl 0 rfl) ?_
  refine lv_iconst (v := (nI (0))) hx hb dX5_init_39 (by decide) ?_
  refine va_put (D := (dC, dI)) (ci := 5) (v := .int (bI (false))) (ty := .boolean) (C := RX5) (T := TX5) (N := 8) hx hb hts uX5 tyX5 tyX5_ok nmX5 hown hK hP hD hS 0 rfl rfl 5 (by decide) (hts _ kfX5_33) (fun _ h9 => h9) rfl (by decide +kernel) (bI_nar _) (rfl) (Nat.le_of_ble_eq_true rfl) dX5_init_40 (fun H locs hP hD hS => ?_)
  have hP : va_P (dC, dI) qCl [(q0, .inr (5, [.ref q1, .int (nI (0)), .ref q5, .int (nI (0)), .int (bI (false)), .int (bI (false)), .null, .int (bI (false))])), (q1, .inr (3, [.ref a1_2, .ref a2_3, .int (nI (0)), .int (bI (false))])), (a1_2, .inl (cI, 4, .inl (nF (fun _ => 0)))), (a2_3, .inl (cI, 8, .inl (nF (fun _ => 0)))), (q5, .inl (cL, 90, .inr (.inl (lF (fun _ => 0)))))] H := hP
  have hD : va_D A [(q0, .inr (5, [.ref q1, .int (nI (0)), .ref q5, .int (nI (0)), .int (bI (false)), .int (bI (false)), .null, .int (bI (false))])), (q1, .inr (3, [.ref a1_2, .ref a2_3, .int (nI (0)), .int (bI (false))])), (a1_2, .inl (cI, 4, .inl (nF (fun _ => 0)))), (a2_3, .inl (cI, 8, .inl (nF (fun _ => 0)))), (q5, .inl (cL, 90, .inr (.inl (lF (fun _ => 0)))))] := hD
  refine lv_aload_n hx hb dX5_init_43 rfl (lv_at hl 0 rfl) ?_
  refine lv_sipush (v := (nI (192))) hx hb dX5_init_44 (by decide) ?_
  refine q_newi (n := 192) (f := oF (fun _ => some 0)) hx hb (hts _ k_arr_int) hK hP hD hS hA 0 rfl (fun _ => rfl) (by decide) (Nat.le_of_ble_eq_true rfl) (Nat.le_of_ble_eq_true rfl) dX5_init_47 (fun q6 H hP hD hS => ?_)
  have hP : va_P (dC, dI) qCl [(q0, .inr (5, [.ref q1, .int (nI (0)), .ref q5, .int (nI (0)), .int (bI (false)), .int (bI (false)), .null, .int (bI (false))])), (q1, .inr (3, [.ref a1_2, .ref a2_3, .int (nI (0)), .int (bI (false))])), (a1_2, .inl (cI, 4, .inl (nF (fun _ => 0)))), (a2_3, .inl (cI, 8, .inl (nF (fun _ => 0)))), (q5, .inl (cL, 90, .inr (.inl (lF (fun _ => 0))))), (q6, .inl (cI, 192, .inl (oF (fun _ => some 0))))] H := hP
  have hD : va_D A [(q0, .inr (5, [.ref q1, .int (nI (0)), .ref q5, .int (nI (0)), .int (bI (false)), .int (bI (false)), .null, .int (bI (false))])), (q1, .inr (3, [.ref a1_2, .ref a2_3, .int (nI (0)), .int (bI (false))])), (a1_2, .inl (cI, 4, .inl (nF (fun _ => 0)))), (a2_3, .inl (cI, 8, .inl (nF (fun _ => 0)))), (q5, .inl (cL, 90, .inr (.inl (lF (fun _ => 0))))), (q6, .inl (cI, 192, .inl (oF (fun _ => some 0))))] := hD
  refine va_putF (D := (dC, dI)) (ci := 5) (v := .ref q6) (ty := (.array .int)) (C := RX5) (T := TX5) (N := 8) hx hb hts uX5 tyX5 tyX5_ok nmX5 hown hK hP hD hS 0 rfl rfl 6 (by decide) (hts _ kfX5_36) (fun _ h9 => h9) rfl hin rfl (by decide +kernel) (rfl) (rfl) (Nat.le_of_ble_eq_true rfl) dX5_init_49 (fun H locs hP hD hS => ?_)
  have hP : va_P (dC, dI) qCl [(q0, .inr (5, [.ref q1, .int (nI (0)), .ref q5, .int (nI (0)), .int (bI (false)), .int (bI (false)), .ref q6, .int (bI (false))])), (q1, .inr (3, [.ref a1_2, .ref a2_3, .int (nI (0)), .int (bI (false))])), (a1_2, .inl (cI, 4, .inl (nF (fun _ => 0)))), (a2_3, .inl (cI, 8, .inl (nF (fun _ => 0)))), (q5, .inl (cL, 90, .inr (.inl (lF (fun _ => 0))))), (q6, .inl (cI, 192, .inl (oF (fun _ => some 0))))] H := hP
  have hD : va_D A [(q0, .inr (5, [.ref q1, .int (nI (0)), .ref q5, .int (nI (0)), .int (bI (false)), .int (bI (false)), .ref q6, .int (bI (false))])), (q1, .inr (3, [.ref a1_2, .ref a2_3, .int (nI (0)), .int (bI (false))])), (a1_2, .inl (cI, 4, .inl (nF (fun _ => 0)))), (a2_3, .inl (cI, 8, .inl (nF (fun _ => 0)))), (q5, .inl (cL, 90, .inr (.inl (lF (fun _ => 0))))), (q6, .inl (cI, 192, .inl (oF (fun _ => some 0))))] := hD
  refine lv_aload_n hx hb dX5_init_52 rfl (lv_at hl 0 rfl) ?_
  refine lv_iconst (v := (nI (0))) hx hb dX5_init_53 (by decide) ?_
  refine va_put (D := (dC, dI)) (ci := 5) (v := .int (bI (false))) (ty := .boolean) (C := RX5) (T := TX5) (N := 8) hx hb hts uX5 tyX5 tyX5_ok nmX5 hown hK hP hD hS 0 rfl rfl 7 (by decide) (hts _ kfX5_40) (fun _ h9 => h9) rfl (by decide +kernel) (bI_nar _) (rfl) (Nat.le_of_ble_eq_true rfl) dX5_init_54 (fun H locs hP hD hS => ?_)
  have hP : va_P (dC, dI) qCl [(q0, .inr (5, [.ref q1, .int (nI (0)), .ref q5, .int (nI (0)), .int (bI (false)), .int (bI (false)), .ref q6, .int (bI (false))])), (q1, .inr (3, [.ref a1_2, .ref a2_3, .int (nI (0)), .int (bI (false))])), (a1_2, .inl (cI, 4, .inl (nF (fun _ => 0)))), (a2_3, .inl (cI, 8, .inl (nF (fun _ => 0)))), (q5, .inl (cL, 90, .inr (.inl (lF (fun _ => 0))))), (q6, .inl (cI, 192, .inl (oF (fun _ => some 0))))] H := hP
  have hD : va_D A [(q0, .inr (5, [.ref q1, .int (nI (0)), .ref q5, .int (nI (0)), .int (bI (false)), .int (bI (false)), .ref q6, .int (bI (false))])), (q1, .inr (3, [.ref a1_2, .ref a2_3, .int (nI (0)), .int (bI (false))])), (a1_2, .inl (cI, 4, .inl (nF (fun _ => 0)))), (a2_3, .inl (cI, 8, .inl (nF (fun _ => 0)))), (q5, .inl (cL, 90, .inr (.inl (lF (fun _ => 0))))), (q6, .inl (cI, 192, .inl (oF (fun _ => some 0))))] := hD
  subst hQ
  subst hAe
  have hP9 := hP.sub (ws' := [(q0, .inr (5, [.ref q1, .int (nI (0)), .ref q5, .int (nI (0)), .int (bI (false)), .int (bI (false)), .ref q6, .int (bI (false))])), (q1, .inr (3, [.ref a1_2, .ref a2_3, .int (nI (0)), .int (bI (false))])), (a1_2, .inl (cI, 4, .inl (nF (fun _ => 0)))), (a2_3, .inl (cI, 8, .inl (nF (fun _ => 0)))), (q5, .inl (cL, 90, .inr (.inl (lF (fun _ => 0))))), (q6, .inl (cI, 192, .inl (oF (fun _ => some 0))))]) [0, 1, 2, 3, 4, 5] rfl
  have hD9 := hD.sub (ws' := [(q0, .inr (5, [.ref q1, .int (nI (0)), .ref q5, .int (nI (0)), .int (bI (false)), .int (bI (false)), .ref q6, .int (bI (false))])), (q1, .inr (3, [.ref a1_2, .ref a2_3, .int (nI (0)), .int (bI (false))])), (a1_2, .inl (cI, 4, .inl (nF (fun _ => 0)))), (a2_3, .inl (cI, 8, .inl (nF (fun _ => 0)))), (q5, .inl (cL, 90, .inr (.inl (lF (fun _ => 0))))), (q6, .inl (cI, 192, .inl (oF (fun _ => some 0))))]) [0, 1, 2, 3, 4, 5] (by decide) rfl
  refine W.widen (k := 5) (n := 298) (by decide) (by decide) ?_
  exact W.vret hx hb hr (fun t9 h9 _ => ⟨⟨(q1, a1_2, a2_3, q5, q6), rfl, trivial, by show va_P _ _ _ t9.heap ∧ _; rw [h9]; exact ⟨hP9, hD9⟩⟩, hS.F h9⟩) hS.2.2 dX5_init_57
