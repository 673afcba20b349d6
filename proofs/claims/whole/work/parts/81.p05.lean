abbrev cX6_init : ByteArray := prog_8_method_1_code
def yX6_init : MethodName := ⟨RX6, "<init>", "(LQlRewrite$Axioms;)V"⟩
def wkX6_init : List Cond := .code yX6_init cX6_init 2 none :: qW
set_option maxRecDepth 40000 in
theorem gkX6_init : GoodIn qW wkX6_init := q_good (qw 206 rfl rfl)
set_option maxRecDepth 40000 in
theorem knX6_init : Cond.instanceMethod yX6_init ∈ qW := qw 205 rfl rfl
theorem dX6_init_0 : decode cX6_init 0 = .ok (.aload_n 0, 1) := by decide +kernel
theorem dX6_init_1 : decode cX6_init 1 = .ok (.invokespecial 3, 3) := by decide +kernel
theorem dX6_init_4 : decode cX6_init 4 = .ok (.aload_n 0, 1) := by decide +kernel
theorem dX6_init_5 : decode cX6_init 5 = .ok (.new 9, 3) := by decide +kernel
theorem dX6_init_8 : decode cX6_init 8 = .ok (.dup, 1) := by decide +kernel
theorem dX6_init_9 : decode cX6_init 9 = .ok (.invokespecial 11, 3) := by decide +kernel
theorem dX6_init_12 : decode cX6_init 12 = .ok (.putfield 12, 3) := by decide +kernel
theorem dX6_init_15 : decode cX6_init 15 = .ok (.aload_n 0, 1) := by decide +kernel
theorem dX6_init_16 : decode cX6_init 16 = .ok (.new 18, 3) := by decide +kernel
theorem dX6_init_19 : decode cX6_init 19 = .ok (.dup, 1) := by decide +kernel
theorem dX6_init_20 : decode cX6_init 20 = .ok (.invokespecial 20, 3) := by decide +kernel
theorem dX6_init_23 : decode cX6_init 23 = .ok (.putfield 21, 3) := by decide +kernel
theorem dX6_init_26 : decode cX6_init 26 = .ok (.aload_n 0, 1) := by decide +kernel
theorem dX6_init_27 : decode cX6_init 27 = .ok (.new 18, 3) := by decide +kernel
theorem dX6_init_30 : decode cX6_init 30 = .ok (.dup, 1) := by decide +kernel
theorem dX6_init_31 : decode cX6_init 31 = .ok (.invokespecial 20, 3) := by decide +kernel
theorem dX6_init_34 : decode cX6_init 34 = .ok (.putfield 25, 3) := by decide +kernel
theorem dX6_init_37 : decode cX6_init 37 = .ok (.aload_n 0, 1) := by decide +kernel
theorem dX6_init_38 : decode cX6_init 38 = .ok (.aload_n 1, 1) := by decide +kernel
theorem dX6_init_39 : decode cX6_init 39 = .ok (.putfield 28, 3) := by decide +kernel
theorem dX6_init_42 : decode cX6_init 42 = .ok (.return_, 1) := by decide +kernel
set_option maxRecDepth 40000 in
theorem kmX6_3 : Cond.methodLink RX6 3 objectInit ∈ qW := qw 207 rfl rfl
set_option maxRecDepth 40000 in
theorem kclX6_9 : Cond.classLink RX6 9 RX4 ∈ qW := qw 208 rfl rfl
set_option maxRecDepth 40000 in
theorem kinX4 : Cond.instantiable RX4 3 ∈ qW := qw 209 rfl rfl
set_option maxRecDepth 40000 in
theorem kmX6_11 : Cond.methodLink RX6 11 yX4_init ∈ qW := qw 210 rfl rfl
set_option maxRecDepth 40000 in
theorem kclX6_18 : Cond.classLink RX6 18 RX3 ∈ qW := qw 224 rfl rfl
abbrev rm_c_Rewriter_init : Room := { frames := 2, cells := 10, slots := 59, locals := 61 }
set_option maxHeartbeats 4000000 in
set_option maxRecDepth 100000 in
theorem c_Rewriter_init (l : Launch) (dC : Nat → ClassId) (dI : Nat → Nat → Nat) (cI cL cQ cZ : ClassId) (w0 : Nat) (ax0 : Nat)  (sz0 : Nat) : Met l yX6_init wkX6_init rm_c_Rewriter_init (q_N (dC, dI) qCl (qT cI cL cQ cZ) [(w0, .inr (6, [.null, .null, .null, .null]))] [.ref w0, .ref ax0] sz0) (va_Qv (fun (u : Nat × Nat × Nat × Nat × Nat × Nat × Nat × Nat × Nat × Nat × (Nat → Nat)) => (c_nmk u.2.2.2.2.2.2.2.2.2.2 (fun _ => 0) (fun _ => 0))) (fun (u : Nat × Nat × Nat × Nat × Nat × Nat × Nat × Nat × Nat × Nat × (Nat → Nat)) t => va_P (dC, dI) qCl [(w0, .inr (6, [.ref ax0, .ref u.1, .ref u.2.2.2.2.1, .ref u.2.2.2.2.2.2.2.1])), (u.1, .inr (4, [.ref u.2.1, .ref u.2.2.1, .ref u.2.2.2.1])), (u.2.1, .inl (cI, 16, .inl (nF u.2.2.2.2.2.2.2.2.2.2))), (u.2.2.1, .inl (cI, 4, .inl (nF (fun _ => 0)))), (u.2.2.2.1, .inl (cI, 4, .inl (nF (fun _ => 0)))), (u.2.2.2.2.1, .inr (3, [.ref u.2.2.2.2.2.1, .ref u.2.2.2.2.2.2.1, .int (nI (0)), .int (bI (false))])), (u.2.2.2.2.2.1, .inl (cI, 4, .inl (nF (fun _ => 0)))), (u.2.2.2.2.2.2.1, .inl (cI, 8, .inl (nF (fun _ => 0)))), (u.2.2.2.2.2.2.2.1, .inr (3, [.ref u.2.2.2.2.2.2.2.2.1, .ref u.2.2.2.2.2.2.2.2.2.1, .int (nI (0)), .int (bI (false))])), (u.2.2.2.2.2.2.2.2.1, .inl (cI, 4, .inl (nF (fun _ => 0)))), (u.2.2.2.2.2.2.2.2.2.1, .inl (cI, 8, .inl (nF (fun _ => 0))))] t.heap ∧ va_D (va_A [(w0, .inr (6, [.null, .null, .null, .null]))] sz0) [(w0, .inr (6, [.ref ax0, .ref u.1, .ref u.2.2.2.2.1, .ref u.2.2.2.2.2.2.2.1])), (u.1, .inr (4, [.ref u.2.1, .ref u.2.2.1, .ref u.2.2.2.1])), (u.2.1, .inl (cI, 16, .inl (nF u.2.2.2.2.2.2.2.2.2.2))), (u.2.2.1, .inl (cI, 4, .inl (nF (fun _ => 0)))), (u.2.2.2.1, .inl (cI, 4, .inl (nF (fun _ => 0)))), (u.2.2.2.2.1, .inr (3, [.ref u.2.2.2.2.2.1, .ref u.2.2.2.2.2.2.1, .int (nI (0)), .int (bI (false))])), (u.2.2.2.2.2.1, .inl (cI, 4, .inl (nF (fun _ => 0)))), (u.2.2.2.2.2.2.1, .inl (cI, 8, .inl (nF (fun _ => 0)))), (u.2.2.2.2.2.2.2.1, .inr (3, [.ref u.2.2.2.2.2.2.2.2.1, .ref u.2.2.2.2.2.2.2.2.2.1, .int (nI (0)), .int (bI (false))])), (u.2.2.2.2.2.2.2.2.1, .inl (cI, 4, .inl (nF (fun _ => 0)))), (u.2.2.2.2.2.2.2.2.2.1, .inl (cI, 8, .inl (nF (fun _ => 0))))]) (va_A [(w0, .inr (6, [.null, .null, .null, .null]))] sz0)) 10 59 (va_A [(w0, .inr (6, [.null, .null, .null, .null]))] sz0) := by
  refine Met.ofW (cc := cX6_init) (maxL := 2) (ret := none) (by decide) rfl ?_
  intro p e s m args below meth c s₁ B hml hv
  obtain ⟨hargs, hsz, hP, hK, hD0, hNs⟩ := hv
  have hx := B.exec
  have hb := B.bytes
  have hr := B.returns
  have hts : ∀ w ∈ qW, w.before args s = true := fun w h => atoms_spec (ws := wkX6_init) B.pre w (List.mem_cons_of_mem _ h)
  have hown : s.vm.findClass RX6 = some m.cls := findClass_of_methodNamed B.named
  have hlocks := B.notSynchronized
  have hin : meth.name = "<init>" := (name_of_methodNamed B.named B.method).1
  subst hsz
  refine q_named (fun Q hQ => ?_)
  have hD := hD0.self (sz := s.heap.size)
  generalize hAe : va_A [(w0, .inr (6, [.null, .null, .null, .null]))] s.heap.size = A at hD
  have hA : ∀ q : Nat, s.heap.size ≤ q → A q := fun q h => by rw [← hAe]; exact Or.inr h
  have hS : va_S A s.heap s.heap [] := va_S.rf
  refine q_entry hargs (Nat.le_of_ble_eq_true rfl) (fun ls hl => ?_)
  have hl : lv_has ls 2 [(0, .ref w0), (1, .ref ax0)] := hl
  obtain ⟨H, locs, eH, eL⟩ : ∃ (H : Heap) (locs : List Loc), s.heap = H ∧ ([] : List Loc) = locs := ⟨_, _, rfl, rfl⟩
  have hS : va_S A s.heap H locs := by rw [← eH, ← eL]; exact hS
  have hP : va_P (dC, dI) qCl [(w0, .inr (6, [.null, .null, .null, .null]))] H := by rw [← eH]; exact hP
  refine W_at eH eL ?_
  refine lv_aload_n hx hb dX6_init_0 rfl (lv_at hl 0 rfl) ?_
  refine W.objInit hx hb hown (hts _ kmX6_3) (hts _ k_oi_m) (hts _ k_oi_c) rfl (by rw [hml]; exact hl.1) rfl dX6_init_1 (Nat.le_of_ble_eq_true rfl) (Nat.le_of_ble_eq_true rfl) ?_
  refine W.eq (g2 := F0 m 4 ls []) rfl ?_
  refine lv_aload_n hx hb dX6_init_4 rfl (lv_at hl 0 rfl) ?_
  refine va_new (ci := 4) (fs := [.null, .null, .null]) (C := RX4) (T := TX4) (N := 3) hx hb hts uX4 tyX4 tyX4_ok hown (hts _ kclX6_9) (hts _ kinX4) (hts _ kiX4) hK hP hD hS hA rfl (fun j hj => by rcases (show j = 0 ∨ j = 1 ∨ j = 2 by omega) with rfl | rfl | rfl <;> rfl) (Nat.le_of_ble_eq_true rfl) (Nat.le_of_ble_eq_true rfl) dX6_init_5 (fun q1 H hP hD hS => ?_)
  have hP : va_P (dC, dI) qCl [(w0, .inr (6, [.null, .null, .null, .null])), (q1, .inr (4, [.null, .null, .null]))] H := hP
  have hD : va_D A [(w0, .inr (6, [.null, .null, .null, .null])), (q1, .inr (4, [.null, .null, .null]))] := hD
  refine lv_dup hx hb dX6_init_8 rfl ?_
  refine q_joinN (wr := [(w0, .inr (6, [.null, .null, .null, .null]))]) (va_runI (As := []) (rest := [.ref q1, .ref w0]) ⟨hx, hb, hml, hown, hts⟩ (c_Namer_init l dC dI cI cL cQ cZ q1 H.size) (cwI 0 hts gkX4_init rfl rfl rfl (hts _ kiX4) (hts _ kmX6_11) (hts _ knX4_init) rfl (by decide +kernel) ⟨Nat.le_of_ble_eq_true rfl, Nat.le_of_ble_eq_true rfl⟩) (q_preN hK hP hD hNs [1] rfl (by decide)) rfl rfl hl.1 rfl (lv_room (Nat.le_of_ble_eq_true rfl)) dX6_init_9 ⟨Nat.le_of_ble_eq_true rfl, Nat.le_of_ble_eq_true rfl⟩) hP hD hS hA [1] [0] rfl rfl (by decide) (by decide) (fun u9 H locs hq6 hP hD hS => ?_)
  obtain ⟨nd0_2, os0_3, cd0_4, nd1_5⟩ := u9
  have hq6 : (c_nmk nd1_5 (fun _ => 0) (fun _ => 0)) := hq6
  have hnk_7 := hq6
  have hP : va_P (dC, dI) qCl [(w0, .inr (6, [.null, .null, .null, .null])), (q1, .inr (4, [.ref nd0_2, .ref os0_3, .ref cd0_4])), (nd0_2, .inl (cI, 16, .inl (nF nd1_5))), (os0_3, .inl (cI, 4, .inl (nF (fun _ => 0)))), (cd0_4, .inl (cI, 4, .inl (nF (fun _ => 0))))] H := hP
  have hD : va_D A [(w0, .inr (6, [.null, .null, .null, .null])), (q1, .inr (4, [.ref nd0_2, .ref os0_3, .ref cd0_4])), (nd0_2, .inl (cI, 16, .inl (nF nd1_5))), (os0_3, .inl (cI, 4, .inl (nF (fun _ => 0)))), (cd0_4, .inl (cI, 4, .inl (nF (fun _ => 0))))] := hD
  refine va_putF (D := (dC, dI)) (ci := 6) (v := .ref q1) (ty := (.object "QlRewrite$Namer")) (C := RX6) (T := TX6) (N := 4) hx hb hts uX6 tyX6 tyX6_ok nmX6 hown hK hP hD hS 0 rfl rfl 1 (by decide) (hts _ kfX6_12) (fun _ h9 => h9) rfl hin rfl (by decide +kernel) (rfl) (rfl) (Nat.le_of_ble_eq_true rfl) dX6_init_12 (fun H locs hP hD hS => ?_)
  have hP : va_P (dC, dI) qCl [(w0, .inr (6, [.null, .ref q1, .null, .null])), (q1, .inr (4, [.ref nd0_2, .ref os0_3, .ref cd0_4])), (nd0_2, .inl (cI, 16, .inl (nF nd1_5))), (os0_3, .inl (cI, 4, .inl (nF (fun _ => 0)))), (cd0_4, .inl (cI, 4, .inl (nF (fun _ => 0))))] H := hP
  have hD : va_D A [(w0, .inr (6, [.null, .ref q1, .null, .null])), (q1, .inr (4, [.ref nd0_2, .ref os0_3, .ref cd0_4])), (nd0_2, .inl (cI, 16, .inl (nF nd1_5))), (os0_3, .inl (cI, 4, .inl (nF (fun _ => 0)))), (cd0_4, .inl (cI, 4, .inl (nF (fun _ => 0))))] := hD
  refine lv_aload_n hx hb dX6_init_15 rfl (lv_at hl 0 rfl) ?_
  refine va_new (ci := 3) (fs := [.null, .null, .int (nI (0)), .int (bI (false))]) (C := RX3) (T := TX3) (N := 4) hx hb hts uX3 tyX3 tyX3_ok hown (hts _ kclX6_18) (hts _ kinX3) (hts _ kiX3) hK hP hD hS hA rfl (fun j hj => by rcases (show j = 0 ∨ j = 1 ∨ j = 2 ∨ j = 3 by omega) with rfl | rfl | rfl | rfl <;> rfl) (Nat.le_of_ble_eq_true rfl) (Nat.le_of_ble_eq_true rfl) dX6_init_16 (fun q8 H hP hD hS => ?_)
  have hP : va_P (dC, dI) qCl [(w0, .inr (6, [.null, .ref q1, .null, .null])), (q1, .inr (4, [.ref nd0_2, .ref os0_3, .ref cd0_4])), (nd0_2, .inl (cI, 16, .inl (nF nd1_5))), (os0_3, .inl (cI, 4, .inl (nF (fun _ => 0)))), (cd0_4, .inl (cI, 4, .inl (nF (fun _ => 0)))), (q8, .inr (3, [.null, .null, .int (nI (0)), .int (bI (false))]))] H := hP
  have hD : va_D A [(w0, .inr (6, [.null, .ref q1, .null, .null])), (q1, .inr (4, [.ref nd0_2, .ref os0_3, .ref cd0_4])), (nd0_2, .inl (cI, 16, .inl (nF nd1_5))), (os0_3, .inl (cI, 4, .inl (nF (fun _ => 0)))), (cd0_4, .inl (cI, 4, .inl (nF (fun _ => 0)))), (q8, .inr (3, [.null, .null, .int (nI (0)), .int (bI (false))]))] := hD
  refine lv_dup hx hb dX6_init_19 rfl ?_
  refine q_joinN (wr := [(w0, .inr (6, [.null, .ref q1, .null, .null])), (q1, .inr (4, [.ref nd0_2, .ref os0_3, .ref cd0_4])), (nd0_2, .inl (cI, 16, .inl (nF nd1_5))), (os0_3, .inl (cI, 4, .inl (nF (fun _ => 0)))), (cd0_4, .inl (cI, 4, .inl (nF (fun _ => 0))))]) (va_runIN (As := []) (rest := [.ref q8, .ref w0]) ⟨hx, hb, hml, hown, hts⟩ (c_Form_init l dC dI cI cL cQ cZ q8 H.size) ⟨va_cnB 0 hts gkX3_init rfl rfl rfl hNs.2.2.2.2.1 (hts _ kiX3) (by decide +kernel) ⟨Nat.le_of_ble_eq_true rfl, Nat.le_of_ble_eq_true rfl⟩, rfl, hts _ knX3_init⟩ (q_preN hK hP hD hNs [5] rfl (by decide)) rfl rfl hl.1 rfl (lv_room (Nat.le_of_ble_eq_true rfl)) dX6_init_20 ⟨Nat.le_of_ble_eq_true rfl, Nat.le_of_ble_eq_true rfl⟩) hP hD hS hA [5] [0, 1, 2, 3, 4] rfl rfl (by decide) (by decide) (fun u9 H locs hq11 hP hD hS => ?_)
  obtain ⟨a1_9, a2_10⟩ := u9
  have hP : va_P (dC, dI) qCl [(w0, .inr (6, [.null, .ref q1, .null, .null])), (q1, .inr (4, [.ref nd0_2, .ref os0_3, .ref cd0_4])), (nd0_2, .inl (cI, 16, .inl (nF nd1_5))), (os0_3, .inl (cI, 4, .inl (nF (fun _ => 0)))), (cd0_4, .inl (cI, 4, .inl (nF (fun _ => 0)))), (q8, .inr (3, [.ref a1_9, .ref a2_10, .int (nI (0)), .int (bI (false))])), (a1_9, .inl (cI, 4, .inl (nF (fun _ => 0)))), (a2_10, .inl (cI, 8, .inl (nF (fun _ => 0))))] H := hP
  have hD : va_D A [(w0, .inr (6, [.null, .ref q1, .null, .null])), (q1, .inr (4, [.ref nd0_2, .ref os0_3, .ref cd0_4])), (nd0_2, .inl (cI, 16, .inl (nF nd1_5))), (os0_3, .inl (cI, 4, .inl (nF (fun _ => 0)))), (cd0_4, .inl (cI, 4, .inl (nF (fun _ => 0)))), (q8, .inr (3, [.ref a1_9, .ref a2_10, .int (nI (0)), .int (bI (false))])), (a1_9, .inl (cI, 4, .inl (nF (fun _ => 0)))), (a2_10, .inl (cI, 8, .inl (nF (fun _ => 0))))] := hD
  refine va_putF (D := (dC, dI)) (ci := 6) (v := .ref q8) (ty := (.object "QlRewrite$Form")) (C := RX6) (T := TX6) (N := 4) hx hb hts uX6 tyX6 tyX6_ok nmX6 hown hK hP hD hS 0 rfl rfl 2 (by decide) (hts _ kfX6_21) (fun _ h9 => h9) rfl hin rfl (by decide +kernel) (rfl) (rfl) (Nat.le_of_ble_eq_true rfl) dX6_init_23 (fun H locs hP hD hS => ?_)
  have hP : va_P (dC, dI) qCl [(w0, .inr (6, [.null, .ref q1, .ref q8, .null])), (q1, .inr (4, [.ref nd0_2, .ref os0_3, .ref cd0_4])), (nd0_2, .inl (cI, 16, .inl (nF nd1_5))), (os0_3, .inl (cI, 4, .inl (nF (fun _ => 0)))), (cd0_4, .inl (cI, 4, .inl (nF (fun _ => 0)))), (q8, .inr (3, [.ref a1_9, .ref a2_10, .int (nI (0)), .int (bI (false))])), (a1_9, .inl (cI, 4, .inl (nF (fun _ => 0)))), (a2_10, .inl (cI, 8, .inl (nF (fun _ => 0))))] H := hP
  have hD : va_D A [(w0, .inr (6, [.null, .ref q1, .ref q8, .null])), (q1, .inr (4, [.ref nd0_2, .ref os0_3, .ref cd0_4])), (nd0_2, .inl (cI, 16, .inl (nF nd1_5))), (os0_3, .inl (cI, 4, .inl (nF (fun _ => 0)))), (cd0_4, .inl (cI, 4, .inl (nF (fun _ => 0)))), (q8, .inr (3, [.ref a1_9, .ref a2_10, .int (nI (0)), .int (bI (false))])), (a1_9, .inl (cI, 4, .inl (nF (fun _ => 0)))), (a2_10, .inl (cI, 8, .inl (nF (fun _ => 0))))] := hD
  refine lv_aload_n hx hb dX6_init_26 rfl (lv_at hl 0 rfl) ?_
  refine va_new (ci := 3) (fs := [.null, .null, .int (nI (0)), .int (bI (false))]) (C := RX3) (T := TX3) (N := 4) hx hb hts uX3 tyX3 tyX3_ok hown (hts _ kclX6_18) (hts _ kinX3) (hts _ kiX3) hK hP hD hS hA rfl (fun j hj => by rcases (show j = 0 ∨ j = 1 ∨ j = 2 ∨ j = 3 by omega) with rfl | rfl | rfl | rfl <;> rfl) (Nat.le_of_ble_eq_true rfl) (Nat.le_of_ble_eq_true rfl) dX6_init_27 (fun q12 H hP hD hS => ?_)
  have hP : va_P (dC, dI) qCl [(w0, .inr (6, [.null, .ref q1, .ref q8, .null])), (q1, .inr (4, [.ref nd0_2, .ref os0_3, .ref cd0_4])), (nd0_2, .inl (cI, 16, .inl (nF nd1_5))), (os0_3, .inl (cI, 4, .inl (nF (fun _ => 0)))), (cd0_4, .inl (cI, 4, .inl (nF (fun _ => 0)))), (q8, .inr (3, [.ref a1_9, .ref a2_10, .int (nI (0)), .int (bI (false))])), (a1_9, .inl (cI, 4, .inl (nF (fun _ => 0)))), (a2_10, .inl (cI, 8, .inl (nF (fun _ => 0)))), (q12, .inr (3, [.null, .null, .int (nI (0)), .int (bI (false))]))] H := hP
  have hD : va_D A [(w0, .inr (6, [.null, .ref q1, .ref q8, .null])), (q1, .inr (4, [.ref nd0_2, .ref os0_3, .ref cd0_4])), (nd0_2, .inl (cI, 16, .inl (nF nd1_5))), (os0_3, .inl (cI, 4, .inl (nF (fun _ => 0)))), (cd0_4, .inl (cI, 4, .inl (nF (fun _ => 0)))), (q8, .inr (3, [.ref a1_9, .ref a2_10, .int (nI (0)), .int (bI (false))])), (a1_9, .inl (cI, 4, .inl (nF (fun _ => 0)))), (a2_10, .inl (cI, 8, .inl (nF (fun _ => 0)))), (q12, .inr (3, [.null, .null, .int (nI (0)), .int (bI (false))]))] := hD
  refine lv_dup hx hb dX6_init_30 rfl ?_
  refine q_joinN (wr := [(w0, .inr (6, [.null, .ref q1, .ref q8, .null])), (q1, .inr (4, [.ref nd0_2, .ref os0_3, .ref cd0_4])), (nd0_2, .inl (cI, 16, .inl (nF nd1_5))), (os0_3, .inl (cI, 4, .inl (nF (fun _ => 0)))), (cd0_4, .inl (cI, 4, .inl (nF (fun _ => 0)))), (q8, .inr (3, [.ref a1_9, .ref a2_10, .int (nI (0)), .int (bI (false))])), (a1_9, .inl (cI, 4, .inl (nF (fun _ => 0)))), (a2_10, .inl (cI, 8, .inl (nF (fun _ => 0))))]) (va_runIN (As := []) (rest := [.ref q12, .ref w0]) ⟨hx, hb, hml, hown, hts⟩ (c_Form_init l dC dI cI cL cQ cZ q12 H.size) ⟨va_cnB 0 hts gkX3_init rfl rfl rfl hNs.2.2.2.2.1 (hts _ kiX3) (by decide +kernel) ⟨Nat.le_of_ble_eq_true rfl, Nat.le_of_ble_eq_true rfl⟩, rfl, hts _ knX3_init⟩ (q_preN hK hP hD hNs [8] rfl (by decide)) rfl rfl hl.1 rfl (lv_room (Nat.le_of_ble_eq_true rfl)) dX6_init_31 ⟨Nat.le_of_ble_eq_true rfl, Nat.le_of_ble_eq_true rfl⟩) hP hD hS hA [8] [0, 1, 2, 3, 4, 5, 6, 7] rfl rfl (by decide) (by decide) (fun u9 H locs hq15 hP hD hS => ?_)
  obtain ⟨a1_13, a2_14⟩ := u9
  have hP : va_P (dC, dI) qCl [(w0, .inr (6, [.null, .ref q1, .ref q8, .null])), (q1, .inr (4, [.ref nd0_2, .ref os0_3, .ref cd0_4])), (nd0_2, .inl (cI, 16, .inl (nF nd1_5))), (os0_3, .inl (cI, 4, .inl (nF (fun _ => 0)))), (cd0_4, .inl (cI, 4, .inl (nF (fun _ => 0)))), (q8, .inr (3, [.ref a1_9, .ref a2_10, .int (nI (0)), .int (bI (false))])), (a1_9, .inl (cI, 4, .inl (nF (fun _ => 0)))), (a2_10, .inl (cI, 8, .inl (nF (fun _ => 0)))), (q12, .inr (3, [.ref a1_13, .ref a2_14, .int (nI (0)), .int (bI (false))])), (a1_13, .inl (cI, 4, .inl (nF (fun _ => 0)))), (a2_14, .inl (cI, 8, .inl (nF (fun _ => 0))))] H := hP
  have hD : va_D A [(w0, .inr (6, [.null, .ref q1, .ref q8, .null])), (q1, .inr (4, [.ref nd0_2, .ref os0_3, .ref cd0_4])), (nd0_2, .inl (cI, 16, .inl (nF nd1_5))), (os0_3, .inl (cI, 4, .inl (nF (fun _ => 0)))), (cd0_4, .inl (cI, 4, .inl (nF (fun _ => 0)))), (q8, .inr (3, [.ref a1_9, .ref a2_10, .int (nI (0)), .int (bI (false))])), (a1_9, .inl (cI, 4, .inl (nF (fun _ => 0)))), (a2_10, .inl (cI, 8, .inl (nF (fun _ => 0)))), (q12, .inr (3, [.ref a1_13, .ref a2_14, .int (nI (0)), .int (bI (false))])), (a1_13, .inl (cI, 4, .inl (nF (fun _ => 0)))), (a2_14, .inl (cI, 8, .inl (nF (fun _ => 0))))] := hD
  refine va_putF (D := (dC, dI)) (ci := 6) (v := .ref q12) (ty := (.object "QlRewrite$Form")) (C := RX6) (T := TX6) (N := 4) hx hb hts uX6 tyX6 tyX6_ok nmX6 hown hK hP hD hS 0 rfl rfl 3 (by decide) (hts _ kfX6_25) (fun _ h9 => h9) rfl hin rfl (by decide +kernel) (rfl) (rfl) (Nat.le_of_ble_eq_true rfl) dX6_init_34 (fun H locs hP hD hS => ?_)
  have hP : va_P (dC, dI) qCl [(w0, .inr (6, [.null, .ref q1, .ref q8, .ref q12])), (q1, .inr (4, [.ref nd0_2, .ref os0_3, .ref cd0_4])), (nd0_2, .inl (cI, 16, .inl (nF nd1_5))), (os0_3, .inl (cI, 4, .inl (nF (fun _ => 0)))), (cd0_4, .inl (cI, 4, .inl (nF (fun _ => 0)))), (q8, .inr (3, [.ref a1_9, .ref a2_10, .int (nI (0)), .int (bI (false))])), (a1_9, .inl (cI, 4, .inl (nF (fun _ => 0)))), (a2_10, .inl (cI, 8, .inl (nF (fun _ => 0)))), (q12, .inr (3, [.ref a1_13, .ref a2_14, .int (nI (0)), .int (bI (false))])), (a1_13, .inl (cI, 4, .inl (nF (fun _ => 0)))), (a2_14, .inl (cI, 8, .inl (nF (fun _ => 0))))] H := hP
  have hD : va_D A [(w0, .inr (6, [.null, .ref q1, .ref q8, .ref q12])), (q1, .inr (4, [.ref nd0_2, .ref os0_3, .ref cd0_4])), (nd0_2, .inl (cI, 16, .inl (nF nd1_5))), (os0_3, .inl (cI, 4, .inl (nF (fun _ => 0)))), (cd0_4, .inl (cI, 4, .inl (nF (fun _ => 0)))), (q8, .inr (3, [.ref a1_9, .ref a2_10, .int (nI (0)), .int (bI (false))])), (a1_9, .inl (cI, 4, .inl (nF (fun _ => 0)))), (a2_10, .inl (cI, 8, .inl (nF (fun _ => 0)))), (q12, .inr (3, [.ref a1_13, .ref a2_14, .int (nI (0)), .int (bI (false))])), (a1_13, .inl (cI, 4, .inl (nF (fun _ => 0)))), (a2_14, .inl (cI, 8, .inl (nF (fun _ => 0))))] := hD
  refine lv_aload_n hx hb dX6_init_37 rfl (lv_at hl 0 rfl) ?_
  refine lv_aload_n hx hb dX6_init_38 rfl (lv_at hl 1 rfl) ?_
  refine va_putF (D := (dC, dI)) (ci := 6) (v := .ref ax0) (ty := (.object "QlRewrite$Axioms")) (C := RX6) (T := TX6) (N := 4) hx hb hts uX6 tyX6 tyX6_ok nmX6 hown hK hP hD hS 0 rfl rfl 0 (by decide) (hts _ kfX6_28) (fun _ h9 => h9) rfl hin rfl (by decide +kernel) (rfl) (rfl) (Nat.le_of_ble_eq_true rfl) dX6_init_39 (fun H locs hP hD hS => ?_)
  have hP : va_P (dC, dI) qCl [(w0, .inr (6, [.ref ax0, .ref q1, .ref q8, .ref q12])), (q1, .inr (4, [.ref nd0_2, .ref os0_3, .ref cd0_4])), (nd0_2, .inl (cI, 16, .inl (nF nd1_5))), (os0_3, .inl (cI, 4, .inl (nF (fun _ => 0)))), (cd0_4, .inl (cI, 4, .inl (nF (fun _ => 0)))), (q8, .inr (3, [.ref a1_9, .ref a2_10, .int (nI (0)), .int (bI (false))])), (a1_9, .inl (cI, 4, .inl (nF (fun _ => 0)))), (a2_10, .inl (cI, 8, .inl (nF (fun _ => 0)))), (q12, .inr (3, [.ref a1_13, .ref a2_14, .int (nI (0)), .int (bI (false))])), (a1_13, .inl (cI, 4, .inl (nF (fun _ => 0)))), (a2_14, .inl (cI, 8, .inl (nF (fun _ => 0))))] H := hP
  have hD : va_D A [(w0, .inr (6, [.ref ax0, .ref q1, .ref q8, .ref q12])), (q1, .inr (4, [.ref nd0_2, .ref os0_3, .ref cd0_4])), (nd0_2, .inl (cI, 16, .inl (nF nd1_5))), (os0_3, .inl (cI, 4, .inl (nF (fun _ => 0)))), (cd0_4, .inl (cI, 4, .inl (nF (fun _ => 0)))), (q8, .inr (3, [.ref a1_9, .ref a2_10, .int (nI (0)), .int (bI (false))])), (a1_9, .inl (cI, 4, .inl (nF (fun _ => 0)))), (a2_10, .inl (cI, 8, .inl (nF (fun _ => 0)))), (q12, .inr (3, [.ref a1_13, .ref a2_14, .int (nI (0)), .int (bI (false))])), (a1_13, .inl (cI, 4, .inl (nF (fun _ => 0)))), (a2_14, .inl (cI, 8, .inl (nF (fun _ => 0))))] := hD
  subst hQ
  subst hAe
  have hP9 := hP.sub (ws' := [(w0, .inr (6, [.ref ax0, .ref q1, .ref q8, .ref q12])), (q1, .inr (4, [.ref nd0_2, .ref os0_3, .ref cd0_4])), (nd0_2, .inl (cI, 16, .inl (nF nd1_5))), (os0_3, .inl (cI, 4, .inl (nF (fun _ => 0)))), (cd0_4, .inl (cI, 4, .inl (nF (fun _ => 0)))), (q8, .inr (3, [.ref a1_9, .ref a2_10, .int (nI (0)), .int (bI (false))])), (a1_9, .inl (cI, 4, .inl (nF (fun _ => 0)))), (a2_10, .inl (cI, 8, .inl (nF (fun _ => 0)))), (q12, .inr (3, [.ref a1_13, .ref a2_14, .int (nI (0)), .int (bI (false))])), (a1_13, .inl (cI, 4, .inl (nF (fun _ => 0)))), (a2_14, .inl (cI, 8, .inl (nF (fun _ => 0))))]) [0, 1, 2, 3, 4, 5, 6, 7, 8, 9, 10] rfl
  have hD9 := hD.sub (ws' := [(w0, .inr (6, [.ref ax0, .ref q1, .ref q8, .ref q12])), (q1, .inr (4, [.ref nd0_2, .ref os0_3, .ref cd0_4])), (nd0_2, .inl (cI, 16, .inl (nF nd1_5))), (os0_3, .inl (cI, 4, .inl (nF (fun _ => 0)))), (cd0_4, .inl (cI, 4, .inl (nF (fun _ => 0)))), (q8, .inr (3, [.ref a1_9, .ref a2_10, .int (nI (0)), .int (bI (false))])), (a1_9, .inl (cI, 4, .inl (nF (fun _ => 0)))), (a2_10, .inl (cI, 8, .inl (nF (fun _ => 0)))), (q12, .inr (3, [.ref a1_13, .ref a2_14, .int (nI (0)), .int (bI (false))])), (a1_13, .inl (cI, 4, .inl (nF (fun _ => 0)))), (a2_14, .inl (cI, 8, .inl (nF (fun _ => 0))))]) [0, 1, 2, 3, 4, 5, 6, 7, 8, 9, 10] (by decide) rfl
  refine W.widen (k := 10) (n := 59) (by decide) (by decide) ?_
  exact W.vret hx hb hr (fun t9 h9 _ => ⟨⟨(q1, nd0_2, os0_3, cd0_4, q8, a1_9, a2_10, q12, a1_13, a2_14, nd1_5), rfl, (show c_nmk nd1_5 (fun _ => 0) (fun _ => 0) from by (assumption)), by show va_P _ _ _ t9.heap ∧ _; rw [h9]; exact ⟨hP9, hD9⟩⟩, hS.F h9⟩) hS.2.2 dX6_init_42
