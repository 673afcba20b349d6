abbrev cX0_init : ByteArray := prog_2_method_1_code
def yX0_init : MethodName := ⟨RX0, "<init>", "()V"⟩
def wkX0_init : List Cond := .code yX0_init cX0_init 1 none :: qW
set_option maxRecDepth 40000 in
theorem gkX0_init : GoodIn qW wkX0_init := q_good (qw 68 rfl rfl)
set_option maxRecDepth 40000 in
theorem knX0_init : Cond.instanceMethod yX0_init ∈ qW := qw 67 rfl rfl
theorem dX0_init_0 : decode cX0_init 0 = .ok (.aload_n 0, 1) := by decide +kernel
theorem dX0_init_1 : decode cX0_init 1 = .ok (.invokespecial 3, 3) := by decide +kernel
theorem dX0_init_4 : decode cX0_init 4 = .ok (.aload_n 0, 1) := by decide +kernel
theorem dX0_init_5 : decode cX0_init 5 = .ok (.bipush 16, 2) := by decide +kernel
theorem dX0_init_7 : decode cX0_init 7 = .ok (.newarray .int, 2) := by decide +kernel
theorem dX0_init_9 : decode cX0_init 9 = .ok (.putfield 9, 3) := by decide +kernel
theorem dX0_init_12 : decode cX0_init 12 = .ok (.aload_n 0, 1) := by decide +kernel
theorem dX0_init_13 : decode cX0_init 13 = .ok (.bipush 16, 2) := by decide +kernel
theorem dX0_init_15 : decode cX0_init 15 = .ok (.newarray .int, 2) := by decide +kernel
theorem dX0_init_17 : decode cX0_init 17 = .ok (.putfield 15, 3) := by decide +kernel
theorem dX0_init_20 : decode cX0_init 20 = .ok (.aload_n 0, 1) := by decide +kernel
theorem dX0_init_21 : decode cX0_init 21 = .ok (.bipush 16, 2) := by decide +kernel
theorem dX0_init_23 : decode cX0_init 23 = .ok (.newarray .int, 2) := by decide +kernel
theorem dX0_init_25 : decode cX0_init 25 = .ok (.putfield 18, 3) := by decide +kernel
theorem dX0_init_28 : decode cX0_init 28 = .ok (.aload_n 0, 1) := by decide +kernel
theorem dX0_init_29 : decode cX0_init 29 = .ok (.iconst 0, 1) := by decide +kernel
theorem dX0_init_30 : decode cX0_init 30 = .ok (.putfield 21, 3) := by decide +kernel
theorem dX0_init_33 : decode cX0_init 33 = .ok (.return_, 1) := by decide +kernel
set_option maxRecDepth 40000 in
theorem kmX0_3 : Cond.methodLink RX0 3 objectInit ∈ qW := qw 69 rfl rfl
abbrev rm_c_Axioms_init : Room := { frames := 1, cells := 3, slots := 48, locals := 40 }
set_option maxHeartbeats 4000000 in
set_option maxRecDepth 100000 in
theorem c_Axioms_init (l : Launch) (dC : Nat → ClassId) (dI : Nat → Nat → Nat) (cI cL cQ cZ : ClassId) (h0 : Nat)  (sz0 : Nat) : Met l yX0_init wkX0_init rm_c_Axioms_init (q_N (dC, dI) qCl (qT cI cL cQ cZ) [(h0, .inr (0, [.null, .null, .null, .int (nI (0))]))] [.ref h0] sz0) (va_Qv (fun (u : Nat × Nat × Nat) => True) (fun (u : Nat × Nat × Nat) t => va_P (dC, dI) qCl [(h0, .inr (0, [.ref u.1, .ref u.2.1, .ref u.2.2, .int (nI (0))])), (u.1, .inl (cI, 16, .inl (nF (fun _ => 0)))), (u.2.1, .inl (cI, 16, .inl (nF (fun _ => 0)))), (u.2.2, .inl (cI, 16, .inl (nF (fun _ => 0))))] t.heap ∧ va_D (va_A [(h0, .inr (0, [.null, .null, .null, .int (nI (0))]))] sz0) [(h0, .inr (0, [.ref u.1, .ref u.2.1, .ref u.2.2, .int (nI (0))])), (u.1, .inl (cI, 16, .inl (nF (fun _ => 0)))), (u.2.1, .inl (cI, 16, .inl (nF (fun _ => 0)))), (u.2.2, .inl (cI, 16, .inl (nF (fun _ => 0))))]) (va_A [(h0, .inr (0, [.null, .null, .null, .int (nI (0))]))] sz0)) 3 48 (va_A [(h0, .inr (0, [.null, .null, .null, .int (nI (0))]))] sz0) := by
  refine Met.ofW (cc := cX0_init) (maxL := 1) (ret := none) (by decide) rfl ?_
  intro p e s m args below meth c s₁ B hml hv
  obtain ⟨hargs, hsz, hP, hK, hD0, hNs⟩ := hv
  have hx := B.exec
  have hb := B.bytes
  have hr := B.returns
  have hts : ∀ w ∈ qW, w.before args s = true := fun w h => atoms_spec (ws := wkX0_init) B.pre w (List.mem_cons_of_mem _ h)
  have hown : s.vm.findClass RX0 = some m.cls := findClass_of_methodNamed B.named
  have hlocks := B.notSynchronized
  have hin : meth.name = "<init>" := (name_of_methodNamed B.named B.method).1
  subst hsz
  refine q_named (fun Q hQ => ?_)
  have hD := hD0.self (sz := s.heap.size)
  generalize hAe : va_A [(h0, .inr (0, [.null, .null, .null, .int (nI (0))]))] s.heap.size = A at hD
  have hA : ∀ q : Nat, s.heap.size ≤ q → A q := fun q h => by rw [← hAe]; exact Or.inr h
  have hS : va_S A s.heap s.heap [] := va_S.rf
  refine q_entry hargs (Nat.le_of_ble_eq_true rfl) (fun ls hl => ?_)
  have hl : lv_has ls 1 [(0, .ref h0)] := hl
  obtain ⟨H, locs, eH, eL⟩ : ∃ (H : Heap) (locs : List Loc), s.heap = H ∧ ([] : List Loc) = locs := ⟨_, _, rfl, rfl⟩
  have hS : va_S A s.heap H locs := by rw [← eH, ← eL]; exact hS
  have hP : va_P (dC, dI) qCl [(h0, .inr (0, [.null, .null, .null, .int (nI (0))]))] H := by rw [← eH]; exact hP
  refine W_at eH eL ?_
  refine lv_aload_n hx hb dX0_init_0 rfl (lv_at hl 0 rfl) ?_
  refine W.objInit hx hb hown (hts _ kmX0_3) (hts _ k_oi_m) (hts _ k_oi_c) rfl (by rw [hml]; exact hl.1) rfl dX0_init_1 (Nat.le_of_ble_eq_true rfl) (Nat.le_of_ble_eq_true rfl) ?_
  refine W.eq (g2 := F0 m 4 ls []) rfl ?_
  refine lv_aload_n hx hb dX0_init_4 rfl (lv_at hl 0 rfl) ?_
  refine lv_bipush (v := (nI (16))) hx hb dX0_init_5 (by decide) ?_
  refine q_newi (n := 16) (f := nF (fun _ => 0)) hx hb (hts _ k_arr_int) hK hP hD hS hA 0 rfl (fun _ => rfl) (by decide) (Nat.le_of_ble_eq_true rfl) (Nat.le_of_ble_eq_true rfl) dX0_init_7 (fun q1 H hP hD hS => ?_)
  have hP : va_P (dC, dI) qCl [(h0, .inr (0, [.null, .null, .null, .int (nI (0))])), (q1, .inl (cI, 16, .inl (nF (fun _ => 0))))] H := hP
  have hD : va_D A [(h0, .inr (0, [.null, .null, .null, .int (nI (0))])), (q1, .inl (cI, 16, .inl (nF (fun _ => 0))))] := hD
  refine va_putF (D := (dC, dI)) (ci := 0) (v := .ref q1) (ty := (.array .int)) (C := RX0) (T := TX0) (N := 4) hx hb hts uX0 tyX0 tyX0_ok nmX0 hown hK hP hD hS 0 rfl rfl 0 (by decide) (hts _ kfX0_9) (fun _ h9 => h9) rfl hin rfl (by decide +kernel) (rfl) (rfl) (Nat.le_of_ble_eq_true rfl) dX0_init_9 (fun H locs hP hD hS => ?_)
  have hP : va_P (dC, dI) qCl [(h0, .inr (0, [.ref q1, .null, .null, .int (nI (0))])), (q1, .inl (cI, 16, .inl (nF (fun _ => 0))))] H := hP
  have hD : va_D A [(h0, .inr (0, [.ref q1, .null, .null, .int (nI (0))])), (q1, .inl (cI, 16, .inl (nF (fun _ => 0))))] := hD
  refine lv_aload_n hx hb dX0_init_12 rfl (lv_at hl 0 rfl) ?_
  refine lv_bipush (v := (nI (16))) hx hb dX0_init_13 (by decide) ?_
  refine q_newi (n := 16) (f := nF (fun _ => 0)) hx hb (hts _ k_arr_int) hK hP hD hS hA 0 rfl (fun _ => rfl) (by decide) (Nat.le_of_ble_eq_true rfl) (Nat.le_of_ble_eq_true rfl) dX0_init_15 (fun q2 H hP hD hS => ?_)
  have hP : va_P (dC, dI) qCl [(h0, .inr (0, [.ref q1, .null, .null, .int (nI (0))])), (q1, .inl (cI, 16, .inl (nF (fun _ => 0)))), (q2, .inl (cI, 16, .inl (nF (fun _ => 0))))] H := hP
  have hD : va_D A [(h0, .inr (0, [.ref q1, .null, .null, .int (nI (0))])), (q1, .inl (cI, 16, .inl (nF (fun _ => 0)))), (q2, .inl (cI, 16, .inl (nF (fun _ => 0))))] := hD
  refine va_putF (D := (dC, dI)) (ci := 0) (v := .ref q2) (ty := (.array .int)) (C := RX0) (T := TX0) (N := 4) hx hb hts uX0 tyX0 tyX0_ok nmX0 hown hK hP hD hS 0 rfl rfl 1 (by decide) (hts _ kfX0_15) (fun _ h9 => h9) rfl hin rfl (by decide +kernel) (rfl) (rfl) (Nat.le_of_ble_eq_true rfl) dX0_init_17 (fun H locs hP hD hS => ?_)
  have hP : va_P (dC, dI) qCl [(h0, .inr (0, [.ref q1, .ref q2, .null, .int (nI (0))])), (q1, .inl (cI, 16, .inl (nF (fun _ => 0)))), (q2, .inl (cI, 16, .inl (nF (fun _ => 0))))] H := hP
  have hD : va_D A [(h0, .inr (0, [.ref q1, .ref q2, .null, .int (nI (0))])), (q1, .inl (cI, 16, .inl (nF (fun _ => 0)))), (q2, .inl (cI, 16, .inl (nF (fun _ => 0))))] := hD
  refine lv_aload_n hx hb dX0_init_20 rfl (lv_at hl 0 rfl) ?_
  refine lv_bipush (v := (nI (16))) hx hb dX0_init_21 (by decide) ?_
  refine q_newi (n := 16) (f := nF (fun _ => 0)) hx hb (hts _ k_arr_int) hK hP hD hS hA 0 rfl (fun _ => rfl) (by decide) (Nat.le_of_ble_eq_true rfl) (Nat.le_of_ble_eq_true rfl) dX0_init_23 (fun q3 H hP hD hS => ?_)
  have hP : va_P (dC, dI) qCl [(h0, .inr (0, [.ref q1, .ref q2, .null, .int (nI (0))])), (q1, .inl (cI, 16, .inl (nF (fun _ => 0)))), (q2, .inl (cI, 16, .inl (nF (fun _ => 0)))), (q3, .inl (cI, 16, .inl (nF (fun _ => 0))))] H := hP
  have hD : va_D A [(h0, .inr (0, [.ref q1, .ref q2, .null, .int (nI (0))])), (q1, .inl (cI, 16, .inl (nF (fun _ => 0)))), (q2, .inl (cI, 16, .inl (nF (fun _ => 0)))), (q3, .inl (cI, 16, .inl (nF (fun _ => 0))))] := hD
  refine va_putF (D := (dC, dI)) (ci := 0) (v := .ref q3) (ty := (.array .int)) (C := RX0) (T := TX0) (N := 4) hx hb hts uX0 tyX0 tyX0_ok nmX0 hown hK hP hD hS 0 rfl rfl 2 (by decide) (hts _ kfX0_18) (fun _ h9 => h9) rfl hin rfl (by decide +kernel) (rfl) (rfl) (Nat.le_of_ble_eq_true rfl) dX0_init_25 (fun H locs hP hD hS => ?_)
  have hP : va_P (dC, dI) qCl [(h0, .inr (0, [.ref q1, .ref q2, .ref q3, .int (nI (0))])), (q1, .inl (cI, 16, .inl (nF (fun _ => 0)))), (q2, .inl (cI, 16, .inl (nF (fun _ => 0)))), (q3, .inl (cI, 16, .inl (nF (fun _ => 0))))] H := hP
  have hD : va_D A [(h0, .inr (0, [.ref q1, .ref q2, .ref q3, .int (nI (0))])), (q1, .inl (cI, 16, .inl (nF (fun _ => 0)))), (q2, .inl (cI, 16, .inl (nF (fun _ => 0)))), (q3, .inl (cI, 16, .inl (nF (fun _ => 0))))] := hD
  refine lv_aload_n hx hb dX0_init_28 rfl (lv_at hl 0 rfl) ?_
  refine lv_iconst (v := (nI (0))) hx hb dX0_init_29 (by decide) ?_
  refine va_put (D := (dC, dI)) (ci := 0) (v := .int (nI (0))) (ty := .int) (C := RX0) (T := TX0) (N := 4) hx hb hts uX0 tyX0 tyX0_ok nmX0 hown hK hP hD hS 0 rfl rfl 3 (by decide) (hts _ kfX0_21) (fun _ h9 => h9) rfl (by decide +kernel) (rfl) (rfl) (Nat.le_of_ble_eq_true rfl) dX0_init_30 (fun H locs hP hD hS => ?_)
  have hP : va_P (dC, dI) qCl [(h0, .inr (0, [.ref q1, .ref q2, .ref q3, .int (nI (0))])), (q1, .inl (cI, 16, .inl (nF (fun _ => 0)))), (q2, .inl (cI, 16, .inl (nF (fun _ => 0)))), (q3, .inl (cI, 16, .inl (nF (fun _ => 0))))] H := hP
  have hD : va_D A [(h0, .inr (0, [.ref q1, .ref q2, .ref q3, .int (nI (0))])), (q1, .inl (cI, 16, .inl (nF (fun _ => 0)))), (q2, .inl (cI, 16, .inl (nF (fun _ => 0)))), (q3, .inl (cI, 16, .inl (nF (fun _ => 0))))] := hD
  subst hQ
  subst hAe
  have hP9 := hP.sub (ws' := [(h0, .inr (0, [.ref q1, .ref q2, .ref q3, .int (nI (0))])), (q1, .inl (cI, 16, .inl (nF (fun _ => 0)))), (q2, .inl (cI, 16, .inl (nF (fun _ => 0)))), (q3, .inl (cI, 16, .inl (nF (fun _ => 0))))]) [0, 1, 2, 3] rfl
  have hD9 := hD.sub (ws' := [(h0, .inr (0, [.ref q1, .ref q2, .ref q3, .int (nI (0))])), (q1, .inl (cI, 16, .inl (nF (fun _ => 0)))), (q2, .inl (cI, 16, .inl (nF (fun _ => 0)))), (q3, .inl (cI, 16, .inl (nF (fun _ => 0))))]) [0, 1, 2, 3] (by decide) rfl
  refine W.widen (k := 3) (n := 48) (by decide) (by decide) ?_
  exact W.vret hx hb hr (fun t9 h9 _ => ⟨⟨(q1, q2, q3), rfl, trivial, by show va_P _ _ _ t9.heap ∧ _; rw [h9]; exact ⟨hP9, hD9⟩⟩, hS.F h9⟩) hS.2.2 dX0_init_33
