abbrev cX3_init : ByteArray := prog_5_method_1_code
def yX3_init : MethodName := ⟨RX3, "<init>", "()V"⟩
def wkX3_init : List Cond := .code yX3_init cX3_init 1 none :: qW
set_option maxRecDepth 40000 in
theorem gkX3_init : GoodIn qW wkX3_init := q_good (qw 128 rfl rfl)
set_option maxRecDepth 40000 in
theorem knX3_init : Cond.instanceMethod yX3_init ∈ qW := qw 127 rfl rfl
theorem dX3_init_0 : decode cX3_init 0 = .ok (.aload_n 0, 1) := by decide +kernel
theorem dX3_init_1 : decode cX3_init 1 = .ok (.invokespecial 5, 3) := by decide +kernel
theorem dX3_init_4 : decode cX3_init 4 = .ok (.aload_n 0, 1) := by decide +kernel
theorem dX3_init_5 : decode cX3_init 5 = .ok (.iconst 4, 1) := by decide +kernel
theorem dX3_init_6 : decode cX3_init 6 = .ok (.newarray .int, 2) := by decide +kernel
theorem dX3_init_8 : decode cX3_init 8 = .ok (.putfield 11, 3) := by decide +kernel
theorem dX3_init_11 : decode cX3_init 11 = .ok (.aload_n 0, 1) := by decide +kernel
theorem dX3_init_12 : decode cX3_init 12 = .ok (.bipush 8, 2) := by decide +kernel
theorem dX3_init_14 : decode cX3_init 14 = .ok (.newarray .int, 2) := by decide +kernel
theorem dX3_init_16 : decode cX3_init 16 = .ok (.putfield 15, 3) := by decide +kernel
theorem dX3_init_19 : decode cX3_init 19 = .ok (.aload_n 0, 1) := by decide +kernel
theorem dX3_init_20 : decode cX3_init 20 = .ok (.iconst 0, 1) := by decide +kernel
theorem dX3_init_21 : decode cX3_init 21 = .ok (.putfield 18, 3) := by decide +kernel
theorem dX3_init_24 : decode cX3_init 24 = .ok (.aload_n 0, 1) := by decide +kernel
theorem dX3_init_25 : decode cX3_init 25 = .ok (.iconst 0, 1) := by decide +kernel
theorem dX3_init_26 : decode cX3_init 26 = .ok (.putfield 22, 3) := by decide +kernel
theorem dX3_init_29 : decode cX3_init 29 = .ok (.return_, 1) := by decide +kernel
set_option maxRecDepth 40000 in
theorem kmX3_5 : Cond.methodLink RX3 5 objectInit ∈ qW := qw 129 rfl rfl
set_option maxRecDepth 40000 in
theorem k_oi_m : Cond.instanceMethod objectInit ∈ qW := qw 62 rfl rfl
set_option maxRecDepth 40000 in
theorem k_oi_c : Cond.code objectInit ⟨#[0xb1]⟩ 1 none ∈ qW := qw 63 rfl rfl
set_option maxRecDepth 40000 in
theorem k_arr_int : Cond.arrayClass .int ∈ qW := qw 85 rfl rfl
abbrev rm_c_Form_init : Room := { frames := 1, cells := 2, slots := 12, locals := 40 }
set_option maxHeartbeats 4000000 in
set_option maxRecDepth 100000 in
theorem c_Form_init (l : Launch) (dC : Nat → ClassId) (dI : Nat → Nat → Nat) (cI cL cQ cZ : ClassId) (h0 : Nat)  (sz0 : Nat) : Met l yX3_init wkX3_init rm_c_Form_init (q_N (dC, dI) qCl (qT cI cL cQ cZ) [(h0, .inr (3, [.null, .null, .int (nI (0)), .int (bI (false))]))] [.ref h0] sz0) (va_Qv (fun (u : Nat × Nat) => True) (fun (u : Nat × Nat) t => va_P (dC, dI) qCl [(h0, .inr (3, [.ref u.1, .ref u.2, .int (nI (0)), .int (bI (false))])), (u.1, .inl (cI, 4, .inl (nF (fun _ => 0)))), (u.2, .inl (cI, 8, .inl (nF (fun _ => 0))))] t.heap ∧ va_D (va_A [(h0, .inr (3, [.null, .null, .int (nI (0)), .int (bI (false))]))] sz0) [(h0, .inr (3, [.ref u.1, .ref u.2, .int (nI (0)), .int (bI (false))])), (u.1, .inl (cI, 4, .inl (nF (fun _ => 0)))), (u.2, .inl (cI, 8, .inl (nF (fun _ => 0))))]) (va_A [(h0, .inr (3, [.null, .null, .int (nI (0)), .int (bI (false))]))] sz0)) 2 12 (va_A [(h0, .inr (3, [.null, .null, .int (nI (0)), .int (bI (false))]))] sz0) := by
  refine Met.ofW (cc := cX3_init) (maxL := 1) (ret := none) (by decide) rfl ?_
  intro p e s m args below meth c s₁ B hml hv
  obtain ⟨hargs, hsz, hP, hK, hD0, hNs⟩ := hv
  have hx := B.exec
  have hb := B.bytes
  have hr := B.returns
  have hts : ∀ w ∈ qW, w.before args s = true := fun w h => atoms_spec (ws := wkX3_init) B.pre w (List.mem_cons_of_mem _ h)
  have hown : s.vm.findClass RX3 = some m.cls := findClass_of_methodNamed B.named
  have hlocks := B.notSynchronized
  have hin : meth.name = "<init>" := (name_of_methodNamed B.named B.method).1
  subst hsz
  refine q_named (fun Q hQ => ?_)
  have hD := hD0.self (sz := s.heap.size)
  generalize hAe : va_A [(h0, .inr (3, [.null, .null, .int (nI (0)), .int (bI (false))]))] s.heap.size = A at hD
  have hA : ∀ q : Nat, s.heap.size ≤ q → A q := fun q h => by rw [← hAe]; exact Or.inr h
  have hS : va_S A s.heap s.heap [] := va_S.rf
  refine q_entry hargs (Nat.le_of_ble_eq_true rfl) (fun ls hl => ?_)
  have hl : lv_has ls 1 [(0, .ref h0)] := hl
  obtain ⟨H, locs, eH, eL⟩ : ∃ (H : Heap) (locs : List Loc), s.heap = H ∧ ([] : List Loc) = locs := ⟨_, _, rfl, rfl⟩
  have hS : va_S A s.heap H locs := by rw [← eH, ← eL]; exact hS
  have hP : va_P (dC, dI) qCl [(h0, .inr (3, [.null, .null, .int (nI (0)), .int (bI (false))]))] H := by rw [← eH]; exact hP
  refine W_at eH eL ?_
  refine lv_aload_n hx hb dX3_init_0 rfl (lv_at hl 0 rfl) ?_
  refine W.objInit hx hb hown (hts _ kmX3_5) (hts _ k_oi_m) (hts _ k_oi_c) rfl (by rw [hml]; exact hl.1) rfl dX3_init_1 (Nat.le_of_ble_eq_true rfl) (Nat.le_of_ble_eq_true rfl) ?_
  refine W.eq (g2 := F0 m 4 ls []) rfl ?_
  refine lv_aload_n hx hb dX3_init_4 rfl (lv_at hl 0 rfl) ?_
  refine lv_iconst (v := (nI (4))) hx hb dX3_init_5 (by decide) ?_
  refine q_newi (n := 4) (f := nF (fun _ => 0)) hx hb (hts _ k_arr_int) hK hP hD hS hA 0 rfl (fun _ => rfl) (by decide) (Nat.le_of_ble_eq_true rfl) (Nat.le_of_ble_eq_true rfl) dX3_init_6 (fun q1 H hP hD hS => ?_)
  have hP : va_P (dC, dI) qCl [(h0, .inr (3, [.null, .null, .int (nI (0)), .int (bI (false))])), (q1, .inl (cI, 4, .inl (nF (fun _ => 0))))] H := hP
  have hD : va_D A [(h0, .inr (3, [.null, .null, .int (nI (0)), .int (bI (false))])), (q1, .inl (cI, 4, .inl (nF (fun _ => 0))))] := hD
  refine va_putF (D := (dC, dI)) (ci := 3) (v := .ref q1) (ty := (.array .int)) (C := RX3) (T := TX3) (N := 4) hx hb hts uX3 tyX3 tyX3_ok nmX3 hown hK hP hD hS 0 rfl rfl 0 (by decide) (hts _ kfX3_11) (fun _ h9 => h9) rfl hin rfl (by decide +kernel) (rfl) (rfl) (Nat.le_of_ble_eq_true rfl) dX3_init_8 (fun H locs hP hD hS => ?_)
  have hP : va_P (dC, dI) qCl [(h0, .inr (3, [.ref q1, .null, .int (nI (0)), .int (bI (false))])), (q1, .inl (cI, 4, .inl (nF (fun _ => 0))))] H := hP
  have hD : va_D A [(h0, .inr (3, [.ref q1, .null, .int (nI (0)), .int (bI (false))])), (q1, .inl (cI, 4, .inl (nF (fun _ => 0))))] := hD
  refine lv_aload_n hx hb dX3_init_11 rfl (lv_at hl 0 rfl) ?_
  refine lv_bipush (v := (nI (8))) hx hb dX3_init_12 (by decide) ?_
  refine q_newi (n := 8) (f := nF (fun _ => 0)) hx hb (hts _ k_arr_int) hK hP hD hS hA 0 rfl (fun _ => rfl) (by decide) (Nat.le_of_ble_eq_true rfl) (Nat.le_of_ble_eq_true rfl) dX3_init_14 (fun q2 H hP hD hS => ?_)
  have hP : va_P (dC, dI) qCl [(h0, .inr (3, [.ref q1, .null, .int (nI (0)), .int (bI (false))])), (q1, .inl (cI, 4, .inl (nF (fun _ => 0)))), (q2, .inl (cI, 8, .inl (nF (fun _ => 0))))] H := hP
  have hD : va_D A [(h0, .inr (3, [.ref q1, .null, .int (nI (0)), .int (bI (false))])), (q1, .inl (cI, 4, .inl (nF (fun _ => 0)))), (q2, .inl (cI, 8, .inl (nF (fun _ => 0))))] := hD
  refine va_putF (D := (dC, dI)) (ci := 3) (v := .ref q2) (ty := (.array .int)) (C := RX3) (T := TX3) (N := 4) hx hb hts uX3 tyX3 tyX3_ok nmX3 hown hK hP hD hS 0 rfl rfl 1 (by decide) (hts _ kfX3_15) (fun _ h9 => h9) rfl hin rfl (by decide +kernel) (rfl) (rfl) (Nat.le_of_ble_eq_true rfl) dX3_init_16 (fun H locs hP hD hS => ?_)
  have hP : va_P (dC, dI) qCl [(h0, .inr (3, [.ref q1, .ref q2, .int (nI (0)), .int (bI (false))])), (q1, .inl (cI, 4, .inl (nF (fun _ => 0)))), (q2, .inl (cI, 8, .inl (nF (fun _ => 0))))] H := hP
  have hD : va_D A [(h0, .inr (3, [.ref q1, .ref q2, .int (nI (0)), .int (bI (false))])), (q1, .inl (cI, 4, .inl (nF (fun _ => 0)))), (q2, .inl (cI, 8, .inl (nF (fun _ => 0))))] := hD
  refine lv_aload_n hx hb dX3_init_19 rfl (lv_at hl 0 rfl) ?_
  refine lv_iconst (v := (nI (0))) hx hb dX3_init_20 (by decide) ?_
  refine va_put (D := (dC, dI)) (ci := 3) (v := .int (nI (0))) (ty := .int) (C := RX3) (T := TX3) (N := 4) hx hb hts uX3 tyX3 tyX3_ok nmX3 hown hK hP hD hS 0 rfl rfl 2 (by decide) (hts _ kfX3_18) (fun _ h9 => h9) rfl (by decide +kernel) (rfl) (rfl) (Nat.le_of_ble_eq_true rfl) dX3_init_21 (fun H locs hP hD hS => ?_)
  have hP : va_P (dC, dI) qCl [(h0, .inr (3, [.ref q1, .ref q2, .int (nI (0)), .int (bI (false))])), (q1, .inl (cI, 4, .inl (nF (fun _ => 0)))), (q2, .inl (cI, 8, .inl (nF (fun _ => 0))))] H := hP
  have hD : va_D A [(h0, .inr (3, [.ref q1, .ref q2, .int (nI (0)), .int (bI (false))])), (q1, .inl (cI, 4, .inl (nF (fun _ => 0)))), (q2, .inl (cI, 8, .inl (nF (fun _ => 0))))] := hD
  refine lv_aload_n hx hb dX3_init_24 rfl (lv_at hl 0 rfl) ?_
  refine lv_iconst (v := (nI (0))) hx hb dX3_init_25 (by decide) ?_
  refine va_put (D := (dC, dI)) (ci := 3) (v := .int (bI (false))) (ty := .boolean) (C := RX3) (T := TX3) (N := 4) hx hb hts uX3 tyX3 tyX3_ok nmX3 hown hK hP hD hS 0 rfl rfl 3 (by decide) (hts _ kfX3_22) (fun _ h9 => h9) rfl (by decide +kernel) (bI_nar _) (rfl) (Nat.le_of_ble_eq_true rfl) dX3_init_26 (fun H locs hP hD hS => ?_)
  have hP : va_P (dC, dI) qCl [(h0, .inr (3, [.ref q1, .ref q2, .int (nI (0)), .int (bI (false))])), (q1, .inl (cI, 4, .inl (nF (fun _ => 0)))), (q2, .inl (cI, 8, .inl (nF (fun _ => 0))))] H := hP
  have hD : va_D A [(h0, .inr (3, [.ref q1, .ref q2, .int (nI (0)), .int (bI (false))])), (q1, .inl (cI, 4, .inl (nF (fun _ => 0)))), (q2, .inl (cI, 8, .inl (nF (fun _ => 0))))] := hD
  subst hQ
  subst hAe
  have hP9 := hP.sub (ws' := [(h0, .inr (3, [.ref q1, .ref q2, .int (nI (0)), .int (bI (false))])), (q1, .inl (cI, 4, .inl (nF (fun _ => 0)))), (q2, .inl (cI, 8, .inl (nF (fun _ => 0))))]) [0, 1, 2] rfl
  have hD9 := hD.sub (ws' := [(h0, .inr (3, [.ref q1, .ref q2, .int (nI (0)), .int (bI (false))])), (q1, .inl (cI, 4, .inl (nF (fun _ => 0)))), (q2, .inl (cI, 8, .inl (nF (fun _ => 0))))]) [0, 1, 2] (by decide) rfl
  refine W.widen (k := 2) (n := 12) (by decide) (by decide) ?_
  exact W.vret hx hb hr (fun t9 h9 _ => ⟨⟨(q1, q2), rfl, trivial, by show va_P _ _ _ t9.heap ∧ _; rw [h9]; exact ⟨hP9, hD9⟩⟩, hS.F h9⟩) hS.2.2 dX3_init_29
