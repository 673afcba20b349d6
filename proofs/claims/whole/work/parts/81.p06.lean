abbrev cX2_init : ByteArray := prog_4_method_1_code
def yX2_init : MethodName := ⟨RX2, "<init>", "(LQlRewrite$Facts;)V"⟩
def wkX2_init : List Cond := .code yX2_init cX2_init 2 none :: qW
set_option maxRecDepth 40000 in
theorem gkX2_init : GoodIn qW wkX2_init := q_good (qw 243 rfl rfl)
set_option maxRecDepth 40000 in
theorem knX2_init : Cond.instanceMethod yX2_init ∈ qW := qw 242 rfl rfl
theorem dX2_init_0 : decode cX2_init 0 = .ok (.aload_n 0, 1) := by decide +kernel
theorem dX2_init_1 : decode cX2_init 1 = .ok (.invokespecial 3, 3) := by decide +kernel
theorem dX2_init_4 : decode cX2_init 4 = .ok (.aload_n 0, 1) := by decide +kernel
theorem dX2_init_5 : decode cX2_init 5 = .ok (.new 9, 3) := by decide +kernel
theorem dX2_init_8 : decode cX2_init 8 = .ok (.dup, 1) := by decide +kernel
theorem dX2_init_9 : decode cX2_init 9 = .ok (.invokespecial 11, 3) := by decide +kernel
theorem dX2_init_12 : decode cX2_init 12 = .ok (.putfield 12, 3) := by decide +kernel
theorem dX2_init_15 : decode cX2_init 15 = .ok (.aload_n 0, 1) := by decide +kernel
theorem dX2_init_16 : decode cX2_init 16 = .ok (.bipush 6, 2) := by decide +kernel
theorem dX2_init_18 : decode cX2_init 18 = .ok (.newarray .int, 2) := by decide +kernel
theorem dX2_init_20 : decode cX2_init 20 = .ok (.putfield 18, 3) := by decide +kernel
theorem dX2_init_23 : decode cX2_init 23 = .ok (.aload_n 0, 1) := by decide +kernel
theorem dX2_init_24 : decode cX2_init 24 = .ok (.aload_n 1, 1) := by decide +kernel
theorem dX2_init_25 : decode cX2_init 25 = .ok (.putfield 22, 3) := by decide +kernel
theorem dX2_init_28 : decode cX2_init 28 = .ok (.return_, 1) := by decide +kernel
set_option maxRecDepth 40000 in
theorem kmX2_3 : Cond.methodLink RX2 3 objectInit ∈ qW := qw 244 rfl rfl
set_option maxRecDepth 40000 in
theorem kclX2_9 : Cond.classLink RX2 9 RX3 ∈ qW := qw 245 rfl rfl
abbrev rm_c_Finder_init : Room := { frames := 2, cells := 4, slots := 22, locals := 60 }
set_option maxHeartbeats 4000000 in
set_option maxRecDepth 100000 in
theorem c_Finder_init (l : Launch) (dC : Nat → ClassId) (dI : Nat → Nat → Nat) (cI cL cQ cZ : ClassId) (n0 : Nat) (fct : Nat)  (sz0 : Nat) : Met l yX2_init wkX2_init rm_c_Finder_init (q_N (dC, dI) qCl (qT cI cL cQ cZ) [(n0, .inr (2, [.null, .null, .null]))] [.ref n0, .ref fct] sz0) (va_Qv (fun (u : Nat × Nat × Nat × Nat) => True) (fun (u : Nat × Nat × Nat × Nat) t => va_P (dC, dI) qCl [(n0, .inr (2, [.ref fct, .ref u.1, .ref u.2.2.2])), (u.1, .inr (3, [.ref u.2.1, .ref u.2.2.1, .int (nI (0)), .int (bI (false))])), (u.2.1, .inl (cI, 4, .inl (nF (fun _ => 0)))), (u.2.2.1, .inl (cI, 8, .inl (nF (fun _ => 0)))), (u.2.2.2, .inl (cI, 6, .inl (oF (fun _ => some 0))))] t.heap ∧ va_D (va_A [(n0, .inr (2, [.null, .null, .null]))] sz0) [(n0, .inr (2, [.ref fct, .ref u.1, .ref u.2.2.2])), (u.1, .inr (3, [.ref u.2.1, .ref u.2.2.1, .int (nI (0)), .int (bI (false))])), (u.2.1, .inl (cI, 4, .inl (nF (fun _ => 0)))), (u.2.2.1, .inl (cI, 8, .inl (nF (fun _ => 0)))), (u.2.2.2, .inl (cI, 6, .inl (oF (fun _ => some 0))))]) (va_A [(n0, .inr (2, [.null, .null, .null]))] sz0)) 4 22 (va_A [(n0, .inr (2, [.null, .null, .null]))] sz0) := by
  refine Met.ofW (cc := cX2_init) (maxL := 2) (ret := none) (by decide) rfl ?_
  intro p e s m args below meth c s₁ B hml hv
  obtain ⟨hargs, hsz, hP, hK, hD0, hNs⟩ := hv
  have hx := B.exec
  have hb := B.bytes
  have hr := B.returns
  have hts : ∀ w ∈ qW, w.before args s = true := fun w h => atoms_spec (ws := wkX2_init) B.pre w (List.mem_cons_of_mem _ h)
  have hown : s.vm.findClass RX2 = some m.cls := findClass_of_methodNamed B.named
  have hlocks := B.notSynchronized
  have hin : meth.name = "<init>" := (name_of_methodNamed B.named B.method).1
  subst hsz
  refine q_named (fun Q hQ => ?_)
  have hD := hD0.self (sz := s.heap.size)
  generalize hAe : va_A [(n0, .inr (2, [.null, .null, .null]))] s.heap.size = A at hD
  have hA : ∀ q : Nat, s.heap.size ≤ q → A q := fun q h => by rw [← hAe]; exact Or.inr h
  have hS : va_S A s.heap s.heap [] := va_S.rf
  refine q_entry hargs (Nat.le_of_ble_eq_true rfl) (fun ls hl => ?_)
  have hl : lv_has ls 2 [(0, .ref n0), (1, .ref fct)] := hl
  obtain ⟨H, locs, eH, eL⟩ : ∃ (H : Heap) (locs : List Loc), s.heap = H ∧ ([] : List Loc) = locs := ⟨_, _, rfl, rfl⟩
  have hS : va_S A s.heap H locs := by rw [← eH, ← eL]; exact hS
  have hP : va_P (dC, dI) qCl [(n0, .inr (2, [.null, .null, .null]))] H := by rw [← eH]; exact hP
  refine W_at eH eL ?_
  refine lv_aload_n hx hb dX2_init_0 rfl (lv_at hl 0 rfl) ?_
  refine W.objInit hx hb hown (hts _ kmX2_3) (hts _ k_oi_m) (hts _ k_oi_c) rfl (by rw [hml]; exact hl.1) rfl dX2_init_1 (Nat.le_of_ble_eq_true rfl) (Nat.le_of_ble_eq_true rfl) ?_
  refine W.eq (g2 := F0 m 4 ls []) rfl ?_
  refine lv_aload_n hx hb dX2_init_4 rfl (lv_at hl 0 rfl) ?_
  refine va_new (ci := 3) (fs := [.null, .null, .int (nI (0)), .int (bI (false))]) (C := RX3) (T := TX3) (N := 4) hx hb hts uX3 tyX3 tyX3_ok hown (hts _ kclX2_9) (hts _ kinX3) (hts _ kiX3) hK hP hD hS hA rfl (fun j hj => by rcases (show j = 0 ∨ j = 1 ∨ j = 2 ∨ j = 3 by omega) with rfl | rfl | rfl | rfl <;> rfl) (Nat.le_of_ble_eq_true rfl) (Nat.le_of_ble_eq_true rfl) dX2_init_5 (fun q1 H hP hD hS => ?_)
  have hP : va_P (dC, dI) qCl [(n0, .inr (2, [.null, .null, .null])), (q1, .inr (3, [.null, .null, .int (nI (0)), .int (bI (false))]))] H := hP
  have hD : va_D A [(n0, .inr (2, [.null, .null, .null])), (q1, .inr (3, [.null, .null, .int (nI (0)), .int (bI (false))]))] := hD
  refine lv_dup hx hb dX2_init_8 rfl ?_
  refine q_joinN (wr := [(n0, .inr (2, [.null, .null, .null]))]) (va_runIN (As := []) (rest := [.ref q1, .ref n0]) ⟨hx, hb, hml, hown, hts⟩ (c_Form_init l dC dI cI cL cQ cZ q1 H.size) ⟨va_cnB 0 hts gkX3_init rfl rfl rfl hNs.2.2.2.2.2.1 (hts _ kiX3) (by decide +kernel) ⟨Nat.le_of_ble_eq_true rfl, Nat.le_of_ble_eq_true rfl⟩, rfl, hts _ knX3_init⟩ (q_preN hK hP hD hNs [1] rfl (by decide)) rfl rfl hl.1 rfl (lv_room (Nat.le_of_ble_eq_true rfl)) dX2_init_9 ⟨Nat.le_of_ble_eq_true rfl, Nat.le_of_ble_eq_true rfl⟩) hP hD hS hA [1] [0] rfl rfl (by decide) (by decide) (fun u9 H locs hq4 hP hD hS => ?_)
  obtain ⟨a1_2, a2_3⟩ := u9
  have hP : va_P (dC, dI) qCl [(n0, .inr (2, [.null, .null, .null])), (q1, .inr (3, [.ref a1_2, .ref a2_3, .int (nI (0)), .int (bI (false))])), (a1_2, .inl (cI, 4, .inl (nF (fun _ => 0)))), (a2_3, .inl (cI, 8, .inl (nF (fun _ => 0))))] H := hP
  have hD : va_D A [(n0, .inr (2, [.null, .null, .null])), (q1, .inr (3, [.ref a1_2, .ref a2_3, .int (nI (0)), .int (bI (false))])), (a1_2, .inl (cI, 4, .inl (nF (fun _ => 0)))), (a2_3, .inl (cI, 8, .inl (nF (fun _ => 0))))] := hD
  refine va_putF (D := (dC, dI)) (ci := 2) (v := .ref q1) (ty := (.object "QlRewrite$Form")) (C := RX2) (T := TX2) (N := 3) hx hb hts uX2 tyX2 tyX2_ok nmX2 hown hK hP hD hS 0 rfl rfl 1 (by decide) (hts _ kfX2_12) (fun _ h9 => h9) rfl hin rfl (by decide +kernel) (rfl) (rfl) (Nat.le_of_ble_eq_true rfl) dX2_init_12 (fun H locs hP hD hS => ?_)
  have hP : va_P (dC, dI) qCl [(n0, .inr (2, [.null, .ref q1, .null])), (q1, .inr (3, [.ref a1_2, .ref a2_3, .int (nI (0)), .int (bI (false))])), (a1_2, .inl (cI, 4, .inl (nF (fun _ => 0)))), (a2_3, .inl (cI, 8, .inl (nF (fun _ => 0))))] H := hP
  have hD : va_D A [(n0, .inr (2, [.null, .ref q1, .null])), (q1, .inr (3, [.ref a1_2, .ref a2_3, .int (nI (0)), .int (bI (false))])), (a1_2, .inl (cI, 4, .inl (nF (fun _ => 0)))), (a2_3, .inl (cI, 8, .inl (nF (fun _ => 0))))] := hD
  refine lv_aload_n hx hb dX2_init_15 rfl (lv_at hl 0 rfl) ?_
  refine lv_bipush (v := (nI (6))) hx hb dX2_init_16 (by decide) ?_
  refine q_newi (n := 6) (f := oF (fun _ => some 0)) hx hb (hts _ k_arr_int) hK hP hD hS hA 0 rfl (fun _ => rfl) (by decide) (Nat.le_of_ble_eq_true rfl) (Nat.le_of_ble_eq_true rfl) dX2_init_18 (fun q5 H hP hD hS => ?_)
  have hP : va_P (dC, dI) qCl [(n0, .inr (2, [.null, .ref q1, .null])), (q1, .inr (3, [.ref a1_2, .ref a2_3, .int (nI (0)), .int (bI (false))])), (a1_2, .inl (cI, 4, .inl (nF (fun _ => 0)))), (a2_3, .inl (cI, 8, .inl (nF (fun _ => 0)))), (q5, .inl (cI, 6, .inl (oF (fun _ => some 0))))] H := hP
  have hD : va_D A [(n0, .inr (2, [.null, .ref q1, .null])), (q1, .inr (3, [.ref a1_2, .ref a2_3, .int (nI (0)), .int (bI (false))])), (a1_2, .inl (cI, 4, .inl (nF (fun _ => 0)))), (a2_3, .inl (cI, 8, .inl (nF (fun _ => 0)))), (q5, .inl (cI, 6, .inl (oF (fun _ => some 0))))] := hD
  refine va_putF (D := (dC, dI)) (ci := 2) (v := .ref q5) (ty := (.array .int)) (C := RX2) (T := TX2) (N := 3) hx hb hts uX2 tyX2 tyX2_ok nmX2 hown hK hP hD hS 0 rfl rfl 2 (by decide) (hts _ kfX2_18) (fun _ h9 => h9) rfl hin rfl (by decide +kernel) (rfl) (rfl) (Nat.le_of_ble_eq_true rfl) dX2_init_20 (fun H locs hP hD hS => ?_)
  have hP : va_P (dC, dI) qCl [(n0, .inr (2, [.null, .ref q1, .ref q5])), (q1, .inr (3, [.ref a1_2, .ref a2_3, .int (nI (0)), .int (bI (false))])), (a1_2, .inl (cI, 4, .inl (nF (fun _ => 0)))), (a2_3, .inl (cI, 8, .inl (nF (fun _ => 0)))), (q5, .inl (cI, 6, .inl (oF (fun _ => some 0))))] H := hP
  have hD : va_D A [(n0, .inr (2, [.null, .ref q1, .ref q5])), (q1, .inr (3, [.ref a1_2, .ref a2_3, .int (nI (0)), .int (bI (false))])), (a1_2, .inl (cI, 4, .inl (nF (fun _ => 0)))), (a2_3, .inl (cI, 8, .inl (nF (fun _ => 0)))), (q5, .inl (cI, 6, .inl (oF (fun _ => some 0))))] := hD
  refine lv_aload_n hx hb dX2_init_23 rfl (lv_at hl 0 rfl) ?_
  refine lv_aload_n hx hb dX2_init_24 rfl (lv_at hl 1 rfl) ?_
  refine va_putF (D := (dC, dI)) (ci := 2) (v := .ref fct) (ty := (.object "QlRewrite$Facts")) (C := RX2) (T := TX2) (N := 3) hx hb hts uX2 tyX2 tyX2_ok nmX2 hown hK hP hD hS 0 rfl rfl 0 (by decide) (hts _ kfX2_22) (fun _ h9 => h9) rfl hin rfl (by decide +kernel) (rfl) (rfl) (Nat.le_of_ble_eq_true rfl) dX2_init_25 (fun H locs hP hD hS => ?_)
  have hP : va_P (dC, dI) qCl [(n0, .inr (2, [.ref fct, .ref q1, .ref q5])), (q1, .inr (3, [.ref a1_2, .ref a2_3, .int (nI (0)), .int (bI (false))])), (a1_2, .inl (cI, 4, .inl (nF (fun _ => 0)))), (a2_3, .inl (cI, 8, .inl (nF (fun _ => 0)))), (q5, .inl (cI, 6, .inl (oF (fun _ => some 0))))] H := hP
  have hD : va_D A [(n0, .inr (2, [.ref fct, .ref q1, .ref q5])), (q1, .inr (3, [.ref a1_2, .ref a2_3, .int (nI (0)), .int (bI (false))])), (a1_2, .inl (cI, 4, .inl (nF (fun _ => 0)))), (a2_3, .inl (cI, 8, .inl (nF (fun _ => 0)))), (q5, .inl (cI, 6, .inl (oF (fun _ => some 0))))] := hD
  subst hQ
  subst hAe
  have hP9 := hP.sub (ws' := [(n0, .inr (2, [.ref fct, .ref q1, .ref q5])), (q1, .inr (3, [.ref a1_2, .ref a2_3, .int (nI (0)), .int (bI (false))])), (a1_2, .inl (cI, 4, .inl (nF (fun _ => 0)))), (a2_3, .inl (cI, 8, .inl (nF (fun _ => 0)))), (q5, .inl (cI, 6, .inl (oF (fun _ => some 0))))]) [0, 1, 2, 3, 4] rfl
  have hD9 := hD.sub (ws' := [(n0, .inr (2, [.ref fct, .ref q1, .ref q5])), (q1, .inr (3, [.ref a1_2, .ref a2_3, .int (nI (0)), .int (bI (false))])), (a1_2, .inl (cI, 4, .inl (nF (fun _ => 0)))), (a2_3, .inl (cI, 8, .inl (nF (fun _ => 0)))), (q5, .inl (cI, 6, .inl (oF (fun _ => some 0))))]) [0, 1, 2, 3, 4] (by decide) rfl
  refine W.widen (k := 4) (n := 22) (by decide) (by decide) ?_
  exact W.vret hx hb hr (fun t9 h9 _ => ⟨⟨(q1, a1_2, a2_3, q5), rfl, trivial, by show va_P _ _ _ t9.heap ∧ _; rw [h9]; exact ⟨hP9, hD9⟩⟩, hS.F h9⟩) hS.2.2 dX2_init_28
