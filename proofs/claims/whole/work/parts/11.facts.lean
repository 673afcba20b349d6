abbrev cX1_isIn : ByteArray := prog_3_method_5_code
def yX1_isIn : MethodName := ⟨RX1, "isIn", "(II)Z"⟩
def wkX1_isIn : List Cond := .code yX1_isIn cX1_isIn 2 (some .boolean) :: qW
set_option maxRecDepth 40000 in
theorem gkX1_isIn : GoodIn qW wkX1_isIn := q_good (qw 322 rfl rfl)
set_option maxRecDepth 40000 in
theorem ksX1_isIn : Cond.static yX1_isIn ∈ qW := qw 321 rfl rfl
theorem dX1_isIn_0 : decode cX1_isIn 0 = .ok (.iload_n 1, 1) := by decide +kernel
theorem dX1_isIn_1 : decode cX1_isIn 1 = .ok (.iload_n 0, 1) := by decide +kernel
theorem dX1_isIn_2 : decode cX1_isIn 2 = .ok (.ishr, 1) := by decide +kernel
theorem dX1_isIn_3 : decode cX1_isIn 3 = .ok (.iconst 1, 1) := by decide +kernel
theorem dX1_isIn_4 : decode cX1_isIn 4 = .ok (.iand, 1) := by decide +kernel
theorem dX1_isIn_5 : decode cX1_isIn 5 = .ok (.ifCond .eq 7, 3) := by decide +kernel
theorem dX1_isIn_8 : decode cX1_isIn 8 = .ok (.iconst 1, 1) := by decide +kernel
theorem dX1_isIn_9 : decode cX1_isIn 9 = .ok (.goto 4, 3) := by decide +kernel
theorem dX1_isIn_12 : decode cX1_isIn 12 = .ok (.iconst 0, 1) := by decide +kernel
theorem dX1_isIn_13 : decode cX1_isIn 13 = .ok (.ireturn, 1) := by decide +kernel
abbrev cX1_changed : ByteArray := prog_3_method_6_code
def yX1_changed : MethodName := ⟨RX1, "changed", "(IIZ)I"⟩
def wkX1_changed : List Cond := .code yX1_changed cX1_changed 3 (some .int) :: qW
set_option maxRecDepth 40000 in
theorem gkX1_changed : GoodIn qW wkX1_changed := q_good (qw 329 rfl rfl)
set_option maxRecDepth 40000 in
theorem ksX1_changed : Cond.static yX1_changed ∈ qW := qw 328 rfl rfl
theorem dX1_changed_0 : decode cX1_changed 0 = .ok (.iload_n 2, 1) := by decide +kernel
theorem dX1_changed_1 : decode cX1_changed 1 = .ok (.ifCond .eq 11, 3) := by decide +kernel
theorem dX1_changed_4 : decode cX1_changed 4 = .ok (.iload_n 0, 1) := by decide +kernel
theorem dX1_changed_5 : decode cX1_changed 5 = .ok (.iconst 1, 1) := by decide +kernel
theorem dX1_changed_6 : decode cX1_changed 6 = .ok (.iload_n 1, 1) := by decide +kernel
theorem dX1_changed_7 : decode cX1_changed 7 = .ok (.ishl, 1) := by decide +kernel
theorem dX1_changed_8 : decode cX1_changed 8 = .ok (.ior, 1) := by decide +kernel
theorem dX1_changed_9 : decode cX1_changed 9 = .ok (.goto 10, 3) := by decide +kernel
theorem dX1_changed_12 : decode cX1_changed 12 = .ok (.iload_n 0, 1) := by decide +kernel
theorem dX1_changed_13 : decode cX1_changed 13 = .ok (.iconst 1, 1) := by decide +kernel
theorem dX1_changed_14 : decode cX1_changed 14 = .ok (.iload_n 1, 1) := by decide +kernel
theorem dX1_changed_15 : decode cX1_changed 15 = .ok (.ishl, 1) := by decide +kernel
theorem dX1_changed_16 : decode cX1_changed 16 = .ok (.iconst (-1), 1) := by decide +kernel
theorem dX1_changed_17 : decode cX1_changed 17 = .ok (.ixor, 1) := by decide +kernel
theorem dX1_changed_18 : decode cX1_changed 18 = .ok (.iand, 1) := by decide +kernel
theorem dX1_changed_19 : decode cX1_changed 19 = .ok (.ireturn, 1) := by decide +kernel
abbrev rm_c_Facts_isIn : Room := { frames := 0, cells := 0, slots := 0, locals := 0 }
set_option maxHeartbeats 4000000 in
set_option maxRecDepth 100000 in
theorem c_Facts_isIn (l : Launch) (dC : Nat → ClassId) (dI : Nat → Nat → Nat) (cI cL cQ cZ : ClassId) (t : Nat) (x : Nat) (hx9 : x < 4096) (ht9 : t < 12) : Met l yX1_isIn wkX1_isIn rm_c_Facts_isIn (q_R (dC, dI) qCl (qT cI cL cQ cZ) [] [.int (nI (t)), .int (nI (x))]) (vp_Si (fun r => r = (bI (x.testBit t)))) 0 0 (fun _ => False) := by
  refine Met.ofW (cc := cX1_isIn) (maxL := 2) (ret := (some .boolean)) (by decide) rfl ?_
  intro p e s m args below meth c s₁ B hml hv
  obtain ⟨hargs, hP, hK⟩ := hv
  have hx := B.exec
  have hb := B.bytes
  have hr := B.returns
  have hts : ∀ w ∈ qW, w.before args s = true := fun w h => atoms_spec (ws := wkX1_isIn) B.pre w (List.mem_cons_of_mem _ h)
  have hown : s.vm.findClass RX1 = some m.cls := findClass_of_methodNamed B.named
  have hlocks := B.notSynchronized
  refine q_named (fun Q hQ => ?_)
  refine q_entry hargs (Nat.le_of_ble_eq_true rfl) (fun ls hl => ?_)
  have hl : lv_has ls 2 [(0, .int (nI (t))), (1, .int (nI (x)))] := hl
  refine lv_iload_n hx hb dX1_isIn_0 rfl (lv_at hl 1 rfl) ?_
  refine lv_iload_n hx hb dX1_isIn_1 rfl (lv_at hl 0 rfl) ?_
  refine lv_ishr hx hb dX1_isIn_2 ?_
  refine q_top (show ((nI (x)) >>> ((nI (t)) &&& 31)) = (nI (x / 2 ^ t)) from (shr_bit hx9 ht9)) ?_
  refine lv_iconst (v := (nI (1))) hx hb dX1_isIn_3 (by decide) ?_
  refine lv_iand hx hb dX1_isIn_4 ?_
  refine q_top (show ((nI (x / 2 ^ t)) &&& (nI (1))) = (nI (x / 2 ^ t % 2)) from (pk_andN (Nat.lt_of_le_of_lt (Nat.div_le_self x (2 ^ t)) (by omega)) 1 (by decide))) ?_
  refine q_if_eq (x := x / 2 ^ t % 2) (tgt := 12) hx hb dX1_isIn_5 (by decide) (by (have h9 := Nat.mod_lt (x / 2 ^ t) (show 2 > 0 by decide); omega)) (fun c5_1 => ?_) (fun c5_1 => ?_)
  · refine lv_iconst (v := (nI (0))) hx hb dX1_isIn_12 (by decide) ?_
    subst hQ
    exact W.zret (v := (nI (0))) hx hb hr (by decide) (fun t9 h9 _ => ⟨_, rfl, bI_0 (show x.testBit t = false from by (rw [Nat.testBit_eq_decide_div_mod_eq]; simp; omega)), h9⟩) (fun q hq => by cases hq) dX1_isIn_13
  · refine lv_iconst (v := (nI (1))) hx hb dX1_isIn_8 (by decide) ?_
    refine lv_goto (tgt := 13) hx hb dX1_isIn_9 (by decide) ?_
    subst hQ
    exact W.zret (v := (nI (1))) hx hb hr (by decide) (fun t9 h9 _ => ⟨_, rfl, bI_1 (show x.testBit t = true from by (rw [Nat.testBit_eq_decide_div_mod_eq]; simp; omega)), h9⟩) (fun q hq => by cases hq) dX1_isIn_13
abbrev rm_c_Facts_changed : Room := { frames := 0, cells := 0, slots := 0, locals := 0 }
set_option maxHeartbeats 4000000 in
set_option maxRecDepth 100000 in
theorem c_Facts_changed (l : Launch) (dC : Nat → ClassId) (dI : Nat → Nat → Nat) (cI cL cQ cZ : ClassId) (x : Nat) (t : Nat) (b : Bool) (hx9 : x < 4096) (ht9 : t < 12) : Met l yX1_changed wkX1_changed rm_c_Facts_changed (q_R (dC, dI) qCl (qT cI cL cQ cZ) [] [.int (nI (x)), .int (nI (t)), .int (bI (b))]) (vp_Si (fun r => r = (nI (f_chg x t b)))) 0 0 (fun _ => False) := by
  refine Met.ofW (cc := cX1_changed) (maxL := 3) (ret := (some .int)) (by decide) rfl ?_
  intro p e s m args below meth c s₁ B hml hv
  obtain ⟨hargs, hP, hK⟩ := hv
  have hx := B.exec
  have hb := B.bytes
  have hr := B.returns
  have hts : ∀ w ∈ qW, w.before args s = true := fun w h => atoms_spec (ws := wkX1_changed) B.pre w (List.mem_cons_of_mem _ h)
  have hown : s.vm.findClass RX1 = some m.cls := findClass_of_methodNamed B.named
  have hlocks := B.notSynchronized
  refine q_named (fun Q hQ => ?_)
  refine q_entry hargs (Nat.le_of_ble_eq_true rfl) (fun ls hl => ?_)
  have hl : lv_has ls 3 [(0, .int (nI (x))), (1, .int (nI (t))), (2, .int (bI (b)))] := hl
  refine lv_iload_n hx hb dX1_changed_0 rfl (lv_at hl 2 rfl) ?_
  refine q_ifb_eq (b := b) (tgt := 12) hx hb dX1_changed_1 (by decide) (fun c1_1 => ?_) (fun c1_1 => ?_)
  · refine lv_iload_n hx hb dX1_changed_12 rfl (lv_at hl 0 rfl) ?_
    refine lv_iconst (v := (nI (1))) hx hb dX1_changed_13 (by decide) ?_
    refine lv_iload_n hx hb dX1_changed_14 rfl (lv_at hl 1 rfl) ?_
    refine lv_ishl hx hb dX1_changed_15 ?_
    refine q_top (show ((nI (1)) <<< ((nI (t)) &&& 31)) = (nI (2 ^ t)) from (one_shl ht9)) ?_
    refine lv_iconst (v := (oI (none))) hx hb dX1_changed_16 (by decide) ?_
    refine lv_ixor hx hb dX1_changed_17 ?_
    refine lv_iand hx hb dX1_changed_18 ?_
    refine q_top (show ((nI (x)) &&& ((nI (2 ^ t)) ^^^ (oI (none)))) = (nI (x &&& (4095 ^^^ 2 ^ t))) from (i_andnot _ _ hx9 (by show 2 ^ t < 2 ^ 12; exact Nat.pow_lt_pow_right (by decide) ht9))) ?_
    subst hQ
    exact W.iret (v := (nI (x &&& (4095 ^^^ 2 ^ t)))) hx hb hr (fun t9 h9 _ => ⟨_, rfl, congrArg nI (show x &&& (4095 ^^^ 2 ^ t) = f_chg x t b from by (simp [f_chg, *])), h9⟩) (fun q hq => by cases hq) dX1_changed_19
  · refine lv_iload_n hx hb dX1_changed_4 rfl (lv_at hl 0 rfl) ?_
    refine lv_iconst (v := (nI (1))) hx hb dX1_changed_5 (by decide) ?_
    refine lv_iload_n hx hb dX1_changed_6 rfl (lv_at hl 1 rfl) ?_
    refine lv_ishl hx hb dX1_changed_7 ?_
    refine q_top (show ((nI (1)) <<< ((nI (t)) &&& 31)) = (nI (2 ^ t)) from (one_shl ht9)) ?_
    refine lv_ior hx hb dX1_changed_8 ?_
    refine lv_goto (tgt := 19) hx hb dX1_changed_9 (by decide) ?_
    refine q_top (show ((nI (x)) ||| (nI (2 ^ t))) = (nI (x ||| 2 ^ t)) from (nI_or _ _)) ?_
    subst hQ
    exact W.iret (v := (nI (x ||| 2 ^ t))) hx hb hr (fun t9 h9 _ => ⟨_, rfl, congrArg nI (show x ||| 2 ^ t = f_chg x t b from by (simp [f_chg, *])), h9⟩) (fun q hq => by cases hq) dX1_changed_19
