section QLA
variable {p : Program} {l : Launch} {e : Env} {R : Room} {s : State} {m : MethodId} {args : Array Value} {below : List Frame} {meth : Method} {c : Code} {H : Heap} {locs : List Loc} {cells slots : Nat} {Q : State → Prop}
variable {cc : ByteArray} {pc : Nat} {ls : Array Slot} {rest : List Value} {D : va_G} {cl : List vw_C} {A : Nat → Prop} {a : Nat} {tys : List (ClassId × FieldType)} {ws : va_W} {H0 : Heap}
theorem q_lastN (hexec : p.tables.exec = Jvm.exec) (hb : c.code = cc) (hK : va_K D cl tys s) (hP : va_P D cl ws H) (hD : va_D A ws) (hS : va_S A H0 H locs) (q0 t0 : Nat) {cA : ClassId} {n : Nat} {g : Nat → Nat} (ha : ws[q0]? = some (a, .inl (cA, n, .inr (.inl (lF g))))) (ht : tys[t0]? = some (cA, .long)) {j x : Nat} (hj : j < n) (hn : n < 2 ^ 31) (hdg : decode cc pc = .ok (.lastore, 1))
    (kk : ∀ (H1 : Heap) (locs1 : List Loc), va_P D cl (ws.set q0 (a, .inl (cA, n, .inr (.inl (lF (va_up g j x)))))) H1 → va_D A (ws.set q0 (a, .inl (cA, n, .inr (.inl (lF (va_up g j x)))))) → va_S A H0 H1 locs1 → W p l e R s m args below meth c H1 locs1 cells slots Q (F0 m (pc + 1) ls rest)) : W p l e R s m args below meth c H locs cells slots Q (F0 m pc ls (.long (lN x) :: .int (nI j) :: .ref a :: rest)) :=
  va_last hexec hb hK hP hD hS q0 t0 ha ht (vp_in_nI hj hn) hdg (fun H1 L1 h1 h2 h3 => by rw [nI_clamp (Nat.lt_trans hj hn), lF_up] at h1 h2; exact kk H1 L1 h1 h2 h3)
end QLA
theorem lg_cmp0 {a b : Nat} (ha : a < 2 ^ 63) (hb : b < 2 ^ 63) : lg_cmp (lN a) (lN b) = 0 ↔ a = b := by
  unfold lg_cmp
  by_cases h1 : lN a > lN b
  · rw [if_pos h1]
    have : b < a := (pk_lLT hb ha).mp h1
    exact ⟨fun h => absurd h (by decide), fun h => by omega⟩
  · rw [if_neg h1]
    by_cases h2 : lN a = lN b
    · rw [if_pos h2]; exact ⟨fun _ => (pk_lEQ ha hb).mp h2, fun _ => rfl⟩
    · rw [if_neg h2]; exact ⟨fun h => absurd h (by decide), fun h => absurd (congrArg lN h) h2⟩
def f_new (rs : Nat → Nat) (sz w : Nat) : Prop := ∀ i, i < sz → rs i ≠ w
def f_come (rs : Nat → Nat) (sz w : Nat) (lg : Bool) (sz1 : Nat) (lg1 : Bool) (rs1 : Nat → Nat) : Prop :=
  (¬ f_new rs sz w ∧ sz1 = sz ∧ lg1 = lg ∧ rs1 = rs) ∨ (f_new rs sz w ∧ 90 ≤ sz ∧ sz1 = sz ∧ lg1 = true ∧ rs1 = rs) ∨ (f_new rs sz w ∧ sz < 90 ∧ sz1 = sz + 1 ∧ lg1 = lg ∧ rs1 = va_up rs sz w)
abbrev cX6_comes : ByteArray := prog_8_method_5_code
def yX6_comes : MethodName := ⟨RX6, "comes", "(LQlRewrite$Question;J)V"⟩
def wkX6_comes : List Cond := .code yX6_comes cX6_comes 5 none :: qW
set_option maxRecDepth 40000 in
theorem gkX6_comes : GoodIn qW wkX6_comes := q_good (qw 423 rfl rfl)
set_option maxRecDepth 40000 in
theorem knX6_comes : Cond.instanceMethod yX6_comes ∈ qW := qw 422 rfl rfl
set_option maxRecDepth 40000 in
theorem klX6_comes : Cond.selects RX6 yX6_comes yX6_comes ∈ qW := qw 5 rfl rfl
theorem dX6_comes_0 : decode cX6_comes 0 = .ok (.iconst 0, 1) := by decide +kernel
theorem dX6_comes_1 : decode cX6_comes 1 = .ok (.istore 4, 2) := by decide +kernel
theorem dX6_comes_3 : decode cX6_comes 3 = .ok (.iload 4, 2) := by decide +kernel
theorem dX6_comes_5 : decode cX6_comes 5 = .ok (.aload_n 1, 1) := by decide +kernel
theorem dX6_comes_6 : decode cX6_comes 6 = .ok (.getfield 32, 3) := by decide +kernel
theorem dX6_comes_9 : decode cX6_comes 9 = .ok (.if_icmp .ge 22, 3) := by decide +kernel
theorem dX6_comes_12 : decode cX6_comes 12 = .ok (.aload_n 1, 1) := by decide +kernel
theorem dX6_comes_13 : decode cX6_comes 13 = .ok (.getfield 57, 3) := by decide +kernel
theorem dX6_comes_16 : decode cX6_comes 16 = .ok (.iload 4, 2) := by decide +kernel
theorem dX6_comes_18 : decode cX6_comes 18 = .ok (.laload, 1) := by decide +kernel
theorem dX6_comes_19 : decode cX6_comes 19 = .ok (.lload_n 2, 1) := by decide +kernel
theorem dX6_comes_20 : decode cX6_comes 20 = .ok (.lcmp, 1) := by decide +kernel
theorem dX6_comes_21 : decode cX6_comes 21 = .ok (.ifCond .ne 4, 3) := by decide +kernel
theorem dX6_comes_24 : decode cX6_comes 24 = .ok (.return_, 1) := by decide +kernel
theorem dX6_comes_25 : decode cX6_comes 25 = .ok (.iinc 4 1, 3) := by decide +kernel
theorem dX6_comes_28 : decode cX6_comes 28 = .ok (.goto (-25), 3) := by decide +kernel
theorem dX6_comes_31 : decode cX6_comes 31 = .ok (.aload_n 1, 1) := by decide +kernel
theorem dX6_comes_32 : decode cX6_comes 32 = .ok (.getfield 32, 3) := by decide +kernel
theorem dX6_comes_35 : decode cX6_comes 35 = .ok (.bipush 90, 2) := by decide +kernel
theorem dX6_comes_37 : decode cX6_comes 37 = .ok (.if_icmp .lt 9, 3) := by decide +kernel
theorem dX6_comes_40 : decode cX6_comes 40 = .ok (.aload_n 1, 1) := by decide +kernel
theorem dX6_comes_41 : decode cX6_comes 41 = .ok (.iconst 1, 1) := by decide +kernel
theorem dX6_comes_42 : decode cX6_comes 42 = .ok (.putfield 38, 3) := by decide +kernel
theorem dX6_comes_45 : decode cX6_comes 45 = .ok (.return_, 1) := by decide +kernel
theorem dX6_comes_46 : decode cX6_comes 46 = .ok (.aload_n 1, 1) := by decide +kernel
theorem dX6_comes_47 : decode cX6_comes 47 = .ok (.getfield 57, 3) := by decide +kernel
theorem dX6_comes_50 : decode cX6_comes 50 = .ok (.aload_n 1, 1) := by decide +kernel
theorem dX6_comes_51 : decode cX6_comes 51 = .ok (.getfield 32, 3) := by decide +kernel
theorem dX6_comes_54 : decode cX6_comes 54 = .ok (.lload_n 2, 1) := by decide +kernel
theorem dX6_comes_55 : decode cX6_comes 55 = .ok (.lastore, 1) := by decide +kernel
theorem dX6_comes_56 : decode cX6_comes 56 = .ok (.aload_n 1, 1) := by decide +kernel
theorem dX6_comes_57 : decode cX6_comes 57 = .ok (.dup, 1) := by decide +kernel
theorem dX6_comes_58 : decode cX6_comes 58 = .ok (.getfield 32, 3) := by decide +kernel
theorem dX6_comes_61 : decode cX6_comes 61 = .ok (.iconst 1, 1) := by decide +kernel
theorem dX6_comes_62 : decode cX6_comes 62 = .ok (.iadd, 1) := by decide +kernel
theorem dX6_comes_63 : decode cX6_comes 63 = .ok (.putfield 32, 3) := by decide +kernel
theorem dX6_comes_66 : decode cX6_comes 66 = .ok (.return_, 1) := by decide +kernel
set_option maxRecDepth 40000 in
theorem kfX6_32 : Cond.fieldLink RX6 32 "QlRewrite$Question" "size" "I" ∈ qW := qw 168 rfl rfl
set_option maxRecDepth 40000 in
theorem kfX6_57 : Cond.fieldLink RX6 57 "QlRewrite$Question" "rows" "[J" ∈ qW := qw 165 rfl rfl
set_option maxRecDepth 40000 in
theorem kfX6_38 : Cond.fieldLink RX6 38 "QlRewrite$Question" "large" "Z" ∈ qW := qw 172 rfl rfl
abbrev rm_c_Rewriter_comes : Room := { frames := 0, cells := 0, slots := 0, locals := 0 }
set_option maxHeartbeats 4000000 in
set_option maxRecDepth 100000 in
theorem c_Rewriter_comes (l : Launch) (dC : Nat → ClassId) (dI : Nat → Nat → Nat) (cI cL cQ cZ : ClassId) (w0 : Nat) (ax0 : Nat) (nr0 : Nat) (fr0 : Nat) (nx0 : Nat) (q0 : Nat) (ow : Nat) (an : Nat) (ra : Nat) (sz : Nat) (lg : Bool) (rw9 : Bool) (fa : Nat) (se : Bool) (rs : Nat → Nat) (w : Nat) (hsz : sz ≤ 90) (hrs : ∀ j7, rs j7 < 2 ^ 52) (hw : w < 2 ^ 52) : Met l yX6_comes wkX6_comes rm_c_Rewriter_comes (q_W (dC, dI) qCl (qT cI cL cQ cZ) [(w0, .inr (6, [.ref ax0, .ref nr0, .ref fr0, .ref nx0])), (q0, .inr (5, [.ref ow, .int (nI (an)), .ref ra, .int (nI (sz)), .int (bI (lg)), .int (bI (rw9)), .ref fa, .int (bI (se))])), (ra, .inl (cL, 90, .inr (.inl (lF rs))))] [.ref w0, .ref q0, .long (lN (w))]) (va_Qv (fun (u : Nat × Bool × (Nat → Nat)) => (f_come rs sz w lg u.1 u.2.1 u.2.2)) (fun (u : Nat × Bool × (Nat → Nat)) t => va_P (dC, dI) qCl [(w0, .inr (6, [.ref ax0, .ref nr0, .ref fr0, .ref nx0])), (q0, .inr (5, [.ref ow, .int (nI (an)), .ref ra, .int (nI (u.1)), .int (bI (u.2.1)), .int (bI (rw9)), .ref fa, .int (bI (se))])), (ra, .inl (cL, 90, .inr (.inl (lF u.2.2))))] t.heap) (q_A [(w0, .inr (6, [.ref ax0, .ref nr0, .ref fr0, .ref nx0])), (q0, .inr (5, [.ref ow, .int (nI (an)), .ref ra, .int (nI (sz)), .int (bI (lg)), .int (bI (rw9)), .ref fa, .int (bI (se))])), (ra, .inl (cL, 90, .inr (.inl (lF rs))))])) 0 0 (q_A [(w0, .inr (6, [.ref ax0, .ref nr0, .ref fr0, .ref nx0])), (q0, .inr (5, [.ref ow, .int (nI (an)), .ref ra, .int (nI (sz)), .int (bI (lg)), .int (bI (rw9)), .ref fa, .int (bI (se))])), (ra, .inl (cL, 90, .inr (.inl (lF rs))))]) := by
  refine Met.ofW (cc := cX6_comes) (maxL := 5) (ret := none) (by decide) rfl ?_
  intro p e s m args below meth c s₁ B hml hv
  obtain ⟨hargs, hP, hK, hD0⟩ := hv
  have hx := B.exec
  have hb := B.bytes
  have hr := B.returns
  have hts : ∀ w ∈ qW, w.before args s = true := fun w h => atoms_spec (ws := wkX6_comes) B.pre w (List.mem_cons_of_mem _ h)
  have hown : s.vm.findClass RX6 = some m.cls := findClass_of_methodNamed B.named
  have hlocks := B.notSynchronized
  refine q_named (fun Q hQ => ?_)
  have hD : va_D (q_A [(w0, .inr (6, [.ref ax0, .ref nr0, .ref fr0, .ref nx0])), (q0, .inr (5, [.ref ow, .int (nI (an)), .ref ra, .int (nI (sz)), .int (bI (lg)), .int (bI (rw9)), .ref fa, .int (bI (se))])), (ra, .inl (cL, 90, .inr (.inl (lF rs))))]) [(w0, .inr (6, [.ref ax0, .ref nr0, .ref fr0, .ref nx0])), (q0, .inr (5, [.ref ow, .int (nI (an)), .ref ra, .int (nI (sz)), .int (bI (lg)), .int (bI (rw9)), .ref fa, .int (bI (se))])), (ra, .inl (cL, 90, .inr (.inl (lF rs))))] := ⟨hD0.1, fun k q h => ⟨k, q.2, h⟩⟩
  generalize hAe : q_A [(w0, .inr (6, [.ref ax0, .ref nr0, .ref fr0, .ref nx0])), (q0, .inr (5, [.ref ow, .int (nI (an)), .ref ra, .int (nI (sz)), .int (bI (lg)), .int (bI (rw9)), .ref fa, .int (bI (se))])), (ra, .inl (cL, 90, .inr (.inl (lF rs))))] = A at hD
  have hS : va_S A s.heap s.heap [] := va_S.rf
  refine q_entry hargs (Nat.le_of_ble_eq_true rfl) (fun ls hl => ?_)
  have hl : lv_has ls 5 [(0, .ref w0), (1, .ref q0), (2, .long (lN (w)))] := hl
  obtain ⟨H, locs, eH, eL⟩ : ∃ (H : Heap) (locs : List Loc), s.heap = H ∧ ([] : List Loc) = locs := ⟨_, _, rfl, rfl⟩
  have hS : va_S A s.heap H locs := by rw [← eH, ← eL]; exact hS
  have hP : va_P (dC, dI) qCl [(w0, .inr (6, [.ref ax0, .ref nr0, .ref fr0, .ref nx0])), (q0, .inr (5, [.ref ow, .int (nI (an)), .ref ra, .int (nI (sz)), .int (bI (lg)), .int (bI (rw9)), .ref fa, .int (bI (se))])), (ra, .inl (cL, 90, .inr (.inl (lF rs))))] H := by rw [← eH]; exact hP
  refine W_at eH eL ?_
  refine lv_iconst (v := (nI (0))) hx hb dX6_comes_0 (by decide) ?_
  refine lv_istore (lv' := [(4, .int (nI (0))), (0, .ref w0), (1, .ref q0), (2, .long (lN (w)))]) hx hb dX6_comes_1 hl (by decide) rfl (fun ls hl => ?_)
  have L3 : ∀ (fu : Nat) (i : Nat) (ls : Array Slot) (H : Heap) (locs : List Loc), sz - i < fu → (i ≤ sz) → (f_new rs i w) → lv_has ls 5 [(4, .int (nI (i))), (0, .ref w0), (1, .ref q0), (2, .long (lN (w)))] → va_P (dC, dI) qCl [(w0, .inr (6, [.ref ax0, .ref nr0, .ref fr0, .ref nx0])), (q0, .inr (5, [.ref ow, .int (nI (an)), .ref ra, .int (nI (sz)), .int (bI (lg)), .int (bI (rw9)), .ref fa, .int (bI (se))])), (ra, .inl (cL, 90, .inr (.inl (lF rs))))] H → va_D A [(w0, .inr (6, [.ref ax0, .ref nr0, .ref fr0, .ref nx0])), (q0, .inr (5, [.ref ow, .int (nI (an)), .ref ra, .int (nI (sz)), .int (bI (lg)), .int (bI (rw9)), .ref fa, .int (bI (se))])), (ra, .inl (cL, 90, .inr (.inl (lF rs))))] → va_S A s.heap H locs → W p l e (headSpec wkX6_comes rm_c_Rewriter_comes).room s m args below meth c H locs 0 0 Q (F0 m 3 ls []) := by
    intro fu
    induction fu with
    | zero => intro i ls H locs hmu; exact absurd hmu (Nat.not_lt_zero _)
    | succ fu ih3 =>
      intro i ls H locs hmu hi hn9 hl hP hD hS
      refine lv_iload hx hb dX6_comes_3 (lv_at hl 0 rfl) ?_
      refine lv_aload_n hx hb dX6_comes_5 rfl (lv_at hl 2 rfl) ?_
      refine va_get (D := (dC, dI)) (ci := 5) (v := .int (nI (sz))) (C := RX5) (T := TX5) (N := 8) hx hb hts uX5 hown hK hP 1 rfl rfl 3 (by decide) (hts _ kfX6_32) (fun _ h9 => h9) rfl dX6_comes_6 ?_
      refine q_icmp_ge (x := i) (y := sz) (tgt := 31) hx hb dX6_comes_9 (by decide) (by omega) (by omega) (fun c9_1 => ?_) (fun c9_1 => ?_)
      · refine lv_aload_n hx hb dX6_comes_31 rfl (lv_at hl 2 rfl) ?_
        refine va_get (D := (dC, dI)) (ci := 5) (v := .int (nI (sz))) (C := RX5) (T := TX5) (N := 8) hx hb hts uX5 hown hK hP 1 rfl rfl 3 (by decide) (hts _ kfX6_32) (fun _ h9 => h9) rfl dX6_comes_32 ?_
        refine lv_bipush (v := (nI (90))) hx hb dX6_comes_35 (by decide) ?_
        refine q_icmp_lt (x := sz) (y := 90) (tgt := 46) hx hb dX6_comes_37 (by decide) (by omega) (by omega) (fun c37_2 => ?_) (fun c37_2 => ?_)
        · refine lv_aload_n hx hb dX6_comes_46 rfl (lv_at hl 2 rfl) ?_
          refine va_get (D := (dC, dI)) (ci := 5) (v := .ref ra) (C := RX5) (T := TX5) (N := 8) hx hb hts uX5 hown hK hP 1 rfl rfl 2 (by decide) (hts _ kfX6_57) (fun _ h9 => h9) rfl dX6_comes_47 ?_
          refine lv_aload_n hx hb dX6_comes_50 rfl (lv_at hl 2 rfl) ?_
          refine va_get (D := (dC, dI)) (ci := 5) (v := .int (nI (sz))) (C := RX5) (T := TX5) (N := 8) hx hb hts uX5 hown hK hP 1 rfl rfl 3 (by decide) (hts _ kfX6_32) (fun _ h9 => h9) rfl dX6_comes_51 ?_
          refine lv_lload_n hx hb dX6_comes_54 rfl (lv_at hl 3 rfl) ?_
          refine q_lastN hx hb hK hP hD hS 2 1 rfl rfl (j := sz) (x := w) (by omega) (by omega) dX6_comes_55 (fun H locs hP hD hS => ?_)
          have hP : va_P (dC, dI) qCl [(w0, .inr (6, [.ref ax0, .ref nr0, .ref fr0, .ref nx0])), (q0, .inr (5, [.ref ow, .int (nI (an)), .ref ra, .int (nI (sz)), .int (bI (lg)), .int (bI (rw9)), .ref fa, .int (bI (se))])), (ra, .inl (cL, 90, .inr (.inl (lF (va_up rs sz w)))))] H := hP
          have hD : va_D A [(w0, .inr (6, [.ref ax0, .ref nr0, .ref fr0, .ref nx0])), (q0, .inr (5, [.ref ow, .int (nI (an)), .ref ra, .int (nI (sz)), .int (bI (lg)), .int (bI (rw9)), .ref fa, .int (bI (se))])), (ra, .inl (cL, 90, .inr (.inl (lF (va_up rs sz w)))))] := hD
          refine lv_aload_n hx hb dX6_comes_56 rfl (lv_at hl 2 rfl) ?_
          refine lv_dup hx hb dX6_comes_57 rfl ?_
          refine va_get (D := (dC, dI)) (ci := 5) (v := .int (nI (sz))) (C := RX5) (T := TX5) (N := 8) hx hb hts uX5 hown hK hP 1 rfl rfl 3 (by decide) (hts _ kfX6_32) (fun _ h9 => h9) rfl dX6_comes_58 ?_
          refine lv_iconst (v := (nI (1))) hx hb dX6_comes_61 (by decide) ?_
          refine q_iadd (x := sz) (y := 1) hx hb dX6_comes_62 ?_
          refine va_put (D := (dC, dI)) (ci := 5) (v := .int (nI (sz + 1))) (ty := .int) (C := RX5) (T := TX5) (N := 8) hx hb hts uX5 tyX5 tyX5_ok nmX5 hown hK hP hD hS 1 rfl rfl 3 (by decide) (hts _ kfX6_32) (fun _ h9 => h9) rfl (by decide +kernel) (rfl) (rfl) (Nat.le_of_ble_eq_true rfl) dX6_comes_63 (fun H locs hP hD hS => ?_)
          have hP : va_P (dC, dI) qCl [(w0, .inr (6, [.ref ax0, .ref nr0, .ref fr0, .ref nx0])), (q0, .inr (5, [.ref ow, .int (nI (an)), .ref ra, .int (nI (sz + 1)), .int (bI (lg)), .int (bI (rw9)), .ref fa, .int (bI (se))])), (ra, .inl (cL, 90, .inr (.inl (lF (va_up rs sz w)))))] H := hP
          have hD : va_D A [(w0, .inr (6, [.ref ax0, .ref nr0, .ref fr0, .ref nx0])), (q0, .inr (5, [.ref ow, .int (nI (an)), .ref ra, .int (nI (sz + 1)), .int (bI (lg)), .int (bI (rw9)), .ref fa, .int (bI (se))])), (ra, .inl (cL, 90, .inr (.inl (lF (va_up rs sz w)))))] := hD
          subst hQ
          subst hAe
          have hP9 := hP.sub (ws' := [(w0, .inr (6, [.ref ax0, .ref nr0, .ref fr0, .ref nx0])), (q0, .inr (5, [.ref ow, .int (nI (an)), .ref ra, .int (nI (sz + 1)), .int (bI (lg)), .int (bI (rw9)), .ref fa, .int (bI (se))])), (ra, .inl (cL, 90, .inr (.inl (lF (va_up rs sz w)))))]) [0, 1, 2] rfl
          exact W.vret hx hb hr (fun t9 h9 _ => ⟨⟨(sz + 1, lg, va_up rs sz w), rfl, (show f_come rs sz w lg (sz + 1) lg (va_up rs sz w) from by (exact Or.inr (Or.inr ⟨by rw [show sz = i by omega]; exact hn9, by omega, rfl, rfl, rfl⟩))), by show va_P _ _ _ t9.heap; rw [h9]; exact hP9⟩, hS.F h9⟩) hS.2.2 dX6_comes_66
        · refine lv_aload_n hx hb dX6_comes_40 rfl (lv_at hl 2 rfl) ?_
          refine lv_iconst (v := (nI (1))) hx hb dX6_comes_41 (by decide) ?_
          refine va_put (D := (dC, dI)) (ci := 5) (v := .int (bI (true))) (ty := .boolean) (C := RX5) (T := TX5) (N := 8) hx hb hts uX5 tyX5 tyX5_ok nmX5 hown hK hP hD hS 1 rfl rfl 4 (by decide) (hts _ kfX6_38) (fun _ h9 => h9) rfl (by decide +kernel) (bI_nar _) (rfl) (Nat.le_of_ble_eq_true rfl) dX6_comes_42 (fun H locs hP hD hS => ?_)
          have hP : va_P (dC, dI) qCl [(w0, .inr (6, [.ref ax0, .ref nr0, .ref fr0, .ref nx0])), (q0, .inr (5, [.ref ow, .int (nI (an)), .ref ra, .int (nI (sz)), .int (bI (true)), .int (bI (rw9)), .ref fa, .int (bI (se))])), (ra, .inl (cL, 90, .inr (.inl (lF rs))))] H := hP
          have hD : va_D A [(w0, .inr (6, [.ref ax0, .ref nr0, .ref fr0, .ref nx0])), (q0, .inr (5, [.ref ow, .int (nI (an)), .ref ra, .int (nI (sz)), .int (bI (true)), .int (bI (rw9)), .ref fa, .int (bI (se))])), (ra, .inl (cL, 90, .inr (.inl (lF rs))))] := hD
          subst hQ
          subst hAe
          have hP9 := hP.sub (ws' := [(w0, .inr (6, [.ref ax0, .ref nr0, .ref fr0, .ref nx0])), (q0, .inr (5, [.ref ow, .int (nI (an)), .ref ra, .int (nI (sz)), .int (bI (true)), .int (bI (rw9)), .ref fa, .int (bI (se))])), (ra, .inl (cL, 90, .inr (.inl (lF rs))))]) [0, 1, 2] rfl
          exact W.vret hx hb hr (fun t9 h9 _ => ⟨⟨(sz, true, rs), rfl, (show f_come rs sz w lg sz true rs from by (exact Or.inr (Or.inl ⟨by rw [show sz = i by omega]; exact hn9, by omega, rfl, rfl, rfl⟩))), by show va_P _ _ _ t9.heap; rw [h9]; exact hP9⟩, hS.F h9⟩) hS.2.2 dX6_comes_45
      · refine lv_aload_n hx hb dX6_comes_12 rfl (lv_at hl 2 rfl) ?_
        refine va_get (D := (dC, dI)) (ci := 5) (v := .ref ra) (C := RX5) (T := TX5) (N := 8) hx hb hts uX5 hown hK hP 1 rfl rfl 2 (by decide) (hts _ kfX6_57) (fun _ h9 => h9) rfl dX6_comes_13 ?_
        refine lv_iload hx hb dX6_comes_16 (lv_at hl 0 rfl) ?_
        refine q_laldN hx hb hK hP 2 1 rfl rfl (j := i) (by omega) (by omega) dX6_comes_18 ?_
        have bd3 := hrs i
        refine lv_lload_n hx hb dX6_comes_19 rfl (lv_at hl 3 rfl) ?_
        refine W.lcmp hx hb dX6_comes_20 ?_
        refine lv_if_ne (tgt := 25) hx hb dX6_comes_21 (by decide) (fun c21_4 => ?_) (fun c21_4 => ?_)
        · refine lv_iinc (v := (nI (i + 1))) (lv' := [(4, .int (nI (i + 1))), (0, .ref w0), (1, .ref q0), (2, .long (lN (w)))]) hx hb dX6_comes_25 hl (k := 0) rfl (q_inc _) (by decide) rfl (fun ls hl => ?_)
          refine lv_goto (tgt := 3) hx hb dX6_comes_28 (by decide) ?_
          exact ih3 (i + 1) ls _ _ (by omega) (show (i + 1) ≤ sz from by omega) (show f_new rs (i + 1) w from by (exact lt_s hn9 (fun h9 => absurd ((lg_cmp0 (by omega) (by omega)).mpr h9) (by simpa using ‹¬ lg_cmp (lN (rs i)) (lN w) = 0›)))) (lv_sub hl [0, 1, 2, 3] rfl) (hP.sub [0, 1, 2] rfl) (hD.sub [0, 1, 2] (by decide) rfl) hS
        · subst hQ
          subst hAe
          have hP9 := hP.sub (ws' := [(w0, .inr (6, [.ref ax0, .ref nr0, .ref fr0, .ref nx0])), (q0, .inr (5, [.ref ow, .int (nI (an)), .ref ra, .int (nI (sz)), .int (bI (lg)), .int (bI (rw9)), .ref fa, .int (bI (se))])), (ra, .inl (cL, 90, .inr (.inl (lF rs))))]) [0, 1, 2] rfl
          exact W.vret hx hb hr (fun t9 h9 _ => ⟨⟨(sz, lg, rs), rfl, (show f_come rs sz w lg sz lg rs from by (exact Or.inl ⟨fun h9 => h9 i (by omega) ((lg_cmp0 (by omega) (by omega)).mp (by simpa using ‹_›)), rfl, rfl, rfl⟩)), by show va_P _ _ _ t9.heap; rw [h9]; exact hP9⟩, hS.F h9⟩) hS.2.2 dX6_comes_24
  exact L3 _ 0 ls _ _ (by exact Nat.lt_succ_self _) (show 0 ≤ sz from by omega) (show f_new rs 0 w from by (intro j hj; omega)) (lv_sub hl [0, 1, 2, 3] rfl) (hP.sub [0, 1, 2] rfl) (hD.sub [0, 1, 2] (by decide) rfl) hS
