abbrev cJA_fill : ByteArray := prog_13_method_103_code
def yJA_fill : MethodName := ⟨RJA, "fill", "([II)V"⟩
def wkJA_fill : List Cond := .code yJA_fill cJA_fill 4 none :: qW
set_option maxRecDepth 40000 in
theorem gkJA_fill : GoodIn qW wkJA_fill := q_good (qw 496 rfl rfl)
set_option maxRecDepth 40000 in
theorem ksJA_fill : Cond.static yJA_fill ∈ qW := qw 495 rfl rfl
theorem dJA_fill_0 : decode cJA_fill 0 = .ok (.iconst 0, 1) := by decide +kernel
theorem dJA_fill_1 : decode cJA_fill 1 = .ok (.istore_n 2, 1) := by decide +kernel
theorem dJA_fill_2 : decode cJA_fill 2 = .ok (.aload_n 0, 1) := by decide +kernel
theorem dJA_fill_3 : decode cJA_fill 3 = .ok (.arraylength, 1) := by decide +kernel
theorem dJA_fill_4 : decode cJA_fill 4 = .ok (.istore_n 3, 1) := by decide +kernel
theorem dJA_fill_5 : decode cJA_fill 5 = .ok (.iload_n 2, 1) := by decide +kernel
theorem dJA_fill_6 : decode cJA_fill 6 = .ok (.iload_n 3, 1) := by decide +kernel
theorem dJA_fill_7 : decode cJA_fill 7 = .ok (.if_icmp .ge 13, 3) := by decide +kernel
theorem dJA_fill_10 : decode cJA_fill 10 = .ok (.aload_n 0, 1) := by decide +kernel
theorem dJA_fill_11 : decode cJA_fill 11 = .ok (.iload_n 2, 1) := by decide +kernel
theorem dJA_fill_12 : decode cJA_fill 12 = .ok (.iload_n 1, 1) := by decide +kernel
theorem dJA_fill_13 : decode cJA_fill 13 = .ok (.iastore, 1) := by decide +kernel
theorem dJA_fill_14 : decode cJA_fill 14 = .ok (.iinc 2 1, 3) := by decide +kernel
theorem dJA_fill_17 : decode cJA_fill 17 = .ok (.goto (-12), 3) := by decide +kernel
theorem dJA_fill_20 : decode cJA_fill 20 = .ok (.return_, 1) := by decide +kernel
abbrev rm_c_Arrays_fill : Room := { frames := 0, cells := 0, slots := 0, locals := 0 }
set_option maxHeartbeats 4000000 in
set_option maxRecDepth 100000 in
theorem c_Arrays_fill (l : Launch) (dC : Nat → ClassId) (dI : Nat → Nat → Nat) (cI cL cQ cZ : ClassId) (a1 : Nat) (n : Nat) (g0 : Nat → Option Nat) (x : Option Nat) (hn : n < 2 ^ 31) : Met l yJA_fill wkJA_fill rm_c_Arrays_fill (q_W (dC, dI) qCl (qT cI cL cQ cZ) [(a1, .inl (cI, n, .inl (oF g0)))] [.ref a1, .int (oI (x))]) (va_Qv (fun (u : Unit) => True) (fun (u : Unit) t => va_P (dC, dI) qCl [(a1, .inl (cI, n, .inl (oF (fun _ => x))))] t.heap) (q_A [(a1, .inl (cI, n, .inl (oF g0)))])) 0 0 (q_A [(a1, .inl (cI, n, .inl (oF g0)))]) := by
  refine Met.ofW (cc := cJA_fill) (maxL := 4) (ret := none) (by decide) rfl ?_
  intro p e s m args below meth c s₁ B hml hv
  obtain ⟨hargs, hP, hK, hD0⟩ := hv
  have hx := B.exec
  have hb := B.bytes
  have hr := B.returns
  have hts : ∀ w ∈ qW, w.before args s = true := fun w h => atoms_spec (ws := wkJA_fill) B.pre w (List.mem_cons_of_mem _ h)
  have hown : s.vm.findClass RJA = some m.cls := findClass_of_methodNamed B.named
  have hlocks := B.notSynchronized
  refine q_named (fun Q hQ => ?_)
  have hD : va_D (q_A [(a1, .inl (cI, n, .inl (oF g0)))]) [(a1, .inl (cI, n, .inl (oF g0)))] := ⟨hD0.1, fun k q h => ⟨k, q.2, h⟩⟩
  generalize hAe : q_A [(a1, .inl (cI, n, .inl (oF g0)))] = A at hD
  have hS : va_S A s.heap s.heap [] := va_S.rf
  refine q_entry hargs (Nat.le_of_ble_eq_true rfl) (fun ls hl => ?_)
  have hl : lv_has ls 4 [(0, .ref a1), (1, .int (oI (x)))] := hl
  obtain ⟨H, locs, eH, eL⟩ : ∃ (H : Heap) (locs : List Loc), s.heap = H ∧ ([] : List Loc) = locs := ⟨_, _, rfl, rfl⟩
  have hS : va_S A s.heap H locs := by rw [← eH, ← eL]; exact hS
  have hP : va_P (dC, dI) qCl [(a1, .inl (cI, n, .inl (oF g0)))] H := by rw [← eH]; exact hP
  refine W_at eH eL ?_
  refine lv_iconst (v := (nI (0))) hx hb dJA_fill_0 (by decide) ?_
  refine lv_istore_n (lv' := [(2, .int (nI (0))), (0, .ref a1), (1, .int (oI (x)))]) hx hb dJA_fill_1 rfl hl (by decide) rfl (fun ls hl => ?_)
  refine lv_aload_n hx hb dJA_fill_2 rfl (lv_at hl 1 rfl) ?_
  refine va_alen (v := nI n) hx hb hK hP 0 0 rfl rfl rfl dJA_fill_3 ?_
  refine lv_istore_n (lv' := [(3, .int (nI (n))), (2, .int (nI (0))), (0, .ref a1), (1, .int (oI (x)))]) hx hb dJA_fill_4 rfl hl (by decide) rfl (fun ls hl => ?_)
  have L5 : ∀ (fu : Nat) (g : Nat → Option Nat) (i : Nat) (ls : Array Slot) (H : Heap) (locs : List Loc), n - i < fu → (∀ j, j < i → g j = x) → (i ≤ n) → lv_has ls 4 [(3, .int (nI (n))), (2, .int (nI (i))), (0, .ref a1), (1, .int (oI (x)))] → va_P (dC, dI) qCl [(a1, .inl (cI, n, .inl (oF g)))] H → va_D A [(a1, .inl (cI, n, .inl (oF g)))] → va_S A s.heap H locs → W p l e (headSpec wkJA_fill rm_c_Arrays_fill).room s m args below meth c H locs 0 0 Q (F0 m 5 ls []) := by
    intro fu
    induction fu with
    | zero => intro g i ls H locs hmu; exact absurd hmu (Nat.not_lt_zero _)
    | succ fu ih5 =>
      intro g i ls H locs hmu hg hi hl hP hD hS
      refine lv_iload_n hx hb dJA_fill_5 rfl (lv_at hl 1 rfl) ?_
      refine lv_iload_n hx hb dJA_fill_6 rfl (lv_at hl 0 rfl) ?_
      refine q_icmp_ge (x := i) (y := n) (tgt := 20) hx hb dJA_fill_7 (by decide) (by omega) (by omega) (fun c7_1 => ?_) (fun c7_1 => ?_)
      · have hP := q_ext hP 0 rfl (f' := oF (fun _ => x)) (fun j hj => congrArg oI (show g j = (fun _ => x) j from by (exact hg j (by omega))))
        have hD := q_Daddr (w' := [(a1, .inl (cI, n, .inl (oF (fun _ => x))))]) hD rfl
        have hP : va_P (dC, dI) qCl [(a1, .inl (cI, n, .inl (oF (fun _ => x))))] H := hP
        have hD : va_D A [(a1, .inl (cI, n, .inl (oF (fun _ => x))))] := hD
        subst hQ
        subst hAe
        have hP9 := hP.sub (ws' := [(a1, .inl (cI, n, .inl (oF (fun _ => x))))]) [0] rfl
        exact W.vret hx hb hr (fun t9 h9 _ => ⟨⟨(), rfl, trivial, by show va_P _ _ _ t9.heap; rw [h9]; exact hP9⟩, hS.F h9⟩) hS.2.2 dJA_fill_20
      · refine lv_aload_n hx hb dJA_fill_10 rfl (lv_at hl 2 rfl) ?_
        refine lv_iload_n hx hb dJA_fill_11 rfl (lv_at hl 1 rfl) ?_
        refine lv_iload_n hx hb dJA_fill_12 rfl (lv_at hl 3 rfl) ?_
        refine q_iastO hx hb hK hP hD hS 0 0 rfl rfl (j := i) (x := x) (by omega) (by omega) dJA_fill_13 (fun H locs hP hD hS => ?_)
        have hP : va_P (dC, dI) qCl [(a1, .inl (cI, n, .inl (oF (va_up g i x))))] H := hP
        have hD : va_D A [(a1, .inl (cI, n, .inl (oF (va_up g i x))))] := hD
        refine lv_iinc (v := (nI (i + 1))) (lv' := [(2, .int (nI (i + 1))), (3, .int (nI (n))), (0, .ref a1), (1, .int (oI (x)))]) hx hb dJA_fill_14 hl (k := 1) rfl (q_inc _) (by decide) rfl (fun ls hl => ?_)
        refine lv_goto (tgt := 5) hx hb dJA_fill_17 (by decide) ?_
        exact ih5 (va_up g i x) (i + 1) ls _ _ (by omega) (show ∀ j, j < (i + 1) → (va_up g i x) j = x from by (exact up_all hg)) (show (i + 1) ≤ n from by omega) (lv_sub hl [1, 0, 2, 3] rfl) (hP.sub [0] rfl) (hD.sub [0] (by decide) rfl) hS
  exact L5 _ g0 0 ls _ _ (by exact Nat.lt_succ_self _) (show ∀ j, j < 0 → g0 j = x from by (intro j hj; omega)) (show 0 ≤ n from by omega) (lv_sub hl [0, 1, 2, 3] rfl) (hP.sub [0] rfl) (hD.sub [0] (by decide) rfl) hS
