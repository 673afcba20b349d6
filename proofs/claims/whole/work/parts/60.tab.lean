/-! The tables that nobody writes: the orders, and how many of them -/
def q_Tb (A : Nat → Prop) (U : State) (H : Heap) : Prop := ∃ t1 t2 : Nat, va_Z RX4 "ORDERS" "[I" (.ref t1) A U H ∧ va_T .int t1 96 (fun j => .int (nI (c_ord j))) A U H ∧ va_Z RX4 "ORDERS_OF" "[I" (.ref t2) A U H ∧ va_T .int t2 5 (fun j => .int (nI (c_ways j))) A U H
theorem q_Tb_moved {A : Nat → Prop} {u U : State} {H : Heap} (hvm : u.vm.Alike U.vm) (h : q_Tb A u H) : q_Tb A U H := by
  obtain ⟨t1, t2, h1, h2, h3, h4⟩ := h
  exact ⟨t1, t2, h1.moved hvm, h2.moved hvm, h3.moved hvm, h4.moved hvm⟩
theorem q_Tb_kept {A : Nat → Prop} {U : State} {H H1 : Heap} (h : q_Tb A U H) (hq : ∀ a : Nat, a < H.size → ¬ A a → H1[a]? = H[a]?) : q_Tb A U H1 := by
  obtain ⟨t1, t2, h1, h2, h3, h4⟩ := h
  exact ⟨t1, t2, h1.kept hq, h2.kept hq, h3.kept hq, h4.kept hq⟩
theorem q_Tb_narrow {A B : Nat → Prop} {U : State} {H : Heap} (h : q_Tb A U H) (hAB : ∀ q, B q → A q) : q_Tb B U H := by
  obtain ⟨t1, t2, h1, h2, h3, h4⟩ := h
  exact ⟨t1, t2, h1.narrow hAB, h2.narrow hAB, h3.narrow hAB, h4.narrow hAB⟩
def q_X (D : va_G) (cl : List vw_C) (tys : List (ClassId × FieldType)) (wc : va_W) (av : List Value) : Array Value → State → Prop := va_Pc av (fun U => va_P D cl wc U.heap ∧ va_K D cl tys U ∧ va_D (fun _ => True) wc ∧ q_Tb (q_A wc) U U.heap)
theorem q_X_blind {D : va_G} {cl : List vw_C} {tys : List (ClassId × FieldType)} {wc : va_W} {av : List Value} : FrameBlind (q_X D cl tys wc av) := fun a U g mk q => ⟨q.1, q.2.1, va_K.moved (u := U) (U := U.calling g mk a) (Vm.Alike.refl U.vm) q.2.2.1, q.2.2.2.1, q_Tb_moved (u := U) (U := U.calling g mk a) (Vm.Alike.refl U.vm) q.2.2.2.2⟩
section QTB
variable {p : Program} {l : Launch} {e : Env} {R : Room} {s : State} {m : MethodId} {args : Array Value} {below : List Frame} {meth : Method} {c : Code} {H : Heap} {locs : List Loc} {cells slots : Nat} {Q : State → Prop}
variable {cc : ByteArray} {pc : Nat} {ls : Array Slot} {rest : List Value} {A : Nat → Prop} {D : va_G} {cl : List vw_C} {tys : List (ClassId × FieldType)} {ws wc : va_W} {b : Nat} {As : List Value} {t N : Nat}
theorem q_Tb_at (hS : va_S A s.heap H locs) (hZ : q_Tb A s s.heap) (hD : va_D A ws) (is : List Nat) (hs : is.map (fun i => ws[i]?) = wc.map some) : q_Tb (q_A wc) s H := q_Tb_narrow (q_Tb_kept hZ (fun a h1 h2 => hS.2.1 a h1 h2)) (q_inA hD is hs)
theorem q_preST (hK : va_K D cl tys s) (hP : va_P D cl ws H) (hD : va_D A ws) (hS : va_S A s.heap H locs) (hZ : q_Tb A s s.heap) (is : List Nat) (hs : is.map (fun i => ws[i]?) = wc.map some) (hn : va_nd is = true) : PreS s H (q_X D cl tys wc As) As := ⟨q_X_blind, fun U hU hW => ⟨rfl, by rw [hU]; exact hP.sub is (q_fm hs), va_K.moved hW.alike hK, (hD.sub is hn hs).weaken (fun _ _ _ _ => trivial), by rw [hU]; exact q_Tb_moved hW.alike (q_Tb_at hS hZ hD is hs)⟩⟩
theorem q_preVT (hK : va_K D cl tys s) (hP : va_P D cl ws H) (hD : va_D A ws) (hS : va_S A s.heap H locs) (hZ : q_Tb A s s.heap) (is : List Nat) (hs : is.map (fun i => ws[i]?) = wc.map some) (hn : va_nd is = true) (q0 : Nat) {ci : Nat} {r : vw_C} {fs : List Value} (hc : cl[ci]? = some r) (he : ws[q0]? = some (b, .inr (ci, fs))) : PreV s H r.1 b (q_X D cl tys wc (.ref b :: As)) As := ⟨q_X_blind, va_recv hK hP hc he, fun U hU hW => ⟨rfl, by rw [hU]; exact hP.sub is (q_fm hs), va_K.moved hW.alike hK, (hD.sub is hn hs).weaken (fun _ _ _ _ => trivial), by rw [hU]; exact q_Tb_moved hW.alike (q_Tb_at hS hZ hD is hs)⟩⟩
theorem q_tiN (hexec : p.tables.exec = Jvm.exec) (hb : c.code = cc) {g : Nat → Nat} (hT : va_T .int t N (fun j => .int (nI (g j))) A s s.heap) (hS : va_S A s.heap H locs) {j : Nat} (hj : j < N) (hn : N < 2 ^ 31) (hdg : decode cc pc = .ok (.iaload, 1))
    (kk : W p l e R s m args below meth c H locs cells slots Q (F0 m (pc + 1) ls (.int (nI (g j)) :: rest))) : W p l e R s m args below meth c H locs cells slots Q (F0 m pc ls (.int (nI j) :: .ref t :: rest)) := va_ti hexec hb hT hS (vp_in_nI hj hn) (v := .int (nI (g j))) (by rw [nI_clamp (Nat.lt_trans hj hn)]) hdg kk
end QTB
theorem lg_cmpL {a b : Nat} (ha : a < 2 ^ 63) (hb : b < 2 ^ 63) : 0 ≤ lg_cmp (lN a) (lN b) ↔ ¬ a < b := by
  unfold lg_cmp
  by_cases h1 : lN a > lN b
  · rw [if_pos h1]
    have : b < a := (pk_lLT hb ha).mp h1
    exact ⟨fun _ => by omega, fun _ => by decide⟩
  · rw [if_neg h1]
    have h3 : ¬ b < a := fun h => h1 ((pk_lLT hb ha).mpr h)
    by_cases h2 : lN a = lN b
    · rw [if_pos h2]
      have := (pk_lEQ ha hb).mp h2
      exact ⟨fun _ => by omega, fun _ => by decide⟩
    · rw [if_neg h2]
      have h4 : a ≠ b := fun h => h2 (congrArg lN h)
      exact ⟨fun h => absurd h (by decide), fun h => by omega⟩
