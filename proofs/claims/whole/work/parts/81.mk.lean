/-! Making: objects and arrays that a constructor lays -/
def q_Ns (U : State) : Prop := va_Nw (.methodLinkNest RX7 11 ⟨RX0, "<init>", "()V"⟩ RX7) U ∧ va_Nw (.methodLinkNest RX7 18 ⟨RX1, "<init>", "()V"⟩ RX7) U ∧ va_Nw (.methodLinkNest RX7 29 ⟨RX5, "<init>", "()V"⟩ RX7) U ∧ va_Nw (.methodLinkNest RX5 11 ⟨RX3, "<init>", "()V"⟩ RX7) U ∧ va_Nw (.methodLinkNest RX6 20 ⟨RX3, "<init>", "()V"⟩ RX7) U ∧ va_Nw (.methodLinkNest RX2 11 ⟨RX3, "<init>", "()V"⟩ RX7) U ∧ va_AO RX5 U
theorem q_Ns_same {u U : State} (h : u.vm = U.vm) (hv : u.vm.Alike U.vm) (hN : q_Ns u) : q_Ns U := by
  obtain ⟨h1, h2, h3, h4, h5, h6, h7⟩ := hN
  exact ⟨h1.same rfl h, h2.same rfl h, h3.same rfl h, h4.same rfl h, h5.same rfl h, h6.same rfl h, h7.moved hv⟩
theorem q_Ns_warm {s U : State} (hW : s.WarmedH U.vm) (hN : q_Ns s) : q_Ns U := by
  obtain ⟨h1, h2, h3, h4, h5, h6, h7⟩ := hN
  exact ⟨h1.warmM hW, h2.warmM hW, h3.warmM hW, h4.warmM hW, h5.warmM hW, h6.warmM hW, h7.moved hW.alike⟩
def q_N (D : va_G) (cl : List vw_C) (tys : List (ClassId × FieldType)) (wc : va_W) (av : List Value) (sz : Nat) : Array Value → State → Prop := va_Pc av (fun U => U.heap.size = sz ∧ va_P D cl wc U.heap ∧ va_K D cl tys U ∧ va_D (fun _ => True) wc ∧ q_Ns U)
theorem q_N_blind {D : va_G} {cl : List vw_C} {tys : List (ClassId × FieldType)} {wc : va_W} {av : List Value} {sz : Nat} : FrameBlind (q_N D cl tys wc av sz) := fun a U g mk q => ⟨q.1, q.2.1, q.2.2.1, va_K.moved (u := U) (U := U.calling g mk a) (Vm.Alike.refl U.vm) q.2.2.2.1, q.2.2.2.2.1, q_Ns_same (u := U) (U := U.calling g mk a) rfl (Vm.Alike.refl U.vm) q.2.2.2.2.2⟩
section QMK
variable {p : Program} {l : Launch} {e : Env} {R : Room} {s : State} {m : MethodId} {args : Array Value} {below : List Frame} {meth : Method} {c : Code} {H : Heap} {locs : List Loc} {cells slots : Nat} {Q : State → Prop}
variable {cc : ByteArray} {pc : Nat} {ls : Array Slot} {rest st0 : List Value} {a : Array Value} {A : Nat → Prop} {H0 : Heap} {D : va_G} {cl : List vw_C} {tys : List (ClassId × FieldType)} {ws wc wr : va_W} {b : Nat} {As : List Value}
theorem q_preN (hK : va_K D cl tys s) (hP : va_P D cl ws H) (hD : va_D A ws) (hNs : q_Ns s) (is : List Nat) (hs : is.map (fun i => ws[i]?) = wc.map some) (hn : va_nd is = true) : PreS s H (q_N D cl tys wc As H.size) As := ⟨q_N_blind, fun U hU hW => ⟨rfl, by rw [hU], by rw [hU]; exact hP.sub is (q_fm hs), va_K.moved hW.alike hK, (hD.sub is hn hs).weaken (fun _ _ _ _ => trivial), q_Ns_warm hW hNs⟩⟩
theorem q_joinN {S : Type} {post : S → Prop} {w1 : S → va_W} {mc ms : Nat} (hr : va_Run p l e R s m args below meth c H locs cells slots mc ms (F0 m pc ls st0) rest (va_Qv post (fun u t => va_P D cl (w1 u) t.heap ∧ va_D (va_A wc H.size) (w1 u)) (va_A wc H.size) a) (va_A wc H.size)) (hP : va_P D cl ws H) (hD : va_D A ws) (hS : va_S A H0 H locs) (hA : ∀ q, H0.size ≤ q → A q) (isC isR : List Nat) (hC : isC.map (fun i => ws[i]?) = wc.map some) (hR : isR.map (fun i => ws[i]?) = wr.map some) (hn : va_nd isR = true) (hdis : ∀ i ∈ isR, i ∉ isC)
    (kk : ∀ (u : S) (H1 : Heap) (locs1 : List Loc), post u → va_P D cl (wr ++ w1 u) H1 → va_D A (wr ++ w1 u) → va_S A H0 H1 locs1 → W p l e R s m args below meth c H1 locs1 (cells + mc) (slots + ms) Q (F0 m (pc + 3) ls rest)) : W p l e R s m args below meth c H locs cells slots Q (F0 m pc ls st0) := by
  have hF := va_free (wc := wc) hD hS hA isC hC
  refine va_callv hr hS (fun q _ h => hF q h) hF (fun u t H1 locs1 ht hvm hp hB hz hk hS1 => ?_)
  obtain ⟨hB1, hB2⟩ := hB
  rw [ht] at hB1
  obtain ⟨h1, h2⟩ := va_join hP hD isC isR hC hR hn hdis hk hF hB1 hB2
  exact kk u H1 locs1 hp h1 h2 hS1
theorem q_newi (hexec : p.tables.exec = Jvm.exec) (hb : c.code = cc) (harr : (Cond.arrayClass .int).before args s = true) (hK : va_K D cl tys s) (hP : va_P D cl ws H) (hD : va_D A ws) (hS : va_S A H0 H locs) (hA : ∀ q, H0.size ≤ q → A q) (t0 : Nat) {cA : ClassId} (ht : tys[t0]? = some (cA, .int)) {n : Nat} {f : Nat → Int32} (hf : ∀ j, f j = 0) (hn : n < 4096) (hcells : cells + 1 ≤ R.cells) (hslots : slots + n ≤ R.slots) (hdg : decode cc pc = .ok (.newarray .int, 2))
    (kk : ∀ (q : Nat) (H1 : Heap), va_P D cl (ws ++ [(q, .inl (cA, n, .inl f))]) H1 → va_D A (ws ++ [(q, .inl (cA, n, .inl f))]) → va_S A H0 H1 locs → W p l e R s m args below meth c H1 locs (cells + 1) (slots + n) Q (F0 m (pc + 2) ls (.ref q :: rest))) : W p l e R s m args below meth c H locs cells slots Q (F0 m pc ls (.int (nI n) :: rest)) := by
  refine va_newa (a0 := (n, .inl f)) hexec hb (atype := .int) harr rfl hK hP hD hS hA (fun cA => ?_) (nI_pos (by omega)) (nI_clamp (by omega)) (by show n * 4 ≤ _; omega) hcells hslots hdg (fun q cA' H1 hK' hP' hD' hS' => ?_)
  · rw [vp_cell_i]; unfold arrV; congr 2; funext j; show Value.int (f j) = _; rw [hf]; rfl
  · have e1 := (hK'.2 tys.length (cA', .int) (by rw [List.getElem?_append_right (Nat.le_refl _), Nat.sub_self]; rfl)).2
    have e2 := (hK.2 t0 _ ht).2
    have e : cA' = cA := Option.some.inj (e1.symm.trans e2)
    subst e
    exact kk q H1 hP' hD' hS'
theorem q_newz (hexec : p.tables.exec = Jvm.exec) (hb : c.code = cc) (harr : (Cond.arrayClass .boolean).before args s = true) (hK : va_K D cl tys s) (hP : va_P D cl ws H) (hD : va_D A ws) (hS : va_S A H0 H locs) (hA : ∀ q, H0.size ≤ q → A q) (t0 : Nat) {cA : ClassId} (ht : tys[t0]? = some (cA, .boolean)) {n : Nat} {f : Nat → Int32} (hf : ∀ j, f j = 0) (hn : n < 4096) (hcells : cells + 1 ≤ R.cells) (hslots : slots + n ≤ R.slots) (hdg : decode cc pc = .ok (.newarray .boolean, 2))
    (kk : ∀ (q : Nat) (H1 : Heap), va_P D cl (ws ++ [(q, .inl (cA, n, .inl f))]) H1 → va_D A (ws ++ [(q, .inl (cA, n, .inl f))]) → va_S A H0 H1 locs → W p l e R s m args below meth c H1 locs (cells + 1) (slots + n) Q (F0 m (pc + 2) ls (.ref q :: rest))) : W p l e R s m args below meth c H locs cells slots Q (F0 m pc ls (.int (nI n) :: rest)) := by
  refine va_newa (a0 := (n, .inl f)) hexec hb (atype := .boolean) harr rfl hK hP hD hS hA (fun cA => ?_) (nI_pos (by omega)) (nI_clamp (by omega)) (by show n * 1 ≤ _; omega) hcells hslots hdg (fun q cA' H1 hK' hP' hD' hS' => ?_)
  · rw [vp_cell_i]; unfold arrV; congr 2; funext j; show Value.int (f j) = _; rw [hf]; rfl
  · have e1 := (hK'.2 tys.length (cA', .boolean) (by rw [List.getElem?_append_right (Nat.le_refl _), Nat.sub_self]; rfl)).2
    have e2 := (hK.2 t0 _ ht).2
    have e : cA' = cA := Option.some.inj (e1.symm.trans e2)
    subst e
    exact kk q H1 hP' hD' hS'
theorem q_newl (hexec : p.tables.exec = Jvm.exec) (hb : c.code = cc) (harr : (Cond.arrayClass .long).before args s = true) (hK : va_K D cl tys s) (hP : va_P D cl ws H) (hD : va_D A ws) (hS : va_S A H0 H locs) (hA : ∀ q, H0.size ≤ q → A q) (t0 : Nat) {cA : ClassId} (ht : tys[t0]? = some (cA, .long)) {n : Nat} {f : Nat → Int64} (hf : ∀ j, f j = 0) (hn : n < 4096) (hcells : cells + 1 ≤ R.cells) (hslots : slots + n ≤ R.slots) (hdg : decode cc pc = .ok (.newarray .long, 2))
    (kk : ∀ (q : Nat) (H1 : Heap), va_P D cl (ws ++ [(q, .inl (cA, n, .inr (.inl f)))]) H1 → va_D A (ws ++ [(q, .inl (cA, n, .inr (.inl f)))]) → va_S A H0 H1 locs → W p l e R s m args below meth c H1 locs (cells + 1) (slots + n) Q (F0 m (pc + 2) ls (.ref q :: rest))) : W p l e R s m args below meth c H locs cells slots Q (F0 m pc ls (.int (nI n) :: rest)) := by
  refine va_newa (a0 := (n, .inr (.inl f))) hexec hb (atype := .long) harr rfl hK hP hD hS hA (fun cA => ?_) (nI_pos (by omega)) (nI_clamp (by omega)) (by show n * 8 ≤ _; omega) hcells hslots hdg (fun q cA' H1 hK' hP' hD' hS' => ?_)
  · rw [vp_cell_l]; unfold arrV; congr 2; funext j; show Value.long (f j) = _; rw [hf]; rfl
  · have e1 := (hK'.2 tys.length (cA', .long) (by rw [List.getElem?_append_right (Nat.le_refl _), Nat.sub_self]; rfl)).2
    have e2 := (hK.2 t0 _ ht).2
    have e : cA' = cA := Option.some.inj (e1.symm.trans e2)
    subst e
    exact kk q H1 hP' hD' hS'
theorem q_newq (hexec : p.tables.exec = Jvm.exec) (hb : c.code = cc) {own C : String} {index : Nat} (hown : s.vm.findClass own = some m.cls) (hclink : (Cond.classLink own index C).before args s = true) (hover : va_AO C s) (hK : va_K D cl tys s) (hP : va_P D cl ws H) (hD : va_D A ws) (hS : va_S A H0 H locs) (hA : ∀ q, H0.size ≤ q → A q) (t0 : Nat) {cA : ClassId} (ht : tys[t0]? = some (cA, .object C)) {n : Nat} (hn : n < 4096) (hcells : cells + 1 ≤ R.cells) (hslots : slots + n ≤ R.slots) (hdg : decode cc pc = .ok (.anewarray index, 3))
    (kk : ∀ (q : Nat) (H1 : Heap), va_P D cl (ws ++ [(q, .inl (cA, n, .inr (.inr (.inr (.inr (fun _ => none))))))]) H1 → va_D A (ws ++ [(q, .inl (cA, n, .inr (.inr (.inr (.inr (fun _ => none))))))]) → va_S A H0 H1 locs → W p l e R s m args below meth c H1 locs (cells + 1) (slots + n) Q (F0 m (pc + 3) ls (.ref q :: rest))) : W p l e R s m args below meth c H locs cells slots Q (F0 m pc ls (.int (nI n) :: rest)) := by
  refine va_newq hexec hb hown hclink hover hK hP hD hS hA (nI_pos (by omega)) (nI_clamp (by omega)) (by omega) hcells hslots hdg (fun q cA' H1 hK' hP' hD' hS' => ?_)
  have e1 := (hK'.2 tys.length (cA', .object C) (by rw [List.getElem?_append_right (Nat.le_refl _), Nat.sub_self]; rfl)).2
  have e2 := (hK.2 t0 _ ht).2
  obtain ⟨_, _, _, _, _, e1⟩ := e1
  obtain ⟨_, _, _, _, _, e2⟩ := e2
  have e : cA' = cA := Option.some.inj (e1.symm.trans e2)
  subst e
  exact kk q H1 hP' hD' hS'
theorem q_extq (hP : va_P D cl ws H) (k : Nat) {a : Nat} {cA : ClassId} {n : Nat} {f f' : Nat → Option Nat} (hk : ws[k]? = some (a, .inl (cA, n, .inr (.inr (.inr (.inr f)))))) (h : ∀ j, j < n → f j = f' j) : va_P D cl (ws.set k (a, .inl (cA, n, .inr (.inr (.inr (.inr f')))))) H := by
  intro i q hq
  by_cases hi : k = i
  · subst hi
    rw [List.getElem?_set, if_pos rfl, if_pos (List.getElem?_eq_some_iff.mp hk).1] at hq
    cases hq
    show H[a]? = some (vp_cell cA (n, .inr (.inr (.inr (.inr f')))))
    rw [show vp_cell cA (n, .inr (.inr (.inr (.inr f')))) = vp_cell cA (n, .inr (.inr (.inr (.inr f)))) from ?_]
    · exact hP k _ hk
    · rw [vp_cell_q, vp_cell_q]
      unfold arrV
      congr 2
      funext j
      exact congrArg va_rf (h j.val j.isLt).symm
  · rw [List.getElem?_set, if_neg hi] at hq
    exact hP i q hq
theorem q_astq (hexec : p.tables.exec = Jvm.exec) (hb : c.code = cc) {a9 : Nat} (hK : va_K D cl tys s) (hP : va_P D cl ws H) (hD : va_D A ws) (hS : va_S A H0 H locs) (q0 t0 qk ci : Nat) {cA : ClassId} {r : vw_C} {n v : Nat} {vs : List Value} {f : Nat → Option Nat} (ha : ws[q0]? = some (a9, .inl (cA, n, .inr (.inr (.inr (.inr f)))))) (ht : tys[t0]? = some (cA, .object r.1)) (hv : ws[qk]? = some (v, .inr (ci, vs))) (hc : cl[ci]? = some r) {j : Nat} (hj : j < n) (hn : n < 4096) (hdg : decode cc pc = .ok (.aastore, 1))
    (kk : ∀ (H1 : Heap) (locs1 : List Loc), va_P D cl (ws.set q0 (a9, .inl (cA, n, .inr (.inr (.inr (.inr (va_up f j (some v)))))))) H1 → va_D A (ws.set q0 (a9, .inl (cA, n, .inr (.inr (.inr (.inr (va_up f j (some v)))))))) → va_S A H0 H1 locs1 → W p l e R s m args below meth c H1 locs1 cells slots Q (F0 m (pc + 1) ls rest)) : W p l e R s m args below meth c H locs cells slots Q (F0 m pc ls (.ref v :: .int (nI j) :: .ref a9 :: rest)) :=
  va_astq hexec hb hK hP hD hS q0 t0 qk ci ha ht hv hc (vp_in_nI hj (by omega)) hdg (fun H1 L1 h1 h2 h3 => by rw [nI_clamp (by omega)] at h1 h2; exact kk H1 L1 h1 h2 h3)
end QMK
