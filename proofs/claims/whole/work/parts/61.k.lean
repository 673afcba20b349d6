abbrev cX4_leastRow : ByteArray := prog_6_method_2_code
def yX4_leastRow : MethodName := ⟨RX4, "leastRow", "(LQlRewrite$Form;)J"⟩
def wkX4_leastRow : List Cond := .code yX4_leastRow cX4_leastRow 9 (some .long) :: qW
set_option maxRecDepth 40000 in
theorem gkX4_leastRow : GoodIn qW wkX4_leastRow := q_good (qw 384 rfl rfl)
set_option maxRecDepth 40000 in
theorem knX4_leastRow : Cond.instanceMethod yX4_leastRow ∈ qW := qw 382 rfl rfl
set_option maxRecDepth 40000 in
theorem klX4_leastRow : Cond.selects RX4 yX4_leastRow yX4_leastRow ∈ qW := qw 383 rfl rfl
theorem dX4_leastRow_0 : decode cX4_leastRow 0 = .ok (.iconst 1, 1) := by decide +kernel
theorem dX4_leastRow_1 : decode cX4_leastRow 1 = .ok (.istore_n 2, 1) := by decide +kernel
theorem dX4_leastRow_2 : decode cX4_leastRow 2 = .ok (.iconst 0, 1) := by decide +kernel
theorem dX4_leastRow_3 : decode cX4_leastRow 3 = .ok (.istore_n 3, 1) := by decide +kernel
theorem dX4_leastRow_4 : decode cX4_leastRow 4 = .ok (.iload_n 2, 1) := by decide +kernel
theorem dX4_leastRow_5 : decode cX4_leastRow 5 = .ok (.ifCond .eq 24, 3) := by decide +kernel
theorem dX4_leastRow_8 : decode cX4_leastRow 8 = .ok (.iload_n 3, 1) := by decide +kernel
theorem dX4_leastRow_9 : decode cX4_leastRow 9 = .ok (.bipush 9, 2) := by decide +kernel
theorem dX4_leastRow_11 : decode cX4_leastRow 11 = .ok (.if_icmp .ge 18, 3) := by decide +kernel
theorem dX4_leastRow_14 : decode cX4_leastRow 14 = .ok (.aload_n 1, 1) := by decide +kernel
theorem dX4_leastRow_15 : decode cX4_leastRow 15 = .ok (.invokevirtual 21, 3) := by decide +kernel
theorem dX4_leastRow_18 : decode cX4_leastRow 18 = .ok (.aload_n 1, 1) := by decide +kernel
theorem dX4_leastRow_19 : decode cX4_leastRow 19 = .ok (.invokestatic 26, 3) := by decide +kernel
theorem dX4_leastRow_22 : decode cX4_leastRow 22 = .ok (.istore_n 2, 1) := by decide +kernel
theorem dX4_leastRow_23 : decode cX4_leastRow 23 = .ok (.iinc 3 1, 3) := by decide +kernel
theorem dX4_leastRow_26 : decode cX4_leastRow 26 = .ok (.goto (-22), 3) := by decide +kernel
theorem dX4_leastRow_29 : decode cX4_leastRow 29 = .ok (.aload_n 0, 1) := by decide +kernel
theorem dX4_leastRow_30 : decode cX4_leastRow 30 = .ok (.aload_n 1, 1) := by decide +kernel
theorem dX4_leastRow_31 : decode cX4_leastRow 31 = .ok (.invokevirtual 30, 3) := by decide +kernel
theorem dX4_leastRow_34 : decode cX4_leastRow 34 = .ok (.istore_n 3, 1) := by decide +kernel
theorem dX4_leastRow_35 : decode cX4_leastRow 35 = .ok (.lconst 0, 1) := by decide +kernel
theorem dX4_leastRow_36 : decode cX4_leastRow 36 = .ok (.lstore 4, 2) := by decide +kernel
theorem dX4_leastRow_38 : decode cX4_leastRow 38 = .ok (.iconst 0, 1) := by decide +kernel
theorem dX4_leastRow_39 : decode cX4_leastRow 39 = .ok (.istore 6, 2) := by decide +kernel
theorem dX4_leastRow_41 : decode cX4_leastRow 41 = .ok (.iload 6, 2) := by decide +kernel
theorem dX4_leastRow_43 : decode cX4_leastRow 43 = .ok (.getstatic 34, 3) := by decide +kernel
theorem dX4_leastRow_46 : decode cX4_leastRow 46 = .ok (.iload_n 3, 1) := by decide +kernel
theorem dX4_leastRow_47 : decode cX4_leastRow 47 = .ok (.iaload, 1) := by decide +kernel
theorem dX4_leastRow_48 : decode cX4_leastRow 48 = .ok (.if_icmp .ge 81, 3) := by decide +kernel
theorem dX4_leastRow_51 : decode cX4_leastRow 51 = .ok (.iconst 0, 1) := by decide +kernel
theorem dX4_leastRow_52 : decode cX4_leastRow 52 = .ok (.istore 7, 2) := by decide +kernel
theorem dX4_leastRow_54 : decode cX4_leastRow 54 = .ok (.iload 7, 2) := by decide +kernel
theorem dX4_leastRow_56 : decode cX4_leastRow 56 = .ok (.iload_n 3, 1) := by decide +kernel
theorem dX4_leastRow_57 : decode cX4_leastRow 57 = .ok (.if_icmp .ge 34, 3) := by decide +kernel
theorem dX4_leastRow_60 : decode cX4_leastRow 60 = .ok (.aload_n 0, 1) := by decide +kernel
theorem dX4_leastRow_61 : decode cX4_leastRow 61 = .ok (.getfield 9, 3) := by decide +kernel
theorem dX4_leastRow_64 : decode cX4_leastRow 64 = .ok (.aload_n 0, 1) := by decide +kernel
theorem dX4_leastRow_65 : decode cX4_leastRow 65 = .ok (.getfield 15, 3) := by decide +kernel
theorem dX4_leastRow_68 : decode cX4_leastRow 68 = .ok (.iload 7, 2) := by decide +kernel
theorem dX4_leastRow_70 : decode cX4_leastRow 70 = .ok (.iaload, 1) := by decide +kernel
theorem dX4_leastRow_71 : decode cX4_leastRow 71 = .ok (.iconst 2, 1) := by decide +kernel
theorem dX4_leastRow_72 : decode cX4_leastRow 72 = .ok (.getstatic 37, 3) := by decide +kernel
theorem dX4_leastRow_75 : decode cX4_leastRow 75 = .ok (.iconst 4, 1) := by decide +kernel
theorem dX4_leastRow_76 : decode cX4_leastRow 76 = .ok (.iload 6, 2) := by decide +kernel
theorem dX4_leastRow_78 : decode cX4_leastRow 78 = .ok (.imul, 1) := by decide +kernel
theorem dX4_leastRow_79 : decode cX4_leastRow 79 = .ok (.iload 7, 2) := by decide +kernel
theorem dX4_leastRow_81 : decode cX4_leastRow 81 = .ok (.iadd, 1) := by decide +kernel
theorem dX4_leastRow_82 : decode cX4_leastRow 82 = .ok (.iaload, 1) := by decide +kernel
theorem dX4_leastRow_83 : decode cX4_leastRow 83 = .ok (.iadd, 1) := by decide +kernel
theorem dX4_leastRow_84 : decode cX4_leastRow 84 = .ok (.iastore, 1) := by decide +kernel
theorem dX4_leastRow_85 : decode cX4_leastRow 85 = .ok (.iinc 7 1, 3) := by decide +kernel
theorem dX4_leastRow_88 : decode cX4_leastRow 88 = .ok (.goto (-34), 3) := by decide +kernel
theorem dX4_leastRow_91 : decode cX4_leastRow 91 = .ok (.aload_n 0, 1) := by decide +kernel
theorem dX4_leastRow_92 : decode cX4_leastRow 92 = .ok (.aload_n 1, 1) := by decide +kernel
theorem dX4_leastRow_93 : decode cX4_leastRow 93 = .ok (.invokevirtual 40, 3) := by decide +kernel
theorem dX4_leastRow_96 : decode cX4_leastRow 96 = .ok (.aload_n 1, 1) := by decide +kernel
theorem dX4_leastRow_97 : decode cX4_leastRow 97 = .ok (.aload_n 0, 1) := by decide +kernel
theorem dX4_leastRow_98 : decode cX4_leastRow 98 = .ok (.getfield 18, 3) := by decide +kernel
theorem dX4_leastRow_101 : decode cX4_leastRow 101 = .ok (.invokevirtual 44, 3) := by decide +kernel
theorem dX4_leastRow_104 : decode cX4_leastRow 104 = .ok (.lstore 7, 2) := by decide +kernel
theorem dX4_leastRow_106 : decode cX4_leastRow 106 = .ok (.iload 6, 2) := by decide +kernel
theorem dX4_leastRow_108 : decode cX4_leastRow 108 = .ok (.ifCond .eq 11, 3) := by decide +kernel
theorem dX4_leastRow_111 : decode cX4_leastRow 111 = .ok (.lload 7, 2) := by decide +kernel
theorem dX4_leastRow_113 : decode cX4_leastRow 113 = .ok (.lload 4, 2) := by decide +kernel
theorem dX4_leastRow_115 : decode cX4_leastRow 115 = .ok (.lcmp, 1) := by decide +kernel
theorem dX4_leastRow_116 : decode cX4_leastRow 116 = .ok (.ifCond .ge 7, 3) := by decide +kernel
theorem dX4_leastRow_119 : decode cX4_leastRow 119 = .ok (.lload 7, 2) := by decide +kernel
theorem dX4_leastRow_121 : decode cX4_leastRow 121 = .ok (.lstore 4, 2) := by decide +kernel
theorem dX4_leastRow_123 : decode cX4_leastRow 123 = .ok (.iinc 6 1, 3) := by decide +kernel
theorem dX4_leastRow_126 : decode cX4_leastRow 126 = .ok (.goto (-85), 3) := by decide +kernel
theorem dX4_leastRow_129 : decode cX4_leastRow 129 = .ok (.lload 4, 2) := by decide +kernel
theorem dX4_leastRow_131 : decode cX4_leastRow 131 = .ok (.lreturn, 1) := by decide +kernel
set_option maxRecDepth 40000 in
theorem kmX4_30 : Cond.methodLink RX4 30 yX4_gatherOthers ∈ qW := qw 399 rfl rfl
set_option maxRecDepth 40000 in
theorem kfX4_34 : Cond.fieldLink RX4 34 "QlRewrite$Namer" "ORDERS_OF" "[I" ∈ qW := qw 407 rfl rfl
set_option maxRecDepth 40000 in
theorem kmX4_40 : Cond.methodLink RX4 40 yX4_sortCodes ∈ qW := qw 411 rfl rfl
set_option maxRecDepth 40000 in
theorem kmX4_44 : Cond.methodLink RX4 44 yX3_rowOf ∈ qW := qw 415 rfl rfl
set_option maxRecDepth 40000 in
theorem kfX4_37 : Cond.fieldLink RX4 37 "QlRewrite$Namer" "ORDERS" "[I" ∈ qW := qw 409 rfl rfl
set_option maxRecDepth 40000 in
theorem kmX4_21 : Cond.methodLink RX4 21 yX3_dropEqual ∈ qW := qw 385 rfl rfl
set_option maxRecDepth 40000 in
theorem kmX4_26 : Cond.methodLink RX4 26 yX4_freeSingle ∈ qW := qw 389 rfl rfl
abbrev rm_c_Namer_leastRow : Room := { frames := 2, cells := 0, slots := 0, locals := 46 }
set_option maxHeartbeats 4000000 in
set_option maxRecDepth 100000 in
theorem c_Namer_leastRow (l : Launch) (dC : Nat → ClassId) (dI : Nat → Nat → Nat) (cI cL cQ cZ : ClassId) (m0 : Nat) (nd0 : Nat) (os0 : Nat) (cd0 : Nat) (nd : Nat → Nat) (os : Nat → Nat) (cd : Nat → Nat) (f0 : Nat) (a1 : Nat) (a2 : Nat) (n : Nat) (jn : Bool) (nm : Nat → Nat) (pl : Nat → Nat) (hfm : c_fmk n nm pl) (hnk : c_nmk nd os cd) : Met l yX4_leastRow wkX4_leastRow rm_c_Namer_leastRow (q_X (dC, dI) qCl (qT cI cL cQ cZ) [(m0, .inr (4, [.ref nd0, .ref os0, .ref cd0])), (nd0, .inl (cI, 16, .inl (nF nd))), (os0, .inl (cI, 4, .inl (nF os))), (cd0, .inl (cI, 4, .inl (nF cd))), (f0, .inr (3, [.ref a1, .ref a2, .int (nI (n)), .int (bI (jn))])), (a1, .inl (cI, 4, .inl (nF nm))), (a2, .inl (cI, 8, .inl (nF pl)))] [.ref m0, .ref f0]) (va_Ql (fun (r : Int64) (u : Nat × (Nat → Nat) × (Nat → Nat) × (Nat → Nat) × Nat × (Nat → Nat) × (Nat → Nat)) => (r = (lN (u.1))) ∧ (u.1 < 2 ^ 52) ∧ (c_nmk u.2.1 u.2.2.1 u.2.2.2.1) ∧ (c_fmk u.2.2.2.2.1 u.2.2.2.2.2.1 u.2.2.2.2.2.2) ∧ (c_can (c_set nm pl n) jn u.1)) (fun (u : Nat × (Nat → Nat) × (Nat → Nat) × (Nat → Nat) × Nat × (Nat → Nat) × (Nat → Nat)) t => va_P (dC, dI) qCl [(m0, .inr (4, [.ref nd0, .ref os0, .ref cd0])), (nd0, .inl (cI, 16, .inl (nF u.2.1))), (os0, .inl (cI, 4, .inl (nF u.2.2.1))), (cd0, .inl (cI, 4, .inl (nF u.2.2.2.1))), (f0, .inr (3, [.ref a1, .ref a2, .int (nI (u.2.2.2.2.1)), .int (bI (jn))])), (a1, .inl (cI, 4, .inl (nF u.2.2.2.2.2.1))), (a2, .inl (cI, 8, .inl (nF u.2.2.2.2.2.2)))] t.heap) (q_A [(m0, .inr (4, [.ref nd0, .ref os0, .ref cd0])), (nd0, .inl (cI, 16, .inl (nF nd))), (os0, .inl (cI, 4, .inl (nF os))), (cd0, .inl (cI, 4, .inl (nF cd))), (f0, .inr (3, [.ref a1, .ref a2, .int (nI (n)), .int (bI (jn))])), (a1, .inl (cI, 4, .inl (nF nm))), (a2, .inl (cI, 8, .inl (nF pl)))])) 0 0 (q_A [(m0, .inr (4, [.ref nd0, .ref os0, .ref cd0])), (nd0, .inl (cI, 16, .inl (nF nd))), (os0, .inl (cI, 4, .inl (nF os))), (cd0, .inl (cI, 4, .inl (nF cd))), (f0, .inr (3, [.ref a1, .ref a2, .int (nI (n)), .int (bI (jn))])), (a1, .inl (cI, 4, .inl (nF nm))), (a2, .inl (cI, 8, .inl (nF pl)))]) := by
  refine Met.ofW (cc := cX4_leastRow) (maxL := 9) (ret := (some .long)) (by decide) rfl ?_
  intro p e s m args below meth c s₁ B hml hv
  obtain ⟨hargs, hP, hK, hD0, hZ⟩ := hv
  have hx := B.exec
  have hb := B.bytes
  have hr := B.returns
  have hts : ∀ w ∈ qW, w.before args s = true := fun w h => atoms_spec (ws := wkX4_leastRow) B.pre w (List.mem_cons_of_mem _ h)
  have hown : s.vm.findClass RX4 = some m.cls := findClass_of_methodNamed B.named
  have hlocks := B.notSynchronized
  refine q_named (fun Q hQ => ?_)
  have hD : va_D (q_A [(m0, .inr (4, [.ref nd0, .ref os0, .ref cd0])), (nd0, .inl (cI, 16, .inl (nF nd))), (os0, .inl (cI, 4, .inl (nF os))), (cd0, .inl (cI, 4, .inl (nF cd))), (f0, .inr (3, [.ref a1, .ref a2, .int (nI (n)), .int (bI (jn))])), (a1, .inl (cI, 4, .inl (nF nm))), (a2, .inl (cI, 8, .inl (nF pl)))]) [(m0, .inr (4, [.ref nd0, .ref os0, .ref cd0])), (nd0, .inl (cI, 16, .inl (nF nd))), (os0, .inl (cI, 4, .inl (nF os))), (cd0, .inl (cI, 4, .inl (nF cd))), (f0, .inr (3, [.ref a1, .ref a2, .int (nI (n)), .int (bI (jn))])), (a1, .inl (cI, 4, .inl (nF nm))), (a2, .inl (cI, 8, .inl (nF pl)))] := ⟨hD0.1, fun k q h => ⟨k, q.2, h⟩⟩
  generalize hAe : q_A [(m0, .inr (4, [.ref nd0, .ref os0, .ref cd0])), (nd0, .inl (cI, 16, .inl (nF nd))), (os0, .inl (cI, 4, .inl (nF os))), (cd0, .inl (cI, 4, .inl (nF cd))), (f0, .inr (3, [.ref a1, .ref a2, .int (nI (n)), .int (bI (jn))])), (a1, .inl (cI, 4, .inl (nF nm))), (a2, .inl (cI, 8, .inl (nF pl)))] = A at hD hZ
  obtain ⟨t1, t2, hZ1, hT1, hZ2, hT2⟩ := hZ
  have hS : va_S A s.heap s.heap [] := va_S.rf
  refine q_entry hargs (Nat.le_of_ble_eq_true rfl) (fun ls hl => ?_)
  have hl : lv_has ls 9 [(0, .ref m0), (1, .ref f0)] := hl
  obtain ⟨H, locs, eH, eL⟩ : ∃ (H : Heap) (locs : List Loc), s.heap = H ∧ ([] : List Loc) = locs := ⟨_, _, rfl, rfl⟩
  have hS : va_S A s.heap H locs := by rw [← eH, ← eL]; exact hS
  have hP : va_P (dC, dI) qCl [(m0, .inr (4, [.ref nd0, .ref os0, .ref cd0])), (nd0, .inl (cI, 16, .inl (nF nd))), (os0, .inl (cI, 4, .inl (nF os))), (cd0, .inl (cI, 4, .inl (nF cd))), (f0, .inr (3, [.ref a1, .ref a2, .int (nI (n)), .int (bI (jn))])), (a1, .inl (cI, 4, .inl (nF nm))), (a2, .inl (cI, 8, .inl (nF pl)))] H := by rw [← eH]; exact hP
  refine W_at eH eL ?_
  have L29 : ∀ (n5 : Nat) (nm5 : Nat → Nat) (pl5 : Nat → Nat) (ls : Array Slot) (H : Heap) (locs : List Loc), (c_fmk n5 nm5 pl5) → (c_rest (c_set nm pl n) nm5 pl5 n5) → lv_has ls 9 [(0, .ref m0), (1, .ref f0)] → va_P (dC, dI) qCl [(m0, .inr (4, [.ref nd0, .ref os0, .ref cd0])), (nd0, .inl (cI, 16, .inl (nF nd))), (os0, .inl (cI, 4, .inl (nF os))), (cd0, .inl (cI, 4, .inl (nF cd))), (f0, .inr (3, [.ref a1, .ref a2, .int (nI (n5)), .int (bI (jn))])), (a1, .inl (cI, 4, .inl (nF nm5))), (a2, .inl (cI, 8, .inl (nF pl5)))] H → va_D A [(m0, .inr (4, [.ref nd0, .ref os0, .ref cd0])), (nd0, .inl (cI, 16, .inl (nF nd))), (os0, .inl (cI, 4, .inl (nF os))), (cd0, .inl (cI, 4, .inl (nF cd))), (f0, .inr (3, [.ref a1, .ref a2, .int (nI (n5)), .int (bI (jn))])), (a1, .inl (cI, 4, .inl (nF nm5))), (a2, .inl (cI, 8, .inl (nF pl5)))] → va_S A s.heap H locs → W p l e (headSpec wkX4_leastRow rm_c_Namer_leastRow).room s m args below meth c H locs 0 0 Q (F0 m 29 ls []) := by
    intro n5 nm5 pl5 ls H locs hf5 hre hl hP hD hS
    obtain ⟨T5, hT5, hS5, hn5, hl5⟩ := id hre
    have hf51 := hf5.1
    refine lv_aload_n hx hb dX4_leastRow_29 rfl (lv_at hl 0 rfl) ?_
    refine lv_aload_n hx hb dX4_leastRow_30 rfl (lv_at hl 1 rfl) ?_
    refine q_joini (wr := []) (va_runV (As := [.ref f0]) (rest := []) ⟨hx, hb, hml, hown, hts⟩ (c_Namer_gatherOthers l dC dI cI cL cQ cZ m0 nd0 os0 cd0 nd os cd f0 a1 a2 n5 jn nm5 pl5 (show n5 ≤ 4 from by (exact hf5.1)) (show ∀ j, pl5 j < 16 from by (exact hf5.2.2)) (show ∀ j, os j < 16 from by (exact hnk.2.2.1))) (q_cwV 1 hts gkX4_gatherOthers kmX4_30 knX4_gatherOthers klX4_gatherOthers kiX4 rfl rfl rfl (by decide +kernel) ⟨Nat.le_of_ble_eq_true rfl, Nat.le_of_ble_eq_true rfl⟩) (q_preVW hK hP hD [0, 1, 2, 3, 4, 5, 6] rfl (by decide) 0 (ci := 4) (r := (RX4, TX4, 3)) rfl rfl) rfl rfl hl.1 rfl (lv_room (Nat.le_of_ble_eq_true rfl)) dX4_leastRow_31 ⟨Nat.zero_le _, Nat.zero_le _⟩) hP hD hS [0, 1, 2, 3, 4, 5, 6] [] rfl rfl (by decide) (fun _ => rfl) (fun r1 u9 H locs hq2 hP hD hS => ?_)
    obtain ⟨k6, os6⟩ := u9
    have hq2 : (r1 = (nI (k6))) ∧ (∀ j, os6 j < 16) ∧ (f_gath pl5 os6 (2 * n5) k6) := hq2
    obtain ⟨er1, hos6, hga⟩ := hq2
    have hlast := hga
    subst er1
    have hP : va_P (dC, dI) qCl [(m0, .inr (4, [.ref nd0, .ref os0, .ref cd0])), (nd0, .inl (cI, 16, .inl (nF nd))), (os0, .inl (cI, 4, .inl (nF os6))), (cd0, .inl (cI, 4, .inl (nF cd))), (f0, .inr (3, [.ref a1, .ref a2, .int (nI (n5)), .int (bI (jn))])), (a1, .inl (cI, 4, .inl (nF nm5))), (a2, .inl (cI, 8, .inl (nF pl5)))] H := hP
    have hD : va_D A [(m0, .inr (4, [.ref nd0, .ref os0, .ref cd0])), (nd0, .inl (cI, 16, .inl (nF nd))), (os0, .inl (cI, 4, .inl (nF os6))), (cd0, .inl (cI, 4, .inl (nF cd))), (f0, .inr (3, [.ref a1, .ref a2, .int (nI (n5)), .int (bI (jn))])), (a1, .inl (cI, 4, .inl (nF nm5))), (a2, .inl (cI, 8, .inl (nF pl5)))] := hD
    have ko : c_oth (c_set nm5 pl5 n5) os6 k6 := c_gath hf5.1 hl5 hga
    have hk6 := hga.1
    have hwy := c_ways_le k6
    refine lv_istore_n (lv' := [(3, .int (nI (k6))), (0, .ref m0), (1, .ref f0)]) hx hb dX4_leastRow_34 rfl hl (by decide) rfl (fun ls hl => ?_)
    refine lv_lconst (v := lN 0) hx hb dX4_leastRow_35 (by decide) ?_
    refine lv_lstore (lv' := [(4, .long (lN (0))), (3, .int (nI (k6))), (0, .ref m0), (1, .ref f0)]) hx hb dX4_leastRow_36 hl (by decide) rfl (fun ls hl => ?_)
    refine lv_iconst (v := (nI (0))) hx hb dX4_leastRow_38 (by decide) ?_
    refine lv_istore (lv' := [(6, .int (nI (0))), (4, .long (lN (0))), (3, .int (nI (k6))), (0, .ref m0), (1, .ref f0)]) hx hb dX4_leastRow_39 hl (by decide) rfl (fun ls hl => ?_)
    have L41 : ∀ (fu : Nat) (o : Nat) (w : Nat) (y : Nat → Nat) (cz : Nat → Nat) (ls : Array Slot) (H : Heap) (locs : List Loc), c_ways k6 - o < fu → (o ≤ c_ways k6) → (w < 2 ^ 52) → (c_nmk y os6 cz) → (c_lsw (c_set nm5 pl5 n5) jn os6 k6 c_tbC o w) → lv_has ls 9 [(6, .int (nI (o))), (4, .long (lN (w))), (3, .int (nI (k6))), (0, .ref m0), (1, .ref f0)] → va_P (dC, dI) qCl [(m0, .inr (4, [.ref nd0, .ref os0, .ref cd0])), (nd0, .inl (cI, 16, .inl (nF y))), (os0, .inl (cI, 4, .inl (nF os6))), (cd0, .inl (cI, 4, .inl (nF cz))), (f0, .inr (3, [.ref a1, .ref a2, .int (nI (n5)), .int (bI (jn))])), (a1, .inl (cI, 4, .inl (nF nm5))), (a2, .inl (cI, 8, .inl (nF pl5)))] H → va_D A [(m0, .inr (4, [.ref nd0, .ref os0, .ref cd0])), (nd0, .inl (cI, 16, .inl (nF y))), (os0, .inl (cI, 4, .inl (nF os6))), (cd0, .inl (cI, 4, .inl (nF cz))), (f0, .inr (3, [.ref a1, .ref a2, .int (nI (n5)), .int (bI (jn))])), (a1, .inl (cI, 4, .inl (nF nm5))), (a2, .inl (cI, 8, .inl (nF pl5)))] → va_S A s.heap H locs → W p l e (headSpec wkX4_leastRow rm_c_Namer_leastRow).room s m args below meth c H locs 0 0 Q (F0 m 41 ls []) := by
      intro fu
      induction fu with
      | zero => intro o w y cz ls H locs hmu; exact absurd hmu (Nat.not_lt_zero _)
      | succ fu ih41 =>
        intro o w y cz ls H locs hmu ho hwb hyk hls hl hP hD hS
        refine lv_iload hx hb dX4_leastRow_41 (lv_at hl 0 rfl) ?_
        refine va_gets (C := RX4) (v := .ref t2) hx hb hZ2 hS hown (hts _ kfX4_34) (fun _ h9 => h9) dX4_leastRow_43 ?_
        refine lv_iload_n hx hb dX4_leastRow_46 rfl (lv_at hl 2 rfl) ?_
        refine q_tiN (g := c_ways) hx hb hT2 hS (j := k6) (by omega) (by decide) dX4_leastRow_47 ?_
        refine q_icmp_ge (x := o) (y := c_ways k6) (tgt := 129) hx hb dX4_leastRow_48 (by decide) (by omega) (by omega) (fun c48_3 => ?_) (fun c48_3 => ?_)
        · refine lv_lload hx hb dX4_leastRow_129 (lv_at hl 1 rfl) ?_
          subst hQ
          subst hAe
          have hP9 := hP.sub (ws' := [(m0, .inr (4, [.ref nd0, .ref os0, .ref cd0])), (nd0, .inl (cI, 16, .inl (nF y))), (os0, .inl (cI, 4, .inl (nF os6))), (cd0, .inl (cI, 4, .inl (nF cz))), (f0, .inr (3, [.ref a1, .ref a2, .int (nI (n5)), .int (bI (jn))])), (a1, .inl (cI, 4, .inl (nF nm5))), (a2, .inl (cI, 8, .inl (nF pl5)))]) [0, 1, 2, 3, 4, 5, 6] rfl
          exact W.lret (v := (lN (w))) hx hb hr (fun t9 h9 _ => ⟨⟨(lN (w)), (w, y, os6, cz, n5, nm5, pl5), rfl, ⟨rfl, (show w < 2 ^ 52 from by (exact hwb)), (show c_nmk y os6 cz from by (exact hyk)), (show c_fmk n5 nm5 pl5 from by (exact hf5)), (show c_can (c_set nm pl n) jn w from by (exact c_lsw_end hk6 hre ko (c_fullC hk6) hls (by omega)))⟩, by show va_P _ _ _ t9.heap; rw [h9]; exact hP9⟩, hS.F h9⟩) hS.2.2 dX4_leastRow_131
        · refine lv_iconst (v := (nI (0))) hx hb dX4_leastRow_51 (by decide) ?_
          refine lv_istore (lv' := [(7, .int (nI (0))), (6, .int (nI (o))), (4, .long (lN (w))), (3, .int (nI (k6))), (0, .ref m0), (1, .ref f0)]) hx hb dX4_leastRow_52 hl (by decide) rfl (fun ls hl => ?_)
          have L54 : ∀ (fu : Nat) (i : Nat) (z : Nat → Nat) (ls : Array Slot) (H : Heap) (locs : List Loc), k6 - i < fu → (i ≤ k6) → (∀ j7, z j7 < 8) → (c_fix z) → (c_nmd z os6 o i) → lv_has ls 9 [(7, .int (nI (i))), (6, .int (nI (o))), (4, .long (lN (w))), (3, .int (nI (k6))), (0, .ref m0), (1, .ref f0)] → va_P (dC, dI) qCl [(m0, .inr (4, [.ref nd0, .ref os0, .ref cd0])), (nd0, .inl (cI, 16, .inl (nF z))), (os0, .inl (cI, 4, .inl (nF os6))), (cd0, .inl (cI, 4, .inl (nF cz))), (f0, .inr (3, [.ref a1, .ref a2, .int (nI (n5)), .int (bI (jn))])), (a1, .inl (cI, 4, .inl (nF nm5))), (a2, .inl (cI, 8, .inl (nF pl5)))] H → va_D A [(m0, .inr (4, [.ref nd0, .ref os0, .ref cd0])), (nd0, .inl (cI, 16, .inl (nF z))), (os0, .inl (cI, 4, .inl (nF os6))), (cd0, .inl (cI, 4, .inl (nF cz))), (f0, .inr (3, [.ref a1, .ref a2, .int (nI (n5)), .int (bI (jn))])), (a1, .inl (cI, 4, .inl (nF nm5))), (a2, .inl (cI, 8, .inl (nF pl5)))] → va_S A s.heap H locs → W p l e (headSpec wkX4_leastRow rm_c_Namer_leastRow).room s m args below meth c H locs 0 0 Q (F0 m 54 ls []) := by
            intro fu
            induction fu with
            | zero => intro i z ls H locs hmu; exact absurd hmu (Nat.not_lt_zero _)
            | succ fu ih54 =>
              intro i z ls H locs hmu hi hzb hzf hz hl hP hD hS
              refine lv_iload hx hb dX4_leastRow_54 (lv_at hl 0 rfl) ?_
              refine lv_iload_n hx hb dX4_leastRow_56 rfl (lv_at hl 3 rfl) ?_
              refine q_icmp_ge (x := i) (y := k6) (tgt := 91) hx hb dX4_leastRow_57 (by decide) (by omega) (by omega) (fun c57_4 => ?_) (fun c57_4 => ?_)
              · refine lv_aload_n hx hb dX4_leastRow_91 rfl (lv_at hl 4 rfl) ?_
                refine lv_aload_n hx hb dX4_leastRow_92 rfl (lv_at hl 5 rfl) ?_
                refine q_joinv (wr := []) (va_runV (As := [.ref f0]) (rest := []) ⟨hx, hb, hml, hown, hts⟩ (c_Namer_sortCodes l dC dI cI cL cQ cZ m0 nd0 os0 cd0 z os6 cz f0 a1 a2 n5 jn nm5 pl5 (show n5 ≤ 4 from by (exact hf5.1)) (show ∀ j, nm5 j < 64 from by (exact hf5.2.1)) (show ∀ j, pl5 j < 16 from by (exact hf5.2.2)) (show ∀ j, z j < 8 from by (exact hzb)) (show ∀ j, cz j < 4096 from by (exact hyk.2.2.2))) (q_cwV 1 hts gkX4_sortCodes kmX4_40 knX4_sortCodes klX4_sortCodes kiX4 rfl rfl rfl (by decide +kernel) ⟨Nat.le_of_ble_eq_true rfl, Nat.le_of_ble_eq_true rfl⟩) (q_preVW hK hP hD [0, 1, 2, 3, 4, 5, 6] rfl (by decide) 0 (ci := 4) (r := (RX4, TX4, 3)) rfl rfl) rfl rfl hl.1 rfl (lv_room (Nat.le_of_ble_eq_true rfl)) dX4_leastRow_93 ⟨Nat.zero_le _, Nat.zero_le _⟩) hP hD hS [0, 1, 2, 3, 4, 5, 6] [] rfl rfl (by decide) (fun _ => rfl) (fun u9 H locs hq6 hP hD hS => ?_)
                obtain ⟨cd7, rfl⟩ : ∃ z, z = u9 := ⟨_, rfl⟩
                have hq6 : (∀ j, cd7 j < 4096) ∧ (f_srt (f_code nm5 pl5 z) cd7 n5) := hq6
                obtain ⟨hcd7, hsrt⟩ := hq6
                have hlast := hsrt
                have hP : va_P (dC, dI) qCl [(m0, .inr (4, [.ref nd0, .ref os0, .ref cd0])), (nd0, .inl (cI, 16, .inl (nF z))), (os0, .inl (cI, 4, .inl (nF os6))), (cd0, .inl (cI, 4, .inl (nF cd7))), (f0, .inr (3, [.ref a1, .ref a2, .int (nI (n5)), .int (bI (jn))])), (a1, .inl (cI, 4, .inl (nF nm5))), (a2, .inl (cI, 8, .inl (nF pl5)))] H := hP
                have hD : va_D A [(m0, .inr (4, [.ref nd0, .ref os0, .ref cd0])), (nd0, .inl (cI, 16, .inl (nF z))), (os0, .inl (cI, 4, .inl (nF os6))), (cd0, .inl (cI, 4, .inl (nF cd7))), (f0, .inr (3, [.ref a1, .ref a2, .int (nI (n5)), .int (bI (jn))])), (a1, .inl (cI, 4, .inl (nF nm5))), (a2, .inl (cI, 8, .inl (nF pl5)))] := hD
                refine lv_aload_n hx hb dX4_leastRow_96 rfl (lv_at hl 5 rfl) ?_
                refine lv_aload_n hx hb dX4_leastRow_97 rfl (lv_at hl 4 rfl) ?_
                refine va_get (D := (dC, dI)) (ci := 4) (v := .ref cd0) (C := RX4) (T := TX4) (N := 3) hx hb hts uX4 hown hK hP 0 rfl rfl 2 (by decide) (hts _ kfX4_18) (fun _ h9 => h9) rfl dX4_leastRow_98 ?_
                refine vp_callSl (va_Run.run (va_runV (As := [.ref cd0]) (rest := []) ⟨hx, hb, hml, hown, hts⟩ (c_Form_rowOf l dC dI cI cL cQ cZ f0 a1 a2 n5 jn nm5 pl5 cd0 cd7 (show n5 ≤ 4 from by (exact hf5.1)) (show ∀ j, cd7 j < 4096 from by (exact hcd7))) (q_cwV 1 hts gkX3_rowOf kmX4_44 knX3_rowOf klX3_rowOf kiX3 rfl rfl rfl (by decide +kernel) ⟨Nat.le_of_ble_eq_true rfl, Nat.le_of_ble_eq_true rfl⟩) (q_preV hK hP [4, 5, 6, 3] rfl 4 (ci := 3) (r := (RX3, TX3, 4)) rfl rfl) rfl rfl hl.1 rfl (lv_room (Nat.le_of_ble_eq_true rfl)) dX4_leastRow_101 ⟨Nat.zero_le _, Nat.zero_le _⟩)) (fun r7 hr7 => ?_)
                subst hr7
                refine lv_lstore (lv' := [(7, .long (lN (f_row jn n5 cd7))), (6, .int (nI (o))), (4, .long (lN (w))), (3, .int (nI (k6))), (0, .ref m0), (1, .ref f0)]) hx hb dX4_leastRow_104 hl (by decide) rfl (fun ls hl => ?_)
                have hndt : c_ndt z os6 k6 (c_tbC o) := ⟨hzf, fun a9 h9 => hz a9 (by omega)⟩
                have hrow : c_rowof (c_set nm5 pl5 n5) jn z (f_row jn n5 cd7) := c_rowof_mk hf5.1 hn5 hsrt
                have hrw : f_row jn n5 cd7 < 2 ^ 52 := (d_row hf5.1 (fun j9 _ => hcd7 j9)).2.2.2
                refine lv_iload hx hb dX4_leastRow_106 (lv_at hl 1 rfl) ?_
                refine q_if_eq (x := o) (tgt := 119) hx hb dX4_leastRow_108 (by decide) (by omega) (fun c108_8 => ?_) (fun c108_8 => ?_)
                · refine lv_lload hx hb dX4_leastRow_119 (lv_at hl 0 rfl) ?_
                  refine lv_lstore (lv' := [(4, .long (lN (f_row jn n5 cd7))), (7, .long (lN (f_row jn n5 cd7))), (6, .int (nI (o))), (3, .int (nI (k6))), (0, .ref m0), (1, .ref f0)]) hx hb dX4_leastRow_121 hl (by decide) rfl (fun ls hl => ?_)
                  refine lv_iinc (v := (nI (o + 1))) (lv' := [(6, .int (nI (o + 1))), (4, .long (lN (f_row jn n5 cd7))), (7, .long (lN (f_row jn n5 cd7))), (3, .int (nI (k6))), (0, .ref m0), (1, .ref f0)]) hx hb dX4_leastRow_123 hl (k := 2) rfl (q_inc _) (by decide) rfl (fun ls hl => ?_)
                  refine lv_goto (tgt := 41) hx hb dX4_leastRow_126 (by decide) ?_
                  exact ih41 (o + 1) (f_row jn n5 cd7) z cd7 ls _ _ (by omega) (show (o + 1) ≤ c_ways k6 from by omega) (show (f_row jn n5 cd7) < 2 ^ 52 from by (first | exact hwb | exact hrw)) (show c_nmk z os6 cd7 from by (exact ⟨hzb, hzf, hos6, hcd7⟩)) (show c_lsw (c_set nm5 pl5 n5) jn os6 k6 c_tbC (o + 1) (f_row jn n5 cd7) from by (first | (exact c_lsw_z ko (by omega) hndt hrow) | (exact c_lsw_lt ko hls (by omega) hndt hrow (by have h9 := (not_congr (lg_cmpL (a := f_row jn n5 cd7) (b := w) (by omega) (by omega))).mp (by assumption); omega)) | (exact c_lsw_ge ko hls (by omega) hndt hrow ((lg_cmpL (by omega) (by omega)).mp (by assumption))))) (lv_sub hl [0, 1, 3, 4, 5] rfl) (hP.sub [0, 1, 2, 3, 4, 5, 6] rfl) (hD.sub [0, 1, 2, 3, 4, 5, 6] (by decide) rfl) hS
                · refine lv_lload hx hb dX4_leastRow_111 (lv_at hl 0 rfl) ?_
                  refine lv_lload hx hb dX4_leastRow_113 (lv_at hl 2 rfl) ?_
                  refine W.lcmp hx hb dX4_leastRow_115 ?_
                  refine lv_if_ge (tgt := 123) hx hb dX4_leastRow_116 (by decide) (fun c116_9 => ?_) (fun c116_9 => ?_)
                  · refine lv_iinc (v := (nI (o + 1))) (lv' := [(6, .int (nI (o + 1))), (7, .long (lN (f_row jn n5 cd7))), (4, .long (lN (w))), (3, .int (nI (k6))), (0, .ref m0), (1, .ref f0)]) hx hb dX4_leastRow_123 hl (k := 1) rfl (q_inc _) (by decide) rfl (fun ls hl => ?_)
                    refine lv_goto (tgt := 41) hx hb dX4_leastRow_126 (by decide) ?_
                    exact ih41 (o + 1) w z cd7 ls _ _ (by omega) (show (o + 1) ≤ c_ways k6 from by omega) (show w < 2 ^ 52 from by (first | exact hwb | exact hrw)) (show c_nmk z os6 cd7 from by (exact ⟨hzb, hzf, hos6, hcd7⟩)) (show c_lsw (c_set nm5 pl5 n5) jn os6 k6 c_tbC (o + 1) w from by (first | (exact c_lsw_z ko (by omega) hndt hrow) | (exact c_lsw_lt ko hls (by omega) hndt hrow (by have h9 := (not_congr (lg_cmpL (a := f_row jn n5 cd7) (b := w) (by omega) (by omega))).mp (by assumption); omega)) | (exact c_lsw_ge ko hls (by omega) hndt hrow ((lg_cmpL (by omega) (by omega)).mp (by assumption))))) (lv_sub hl [0, 2, 3, 4, 5] rfl) (hP.sub [0, 1, 2, 3, 4, 5, 6] rfl) (hD.sub [0, 1, 2, 3, 4, 5, 6] (by decide) rfl) hS
                  · refine lv_lload hx hb dX4_leastRow_119 (lv_at hl 0 rfl) ?_
                    refine lv_lstore (lv' := [(4, .long (lN (f_row jn n5 cd7))), (7, .long (lN (f_row jn n5 cd7))), (6, .int (nI (o))), (3, .int (nI (k6))), (0, .ref m0), (1, .ref f0)]) hx hb dX4_leastRow_121 hl (by decide) rfl (fun ls hl => ?_)
                    refine lv_iinc (v := (nI (o + 1))) (lv' := [(6, .int (nI (o + 1))), (4, .long (lN (f_row jn n5 cd7))), (7, .long (lN (f_row jn n5 cd7))), (3, .int (nI (k6))), (0, .ref m0), (1, .ref f0)]) hx hb dX4_leastRow_123 hl (k := 2) rfl (q_inc _) (by decide) rfl (fun ls hl => ?_)
                    refine lv_goto (tgt := 41) hx hb dX4_leastRow_126 (by decide) ?_
                    exact ih41 (o + 1) (f_row jn n5 cd7) z cd7 ls _ _ (by omega) (show (o + 1) ≤ c_ways k6 from by omega) (show (f_row jn n5 cd7) < 2 ^ 52 from by (first | exact hwb | exact hrw)) (show c_nmk z os6 cd7 from by (exact ⟨hzb, hzf, hos6, hcd7⟩)) (show c_lsw (c_set nm5 pl5 n5) jn os6 k6 c_tbC (o + 1) (f_row jn n5 cd7) from by (first | (exact c_lsw_z ko (by omega) hndt hrow) | (exact c_lsw_lt ko hls (by omega) hndt hrow (by have h9 := (not_congr (lg_cmpL (a := f_row jn n5 cd7) (b := w) (by omega) (by omega))).mp (by assumption); omega)) | (exact c_lsw_ge ko hls (by omega) hndt hrow ((lg_cmpL (by omega) (by omega)).mp (by assumption))))) (lv_sub hl [0, 1, 3, 4, 5] rfl) (hP.sub [0, 1, 2, 3, 4, 5, 6] rfl) (hD.sub [0, 1, 2, 3, 4, 5, 6] (by decide) rfl) hS
              · refine lv_aload_n hx hb dX4_leastRow_60 rfl (lv_at hl 4 rfl) ?_
                refine va_get (D := (dC, dI)) (ci := 4) (v := .ref nd0) (C := RX4) (T := TX4) (N := 3) hx hb hts uX4 hown hK hP 0 rfl rfl 0 (by decide) (hts _ kfX4_9) (fun _ h9 => h9) rfl dX4_leastRow_61 ?_
                refine lv_aload_n hx hb dX4_leastRow_64 rfl (lv_at hl 4 rfl) ?_
                refine va_get (D := (dC, dI)) (ci := 4) (v := .ref os0) (C := RX4) (T := TX4) (N := 3) hx hb hts uX4 hown hK hP 0 rfl rfl 1 (by decide) (hts _ kfX4_15) (fun _ h9 => h9) rfl dX4_leastRow_65 ?_
                refine lv_iload hx hb dX4_leastRow_68 (lv_at hl 0 rfl) ?_
                refine q_ialdN hx hb hK hP 2 0 rfl rfl (j := i) (by omega) (by omega) dX4_leastRow_70 ?_
                have bd10 := hos6 i
                refine lv_iconst (v := (nI (2))) hx hb dX4_leastRow_71 (by decide) ?_
                refine va_gets (C := RX4) (v := .ref t1) hx hb hZ1 hS hown (hts _ kfX4_37) (fun _ h9 => h9) dX4_leastRow_72 ?_
                refine lv_iconst (v := (nI (4))) hx hb dX4_leastRow_75 (by decide) ?_
                refine lv_iload hx hb dX4_leastRow_76 (lv_at hl 1 rfl) ?_
                refine q_imul (x := 4) (y := o) hx hb dX4_leastRow_78 ?_
                refine lv_iload hx hb dX4_leastRow_79 (lv_at hl 0 rfl) ?_
                refine q_iadd (x := 4 * o) (y := i) hx hb dX4_leastRow_81 ?_
                refine q_tiN (g := c_ord) hx hb hT1 hS (j := (4 * o) + i) (by omega) (by decide) dX4_leastRow_82 ?_
                refine q_iadd (x := 2) (y := c_ord ((4 * o) + i)) hx hb dX4_leastRow_83 ?_
                refine q_iastN hx hb hK hP hD hS 1 0 rfl rfl (j := os6 i) (x := 2 + (c_ord ((4 * o) + i))) (by omega) (by omega) dX4_leastRow_84 (fun H locs hP hD hS => ?_)
                have hP : va_P (dC, dI) qCl [(m0, .inr (4, [.ref nd0, .ref os0, .ref cd0])), (nd0, .inl (cI, 16, .inl (nF (va_up z (os6 i) (2 + (c_ord ((4 * o) + i))))))), (os0, .inl (cI, 4, .inl (nF os6))), (cd0, .inl (cI, 4, .inl (nF cz))), (f0, .inr (3, [.ref a1, .ref a2, .int (nI (n5)), .int (bI (jn))])), (a1, .inl (cI, 4, .inl (nF nm5))), (a2, .inl (cI, 8, .inl (nF pl5)))] H := hP
                have hD : va_D A [(m0, .inr (4, [.ref nd0, .ref os0, .ref cd0])), (nd0, .inl (cI, 16, .inl (nF (va_up z (os6 i) (2 + (c_ord ((4 * o) + i))))))), (os0, .inl (cI, 4, .inl (nF os6))), (cd0, .inl (cI, 4, .inl (nF cz))), (f0, .inr (3, [.ref a1, .ref a2, .int (nI (n5)), .int (bI (jn))])), (a1, .inl (cI, 4, .inl (nF nm5))), (a2, .inl (cI, 8, .inl (nF pl5)))] := hD
                refine lv_iinc (v := (nI (i + 1))) (lv' := [(7, .int (nI (i + 1))), (6, .int (nI (o))), (4, .long (lN (w))), (3, .int (nI (k6))), (0, .ref m0), (1, .ref f0)]) hx hb dX4_leastRow_85 hl (k := 0) rfl (q_inc _) (by decide) rfl (fun ls hl => ?_)
                refine lv_goto (tgt := 54) hx hb dX4_leastRow_88 (by decide) ?_
                exact ih54 (i + 1) (va_up z (os6 i) (2 + (c_ord ((4 * o) + i)))) ls _ _ (by omega) (show (i + 1) ≤ k6 from by omega) (show ∀ j7, (va_up z (os6 i) (2 + (c_ord ((4 * o) + i)))) j7 < 8 from by (exact up_lt hzb (by have := c_tbC_lt (4 * o + i); omega))) (show c_fix (va_up z (os6 i) (2 + (c_ord ((4 * o) + i)))) from by (exact c_fix_up hzf (ko.1 i (by omega)).1)) (show c_nmd (va_up z (os6 i) (2 + (c_ord ((4 * o) + i)))) os6 o (i + 1) from by (exact c_nmd_s hz (show i < k6 by omega) ko.2.1)) (lv_sub hl [0, 1, 2, 3, 4, 5] rfl) (hP.sub [0, 1, 2, 3, 4, 5, 6] rfl) (hD.sub [0, 1, 2, 3, 4, 5, 6] (by decide) rfl) hS
          exact L54 _ 0 y ls _ _ (by exact Nat.lt_succ_self _) (show 0 ≤ k6 from by omega) (show ∀ j7, y j7 < 8 from by (exact hyk.1)) (show c_fix y from by (exact hyk.2.1)) (show c_nmd y os6 o 0 from by (exact c_nmd_0 _ _ _)) (lv_sub hl [0, 1, 2, 3, 4, 5] rfl) (hP.sub [0, 1, 2, 3, 4, 5, 6] rfl) (hD.sub [0, 1, 2, 3, 4, 5, 6] (by decide) rfl) hS
    exact L41 _ 0 0 nd cd ls _ _ (by exact Nat.lt_succ_self _) (show 0 ≤ c_ways k6 from by omega) (show 0 < 2 ^ 52 from by omega) (show c_nmk nd os6 cd from by (exact ⟨hnk.1, hnk.2.1, hos6, hnk.2.2.2⟩)) (show c_lsw (c_set nm5 pl5 n5) jn os6 k6 c_tbC 0 0 from by (exact Or.inl ⟨rfl, rfl⟩)) (lv_sub hl [0, 1, 2, 3, 4] rfl) (hP.sub [0, 1, 2, 3, 4, 5, 6] rfl) (hD.sub [0, 1, 2, 3, 4, 5, 6] (by decide) rfl) hS
  refine lv_iconst (v := (nI (1))) hx hb dX4_leastRow_0 (by decide) ?_
  refine lv_istore_n (lv' := [(2, .int (nI (1))), (0, .ref m0), (1, .ref f0)]) hx hb dX4_leastRow_1 rfl hl (by decide) rfl (fun ls hl => ?_)
  refine lv_iconst (v := (nI (0))) hx hb dX4_leastRow_2 (by decide) ?_
  refine lv_istore_n (lv' := [(3, .int (nI (0))), (2, .int (nI (1))), (0, .ref m0), (1, .ref f0)]) hx hb dX4_leastRow_3 rfl hl (by decide) rfl (fun ls hl => ?_)
  have L4 : ∀ (fu : Nat) (ch : Bool) (r9 : Nat) (sz : Nat) (g1 : Nat → Nat) (g2 : Nat → Nat) (ls : Array Slot) (H : Heap) (locs : List Loc), 9 - r9 < fu → (r9 ≤ 9) → (c_fmk sz g1 g2) → (c_rnd nm pl n g1 g2 sz ch r9) → lv_has ls 9 [(3, .int (nI (r9))), (2, .int (bI (ch))), (0, .ref m0), (1, .ref f0)] → va_P (dC, dI) qCl [(m0, .inr (4, [.ref nd0, .ref os0, .ref cd0])), (nd0, .inl (cI, 16, .inl (nF nd))), (os0, .inl (cI, 4, .inl (nF os))), (cd0, .inl (cI, 4, .inl (nF cd))), (f0, .inr (3, [.ref a1, .ref a2, .int (nI (sz)), .int (bI (jn))])), (a1, .inl (cI, 4, .inl (nF g1))), (a2, .inl (cI, 8, .inl (nF g2)))] H → va_D A [(m0, .inr (4, [.ref nd0, .ref os0, .ref cd0])), (nd0, .inl (cI, 16, .inl (nF nd))), (os0, .inl (cI, 4, .inl (nF os))), (cd0, .inl (cI, 4, .inl (nF cd))), (f0, .inr (3, [.ref a1, .ref a2, .int (nI (sz)), .int (bI (jn))])), (a1, .inl (cI, 4, .inl (nF g1))), (a2, .inl (cI, 8, .inl (nF g2)))] → va_S A s.heap H locs → W p l e (headSpec wkX4_leastRow rm_c_Namer_leastRow).room s m args below meth c H locs 0 0 Q (F0 m 4 ls []) := by
    intro fu
    induction fu with
    | zero => intro ch r9 sz g1 g2 ls H locs hmu; exact absurd hmu (Nat.not_lt_zero _)
    | succ fu ih4 =>
      intro ch r9 sz g1 g2 ls H locs hmu hr9 hg hrd hl hP hD hS
      refine lv_iload_n hx hb dX4_leastRow_4 rfl (lv_at hl 1 rfl) ?_
      refine q_ifb_eq (b := ch) (tgt := 29) hx hb dX4_leastRow_5 (by decide) (fun c5_11 => ?_) (fun c5_11 => ?_)
      · exact L29 sz g1 g2 ls _ _ (show c_fmk sz g1 g2 from by (exact hg)) (show c_rest (c_set nm pl n) g1 g2 sz from by (first | (exact c_rnd_end hrd (Or.inl (by assumption))) | (exact c_rnd_end hrd (Or.inr (by omega))))) (lv_sub hl [2, 3] rfl) (hP.sub [0, 1, 2, 3, 4, 5, 6] rfl) (hD.sub [0, 1, 2, 3, 4, 5, 6] (by decide) rfl) hS
      · refine lv_iload_n hx hb dX4_leastRow_8 rfl (lv_at hl 0 rfl) ?_
        refine lv_bipush (v := (nI (9))) hx hb dX4_leastRow_9 (by decide) ?_
        refine q_icmp_ge (x := r9) (y := 9) (tgt := 29) hx hb dX4_leastRow_11 (by decide) (by omega) (by omega) (fun c11_12 => ?_) (fun c11_12 => ?_)
        · exact L29 sz g1 g2 ls _ _ (show c_fmk sz g1 g2 from by (exact hg)) (show c_rest (c_set nm pl n) g1 g2 sz from by (first | (exact c_rnd_end hrd (Or.inl (by assumption))) | (exact c_rnd_end hrd (Or.inr (by omega))))) (lv_sub hl [2, 3] rfl) (hP.sub [0, 1, 2, 3, 4, 5, 6] rfl) (hD.sub [0, 1, 2, 3, 4, 5, 6] (by decide) rfl) hS
        · refine lv_aload_n hx hb dX4_leastRow_14 rfl (lv_at hl 3 rfl) ?_
          refine q_joinv (wr := [(m0, .inr (4, [.ref nd0, .ref os0, .ref cd0])), (nd0, .inl (cI, 16, .inl (nF nd))), (os0, .inl (cI, 4, .inl (nF os))), (cd0, .inl (cI, 4, .inl (nF cd)))]) (va_runV (As := []) (rest := []) ⟨hx, hb, hml, hown, hts⟩ (c_Form_dropEqual l dC dI cI cL cQ cZ f0 a1 a2 sz jn g1 g2 (show sz ≤ 4 from by (exact hg.1)) (show ∀ j, g1 j < 64 from by (exact hg.2.1)) (show ∀ j, g2 j < 16 from by (exact hg.2.2))) (q_cwV 0 hts gkX3_dropEqual kmX4_21 knX3_dropEqual klX3_dropEqual kiX3 rfl rfl rfl (by decide +kernel) ⟨Nat.le_of_ble_eq_true rfl, Nat.le_of_ble_eq_true rfl⟩) (q_preVW hK hP hD [4, 5, 6] rfl (by decide) 4 (ci := 3) (r := (RX3, TX3, 4)) rfl rfl) rfl rfl hl.1 rfl (lv_room (Nat.le_of_ble_eq_true rfl)) dX4_leastRow_15 ⟨Nat.zero_le _, Nat.zero_le _⟩) hP hD hS [4, 5, 6] [0, 1, 2, 3] rfl rfl (by decide) (fun _ => rfl) (fun u9 H locs hq14 hP hD hS => ?_)
          obtain ⟨n8, nm8, pl8⟩ := u9
          have hq14 : (n8 ≤ sz) ∧ (∀ j, nm8 j < 64) ∧ (∀ j, pl8 j < 16) ∧ (f_set g1 g2 sz nm8 pl8 n8) ∧ (f_ndi nm8 pl8 n8 n8) := hq14
          obtain ⟨kn1, knm, kpl, kset, knd⟩ := hq14
          have hlast := knd
          have hP : va_P (dC, dI) qCl [(m0, .inr (4, [.ref nd0, .ref os0, .ref cd0])), (nd0, .inl (cI, 16, .inl (nF nd))), (os0, .inl (cI, 4, .inl (nF os))), (cd0, .inl (cI, 4, .inl (nF cd))), (f0, .inr (3, [.ref a1, .ref a2, .int (nI (n8)), .int (bI (jn))])), (a1, .inl (cI, 4, .inl (nF nm8))), (a2, .inl (cI, 8, .inl (nF pl8)))] H := hP
          have hD : va_D A [(m0, .inr (4, [.ref nd0, .ref os0, .ref cd0])), (nd0, .inl (cI, 16, .inl (nF nd))), (os0, .inl (cI, 4, .inl (nF os))), (cd0, .inl (cI, 4, .inl (nF cd))), (f0, .inr (3, [.ref a1, .ref a2, .int (nI (n8)), .int (bI (jn))])), (a1, .inl (cI, 4, .inl (nF nm8))), (a2, .inl (cI, 8, .inl (nF pl8)))] := hD
          refine lv_aload_n hx hb dX4_leastRow_18 rfl (lv_at hl 3 rfl) ?_
          refine q_joini (wr := [(m0, .inr (4, [.ref nd0, .ref os0, .ref cd0])), (nd0, .inl (cI, 16, .inl (nF nd))), (os0, .inl (cI, 4, .inl (nF os))), (cd0, .inl (cI, 4, .inl (nF cd)))]) (va_runS (As := [.ref f0]) (rest := []) ⟨hx, hb, hml, hown, hts⟩ (c_Namer_freeSingle l dC dI cI cL cQ cZ f0 a1 a2 n8 jn nm8 pl8 (show n8 ≤ 4 from by (have := hg.1; omega)) (show ∀ j, pl8 j < 16 from by (exact kpl))) (q_cwS 1 hts gkX4_freeSingle kmX4_26 ksX4_freeSingle kiX4 rfl rfl rfl (by decide +kernel) ⟨Nat.le_of_ble_eq_true rfl, Nat.le_of_ble_eq_true rfl⟩) (q_preSW hK hP hD [4, 5, 6] rfl (by decide)) rfl rfl hl.1 rfl (lv_room (Nat.le_of_ble_eq_true rfl)) dX4_leastRow_19 ⟨Nat.zero_le _, Nat.zero_le _⟩) hP hD hS [4, 5, 6] [0, 1, 2, 3] rfl rfl (by decide) (fun _ => rfl) (fun r15 u9 H locs hq16 hP hD hS => ?_)
          obtain ⟨fr, pl9⟩ := u9
          have hq16 : (r15 = (bI (fr))) ∧ (fr = true ↔ f_anyl pl8 (2 * n8) (2 * n8)) ∧ (f_frd pl8 (2 * n8) (2 * n8) pl9) ∧ (∀ j, pl9 j < 16) := hq16
          obtain ⟨er15, kb2, kfr, kpl6⟩ := hq16
          have hlast := kpl6
          subst er15
          have hP : va_P (dC, dI) qCl [(m0, .inr (4, [.ref nd0, .ref os0, .ref cd0])), (nd0, .inl (cI, 16, .inl (nF nd))), (os0, .inl (cI, 4, .inl (nF os))), (cd0, .inl (cI, 4, .inl (nF cd))), (f0, .inr (3, [.ref a1, .ref a2, .int (nI (n8)), .int (bI (jn))])), (a1, .inl (cI, 4, .inl (nF nm8))), (a2, .inl (cI, 8, .inl (nF pl9)))] H := hP
          have hD : va_D A [(m0, .inr (4, [.ref nd0, .ref os0, .ref cd0])), (nd0, .inl (cI, 16, .inl (nF nd))), (os0, .inl (cI, 4, .inl (nF os))), (cd0, .inl (cI, 4, .inl (nF cd))), (f0, .inr (3, [.ref a1, .ref a2, .int (nI (n8)), .int (bI (jn))])), (a1, .inl (cI, 4, .inl (nF nm8))), (a2, .inl (cI, 8, .inl (nF pl9)))] := hD
          refine lv_istore_n (lv' := [(2, .int (bI (fr))), (3, .int (nI (r9))), (0, .ref m0), (1, .ref f0)]) hx hb dX4_leastRow_22 rfl hl (by decide) rfl (fun ls hl => ?_)
          refine lv_iinc (v := (nI (r9 + 1))) (lv' := [(3, .int (nI (r9 + 1))), (2, .int (bI (fr))), (0, .ref m0), (1, .ref f0)]) hx hb dX4_leastRow_23 hl (k := 1) rfl (q_inc _) (by decide) rfl (fun ls hl => ?_)
          refine lv_goto (tgt := 4) hx hb dX4_leastRow_26 (by decide) ?_
          exact ih4 fr (r9 + 1) n8 nm8 pl9 ls _ _ (by omega) (show (r9 + 1) ≤ 9 from by omega) (show c_fmk n8 nm8 pl9 from by (exact ⟨by have := hg.1; omega, knm, kpl6⟩)) (show c_rnd nm pl n nm8 pl9 n8 fr (r9 + 1) from by (exact c_rnd_s (pl1 := pl8) (show c_rnd nm pl n g1 g2 sz true r9 by rw [← (show ch = true by assumption)]; exact hrd) kset knd kb2 kfr)) (lv_sub hl [0, 1, 2, 3] rfl) (hP.sub [0, 1, 2, 3, 4, 5, 6] rfl) (hD.sub [0, 1, 2, 3, 4, 5, 6] (by decide) rfl) hS
  exact L4 _ true 0 n nm pl ls _ _ (by exact Nat.lt_succ_self _) (show 0 ≤ 9 from by omega) (show c_fmk n nm pl from by (exact hfm)) (show c_rnd nm pl n nm pl n true 0 from by (exact c_rnd_0 hfm.1)) (lv_sub hl [0, 1, 2, 3] rfl) (hP.sub [0, 1, 2, 3, 4, 5, 6] rfl) (hD.sub [0, 1, 2, 3, 4, 5, 6] (by decide) rfl) hS
