set_option maxHeartbeats 4000000 in
set_option maxRecDepth 100000 in
theorem c_X4_keep_0 (l : Launch) (hl0 : l.stackTraces = false) (D : va_G) (ad : Nat → Nat) (sz : Nat) (h0 : Nat) (h1 : Nat) (h2 : Nat) (h3 : Nat) (h4 : Nat) (h5 : Nat) (h6 : Nat) (h7 : Nat) (h8 : Nat) (h9 : Nat) (h10 : Nat) (h11 : Nat) (h12 : Nat) (h13 : Nat) (k1 : ClassId) (k4 : ClassId) (k5 : ClassId) (k6 : ClassId) (k7 : ClassId) (k8 : ClassId) (k9 : ClassId) (k11 : ClassId) (k13 : ClassId) (r0 : Nat) (r1 : Nat) (r2 : Nat) (r3 : Nat) (r4 : Nat) (r5 : Nat) (r6 : Nat) (v0 : Value) (v1 : Value) (v2 : Value) (v3 : Value) (v4 : Value) (v5 : Value) (v6 : Value) (v7 : Value) (v8 : Value) (f0 : Nat → Int32) (f1 : Nat → Int32) : Met l yX4_keep wsX4_keep ({ frames := 3, cells := 0, slots := 0, locals := 106 }) (PC_ D ad [(h0, .inr (7, [.ref h1, .int 0, .int 0])), (h1, .inl (k1, 8, .inr (.inr (.inr (.inr (va_up (va_up (va_up (va_up (va_up (va_up (va_up (va_up (fun _ => none) 0 (some r0)) 1 (some h3)) 2 (some r1)) 3 (some r2)) 4 (some r3)) 5 (some r4)) 6 (some r5)) 7 (some r6))))))), (h2, .inr (11, [v0, .ref h4, .ref h6, .ref h8, .ref h12, .int 0, .int 0, .int 0, .int 0, .int 0])), (h3, .inr (11, [v1, .ref h5, .ref h7, .ref h9, .ref h10, v2, v3, v4, v5, v6])), (h4, .inl (k4, 6, .inl (fun _ => 0))), (h5, .inl (k5, 6, .inl (fun _ => 0))), (h6, .inl (k6, 36, .inl (fun _ => 0))), (h7, .inl (k7, 36, .inl (fun _ => 0))), (h8, .inl (k8, 36, .inl (fun _ => 0))), (h9, .inl (k9, 36, .inl (fun _ => 0))), (h10, .inr (8, [.ref h11, v7, v8])), (h11, .inl (k11, 64, .inl f0)), (h12, .inr (8, [.ref h13, .int 0, .int 0])), (h13, .inl (k13, 64, .inl f1))] [(k1, .object "CanalMaps$Survey"), (k4, .int), (k5, .int), (k6, .int), (k7, .int), (k8, .int), (k9, .int), (k11, .int), (k13, .int)] sz [.ref h0, .ref h2]) (QG_ D (fun q i => none) (fun q i => True) (fun q k i => [(h0, .inr (7, [.ref h1, .int 1, .int 1])), (h1, .inl (k1, 8, .inr (.inr (.inr (.inr (va_up (va_up (va_up (va_up (va_up (va_up (va_up (va_up (fun _ => none) 0 (some r0)) 1 (some h3)) 2 (some r1)) 3 (some r2)) 4 (some r3)) 5 (some r4)) 6 (some r5)) 7 (some r6))))))), (h2, .inr (11, [v0, .ref h4, .ref h6, .ref h8, .ref h12, .int 0, .int 0, .int 0, .int 0, .int 0])), (h3, .inr (11, [v1, .ref h5, .ref h7, .ref h9, .ref h10, .int 0, .int 0, .int 0, .int 0, .int 0])), (h4, .inl (k4, 6, .inl (fun _ => 0))), (h5, .inl (k5, 6, .inl (fun _ => 0))), (h6, .inl (k6, 36, .inl (fun _ => 0))), (h7, .inl (k7, 36, .inl (fun _ => 0))), (h8, .inl (k8, 36, .inl (fun _ => 0))), (h9, .inl (k9, 36, .inl (fun _ => 0))), (h10, .inr (8, [.ref h11, .int 0, .int 0])), (h11, .inl (k11, 64, .inl f0)), (h12, .inr (8, [.ref h13, .int 0, .int 0])), (h13, .inl (k13, 64, .inl f1))]) (fun q k i => [(k1, .object "CanalMaps$Survey"), (k4, .int), (k5, .int), (k6, .int), (k7, .int), (k8, .int), (k9, .int), (k11, .int), (k13, .int)]) (va_A [(h0, .inr (7, [.ref h1, .int 0, .int 0])), (h1, .inl (k1, 8, .inr (.inr (.inr (.inr (va_up (va_up (va_up (va_up (va_up (va_up (va_up (va_up (fun _ => none) 0 (some r0)) 1 (some h3)) 2 (some r1)) 3 (some r2)) 4 (some r3)) 5 (some r4)) 6 (some r5)) 7 (some r6))))))), (h2, .inr (11, [v0, .ref h4, .ref h6, .ref h8, .ref h12, .int 0, .int 0, .int 0, .int 0, .int 0])), (h3, .inr (11, [v1, .ref h5, .ref h7, .ref h9, .ref h10, v2, v3, v4, v5, v6])), (h4, .inl (k4, 6, .inl (fun _ => 0))), (h5, .inl (k5, 6, .inl (fun _ => 0))), (h6, .inl (k6, 36, .inl (fun _ => 0))), (h7, .inl (k7, 36, .inl (fun _ => 0))), (h8, .inl (k8, 36, .inl (fun _ => 0))), (h9, .inl (k9, 36, .inl (fun _ => 0))), (h10, .inr (8, [.ref h11, v7, v8])), (h11, .inl (k11, 64, .inl f0)), (h12, .inr (8, [.ref h13, .int 0, .int 0])), (h13, .inl (k13, 64, .inl f1))] sz)) 0 0 (va_A [(h0, .inr (7, [.ref h1, .int 0, .int 0])), (h1, .inl (k1, 8, .inr (.inr (.inr (.inr (va_up (va_up (va_up (va_up (va_up (va_up (va_up (va_up (fun _ => none) 0 (some r0)) 1 (some h3)) 2 (some r1)) 3 (some r2)) 4 (some r3)) 5 (some r4)) 6 (some r5)) 7 (some r6))))))), (h2, .inr (11, [v0, .ref h4, .ref h6, .ref h8, .ref h12, .int 0, .int 0, .int 0, .int 0, .int 0])), (h3, .inr (11, [v1, .ref h5, .ref h7, .ref h9, .ref h10, v2, v3, v4, v5, v6])), (h4, .inl (k4, 6, .inl (fun _ => 0))), (h5, .inl (k5, 6, .inl (fun _ => 0))), (h6, .inl (k6, 36, .inl (fun _ => 0))), (h7, .inl (k7, 36, .inl (fun _ => 0))), (h8, .inl (k8, 36, .inl (fun _ => 0))), (h9, .inl (k9, 36, .inl (fun _ => 0))), (h10, .inr (8, [.ref h11, v7, v8])), (h11, .inl (k11, 64, .inl f0)), (h12, .inr (8, [.ref h13, .int 0, .int 0])), (h13, .inl (k13, 64, .inl f1))] sz) := by
  refine Met.ofW (cc := cX4_keep) (maxL := 2) (ret := none) (by decide) rfl ?_
  intro p e s m args below meth c s₁ B hml hv
  obtain ⟨rfl, hsz, hP, hK, hD0, hF⟩ := hv
  have hx := B.exec
  have hb := B.bytes
  have hr := B.returns
  have hts := atoms_spec (ws := wsX4_keep) B.pre
  have hown : s.vm.findClass RX4 = some m.cls := findClass_of_methodNamed B.named
  have hlocks := B.notSynchronized
  subst hsz
  have hD := hD0.self (sz := s.heap.size)
  generalize hAe : va_A [(h0, .inr (7, [.ref h1, .int 0, .int 0])), (h1, .inl (k1, 8, .inr (.inr (.inr (.inr (va_up (va_up (va_up (va_up (va_up (va_up (va_up (va_up (fun _ => none) 0 (some r0)) 1 (some h3)) 2 (some r1)) 3 (some r2)) 4 (some r3)) 5 (some r4)) 6 (some r5)) 7 (some r6))))))), (h2, .inr (11, [v0, .ref h4, .ref h6, .ref h8, .ref h12, .int 0, .int 0, .int 0, .int 0, .int 0])), (h3, .inr (11, [v1, .ref h5, .ref h7, .ref h9, .ref h10, v2, v3, v4, v5, v6])), (h4, .inl (k4, 6, .inl (fun _ => 0))), (h5, .inl (k5, 6, .inl (fun _ => 0))), (h6, .inl (k6, 36, .inl (fun _ => 0))), (h7, .inl (k7, 36, .inl (fun _ => 0))), (h8, .inl (k8, 36, .inl (fun _ => 0))), (h9, .inl (k9, 36, .inl (fun _ => 0))), (h10, .inr (8, [.ref h11, v7, v8])), (h11, .inl (k11, 64, .inl f0)), (h12, .inr (8, [.ref h13, .int 0, .int 0])), (h13, .inl (k13, 64, .inl f1))] s.heap.size = A at hD hF ⊢
  have hA : ∀ q : Nat, s.heap.size ≤ q → A q := fun q h => by rw [← hAe]; exact Or.inr h
  obtain ⟨H, hHe⟩ : ∃ H : Heap, H = s.heap := ⟨_, rfl⟩
  have hS : va_S A s.heap H [] := by rw [hHe]; exact va_S.rf
  have hP : va_P D vwCl [(h0, .inr (7, [.ref h1, .int 0, .int 0])), (h1, .inl (k1, 8, .inr (.inr (.inr (.inr (va_up (va_up (va_up (va_up (va_up (va_up (va_up (va_up (fun _ => none) 0 (some r0)) 1 (some h3)) 2 (some r1)) 3 (some r2)) 4 (some r3)) 5 (some r4)) 6 (some r5)) 7 (some r6))))))), (h2, .inr (11, [v0, .ref h4, .ref h6, .ref h8, .ref h12, .int 0, .int 0, .int 0, .int 0, .int 0])), (h3, .inr (11, [v1, .ref h5, .ref h7, .ref h9, .ref h10, v2, v3, v4, v5, v6])), (h4, .inl (k4, 6, .inl (fun _ => 0))), (h5, .inl (k5, 6, .inl (fun _ => 0))), (h6, .inl (k6, 36, .inl (fun _ => 0))), (h7, .inl (k7, 36, .inl (fun _ => 0))), (h8, .inl (k8, 36, .inl (fun _ => 0))), (h9, .inl (k9, 36, .inl (fun _ => 0))), (h10, .inr (8, [.ref h11, v7, v8])), (h11, .inl (k11, 64, .inl f0)), (h12, .inr (8, [.ref h13, .int 0, .int 0])), (h13, .inl (k13, 64, .inl f1))] H := by rw [hHe]; exact hP
  rw [← hHe]
  have hi_X4 : ∀ w ∈ wsX40, w ∈ wsX4_keep := by decide +kernel
  have hi_X5 : ∀ w ∈ wsX50, w ∈ wsX4_keep := by decide +kernel
  have hi_X8 : ∀ w ∈ wsX80, w ∈ wsX4_keep := by decide +kernel
  have hl := lv_entry [.ref h0, .ref h2] (n := 2) (Nat.le_of_ble_eq_true rfl)
  rw [lg_entry_eq]
  generalize (lg_sl [.ref h0, .ref h2] ++ List.replicate (2 - (lg_sl [.ref h0, .ref h2]).length) Slot.unset).toArray = ls at hl ⊢
  have hl : lv_has ls 2 [(0, .ref h0), (1, .ref h2)] := hl
  refine lv_aload_n hx hb dX4_keep_0 rfl (lv_at hl 0 rfl) ?_
  refine lv_aload_n hx hb dX4_keep_1 rfl (lv_at hl 0 rfl) ?_
  refine va_get (D := D) (ci := 7) (v := .int 0) (own := RX4) (C := RX4) (T := TX4) (N := 3) hx hb hts hi_X4 hown hK hP 0 rfl rfl 1 (by decide) (hts (.fieldLink RX4 17 "CanalMaps$History" "latest" "I") (List.mem_of_getElem? (i := 1) (by decide +kernel))) (fun _ h9 => h9) rfl dX4_keep_2 ?_
  refine lv_iconst (v := 1) hx hb dX4_keep_5 (by decide) ?_
  refine lv_iadd hx hb dX4_keep_6 ?_
  refine kt_ (v := 1) (by decide +kernel) ?_
  refine lv_bipush (v := 8) hx hb dX4_keep_7 (by decide) ?_
  refine lv_irem hx hb dX4_keep_9 (by decide +kernel) ?_
  refine kt_ (v := 1) (by decide +kernel) ?_
  refine va_put (D := D) (ci := 7) (v := .int 1) (ty := .int) (own := RX4) (C := RX4) (T := TX4) (N := 3) hx hb hts hi_X4 tyX4 tyX4_ok nmX4 hown hK hP hD hS 0 rfl rfl 1 (by decide) (hts (.fieldLink RX4 17 "CanalMaps$History" "latest" "I") (List.mem_of_getElem? (i := 1) (by decide +kernel))) (fun _ h9 => h9) rfl (by decide +kernel) rfl rfl (Nat.le_of_ble_eq_true rfl) dX4_keep_10 (fun H locs hP hD hS => ?_)
  have hP : va_P D vwCl [(h0, .inr (7, [.ref h1, .int 1, .int 0])), (h1, .inl (k1, 8, .inr (.inr (.inr (.inr (va_up (va_up (va_up (va_up (va_up (va_up (va_up (va_up (fun _ => none) 0 (some r0)) 1 (some h3)) 2 (some r1)) 3 (some r2)) 4 (some r3)) 5 (some r4)) 6 (some r5)) 7 (some r6))))))), (h2, .inr (11, [v0, .ref h4, .ref h6, .ref h8, .ref h12, .int 0, .int 0, .int 0, .int 0, .int 0])), (h3, .inr (11, [v1, .ref h5, .ref h7, .ref h9, .ref h10, v2, v3, v4, v5, v6])), (h4, .inl (k4, 6, .inl (fun _ => 0))), (h5, .inl (k5, 6, .inl (fun _ => 0))), (h6, .inl (k6, 36, .inl (fun _ => 0))), (h7, .inl (k7, 36, .inl (fun _ => 0))), (h8, .inl (k8, 36, .inl (fun _ => 0))), (h9, .inl (k9, 36, .inl (fun _ => 0))), (h10, .inr (8, [.ref h11, v7, v8])), (h11, .inl (k11, 64, .inl f0)), (h12, .inr (8, [.ref h13, .int 0, .int 0])), (h13, .inl (k13, 64, .inl f1))] H := hP
  have hD : va_D A [(h0, .inr (7, [.ref h1, .int 1, .int 0])), (h1, .inl (k1, 8, .inr (.inr (.inr (.inr (va_up (va_up (va_up (va_up (va_up (va_up (va_up (va_up (fun _ => none) 0 (some r0)) 1 (some h3)) 2 (some r1)) 3 (some r2)) 4 (some r3)) 5 (some r4)) 6 (some r5)) 7 (some r6))))))), (h2, .inr (11, [v0, .ref h4, .ref h6, .ref h8, .ref h12, .int 0, .int 0, .int 0, .int 0, .int 0])), (h3, .inr (11, [v1, .ref h5, .ref h7, .ref h9, .ref h10, v2, v3, v4, v5, v6])), (h4, .inl (k4, 6, .inl (fun _ => 0))), (h5, .inl (k5, 6, .inl (fun _ => 0))), (h6, .inl (k6, 36, .inl (fun _ => 0))), (h7, .inl (k7, 36, .inl (fun _ => 0))), (h8, .inl (k8, 36, .inl (fun _ => 0))), (h9, .inl (k9, 36, .inl (fun _ => 0))), (h10, .inr (8, [.ref h11, v7, v8])), (h11, .inl (k11, 64, .inl f0)), (h12, .inr (8, [.ref h13, .int 0, .int 0])), (h13, .inl (k13, 64, .inl f1))] := hD
  refine lv_aload_n hx hb dX4_keep_13 rfl (lv_at hl 0 rfl) ?_
  refine va_get (D := D) (ci := 7) (v := .ref h1) (own := RX4) (C := RX4) (T := TX4) (N := 3) hx hb hts hi_X4 hown hK hP 0 rfl rfl 0 (by decide) (hts (.fieldLink RX4 11 "CanalMaps$History" "places" "[LCanalMaps$Survey;") (List.mem_of_getElem? (i := 2) (by decide +kernel))) (fun _ h9 => h9) rfl dX4_keep_14 ?_
  refine lv_aload_n hx hb dX4_keep_17 rfl (lv_at hl 0 rfl) ?_
  refine va_get (D := D) (ci := 7) (v := .int 1) (own := RX4) (C := RX4) (T := TX4) (N := 3) hx hb hts hi_X4 hown hK hP 0 rfl rfl 1 (by decide) (hts (.fieldLink RX4 17 "CanalMaps$History" "latest" "I") (List.mem_of_getElem? (i := 1) (by decide +kernel))) (fun _ h9 => h9) rfl dX4_keep_18 ?_
  refine va_aldq hx hb hK hP 1 0 rfl rfl (vin_ (by decide +kernel)) dX4_keep_21 ?_
  refine W.eq (g2 := F0 m 22 ls [.ref h3]) rfl ?_
  refine lv_aload_n hx hb dX4_keep_22 rfl (lv_at hl 1 rfl) ?_
  refine kc_ (wc := [(h2, .inr (11, [v0, .ref h4, .ref h6, .ref h8, .ref h12, .int 0, .int 0, .int 0, .int 0, .int 0])), (h3, .inr (11, [v1, .ref h5, .ref h7, .ref h9, .ref h10, v2, v3, v4, v5, v6])), (h4, .inl (k4, 6, .inl (fun _ => 0))), (h5, .inl (k5, 6, .inl (fun _ => 0))), (h6, .inl (k6, 36, .inl (fun _ => 0))), (h7, .inl (k7, 36, .inl (fun _ => 0))), (h8, .inl (k8, 36, .inl (fun _ => 0))), (h9, .inl (k9, 36, .inl (fun _ => 0))), (h10, .inr (8, [.ref h11, v7, v8])), (h11, .inl (k11, 64, .inl f0)), (h12, .inr (8, [.ref h13, .int 0, .int 0])), (h13, .inl (k13, 64, .inl f1))]) (wr := [(h0, .inr (7, [.ref h1, .int 1, .int 0])), (h1, .inl (k1, 8, .inr (.inr (.inr (.inr (va_up (va_up (va_up (va_up (va_up (va_up (va_up (va_up (fun _ => none) 0 (some r0)) 1 (some h3)) 2 (some r1)) 3 (some r2)) 4 (some r3)) 5 (some r4)) 6 (some r5)) 7 (some r6)))))))]) (va_runV (As := [.ref h2]) (rest := []) ⟨hx, hb, hml, hown, hts⟩ (c_X8_copyFrom_0 l hl0 D ad H.size h2 h3 h4 h5 h6 h7 h8 h9 h10 h11 h12 h13 k4 k5 k6 k7 k8 k9 k11 k13 (v0) (v1) (v2) (v3) (v4) (v5) (v6) (v7) (v8) f0 f1) (cwV 1 hts gX4_keep_X8_copyFrom rfl rfl rfl (by decide +kernel) ⟨Nat.le_of_ble_eq_true rfl, Nat.le_of_ble_eq_true rfl⟩) ⟨PC_.blind, va_recv hK hP (ci := 11) (q0 := 3) rfl rfl, PC_.pre hF hK hP hD hS hA [2, 3, 4, 5, 6, 7, 8, 9, 10, 11, 12, 13] [1, 2, 3, 4, 5, 6, 7, 8] rfl (by decide) rfl⟩ rfl rfl hl.1 rfl (lv_room (Nat.le_of_ble_eq_true rfl)) dX4_keep_23 ⟨Nat.le_of_ble_eq_true rfl, Nat.le_of_ble_eq_true rfl⟩) hK hP hD hS hA [2, 3, 4, 5, 6, 7, 8, 9, 10, 11, 12, 13] [0, 1] [0] rfl rfl (by decide) (by decide) rfl (fun qa_1 ka_1 ia_1 H locs hpo hP hD hK hS => ?_)
  have hP : va_P D vwCl [(h0, .inr (7, [.ref h1, .int 1, .int 0])), (h1, .inl (k1, 8, .inr (.inr (.inr (.inr (va_up (va_up (va_up (va_up (va_up (va_up (va_up (va_up (fun _ => none) 0 (some r0)) 1 (some h3)) 2 (some r1)) 3 (some r2)) 4 (some r3)) 5 (some r4)) 6 (some r5)) 7 (some r6))))))), (h2, .inr (11, [v0, .ref h4, .ref h6, .ref h8, .ref h12, .int 0, .int 0, .int 0, .int 0, .int 0])), (h3, .inr (11, [v1, .ref h5, .ref h7, .ref h9, .ref h10, .int 0, .int 0, .int 0, .int 0, .int 0])), (h4, .inl (k4, 6, .inl (fun _ => 0))), (h5, .inl (k5, 6, .inl (fun _ => 0))), (h6, .inl (k6, 36, .inl (fun _ => 0))), (h7, .inl (k7, 36, .inl (fun _ => 0))), (h8, .inl (k8, 36, .inl (fun _ => 0))), (h9, .inl (k9, 36, .inl (fun _ => 0))), (h10, .inr (8, [.ref h11, .int 0, .int 0])), (h11, .inl (k11, 64, .inl f0)), (h12, .inr (8, [.ref h13, .int 0, .int 0])), (h13, .inl (k13, 64, .inl f1))] H := hP
  have hD : va_D A [(h0, .inr (7, [.ref h1, .int 1, .int 0])), (h1, .inl (k1, 8, .inr (.inr (.inr (.inr (va_up (va_up (va_up (va_up (va_up (va_up (va_up (va_up (fun _ => none) 0 (some r0)) 1 (some h3)) 2 (some r1)) 3 (some r2)) 4 (some r3)) 5 (some r4)) 6 (some r5)) 7 (some r6))))))), (h2, .inr (11, [v0, .ref h4, .ref h6, .ref h8, .ref h12, .int 0, .int 0, .int 0, .int 0, .int 0])), (h3, .inr (11, [v1, .ref h5, .ref h7, .ref h9, .ref h10, .int 0, .int 0, .int 0, .int 0, .int 0])), (h4, .inl (k4, 6, .inl (fun _ => 0))), (h5, .inl (k5, 6, .inl (fun _ => 0))), (h6, .inl (k6, 36, .inl (fun _ => 0))), (h7, .inl (k7, 36, .inl (fun _ => 0))), (h8, .inl (k8, 36, .inl (fun _ => 0))), (h9, .inl (k9, 36, .inl (fun _ => 0))), (h10, .inr (8, [.ref h11, .int 0, .int 0])), (h11, .inl (k11, 64, .inl f0)), (h12, .inr (8, [.ref h13, .int 0, .int 0])), (h13, .inl (k13, 64, .inl f1))] := hD
  have hK : va_K D vwCl [(k1, .object "CanalMaps$Survey"), (k4, .int), (k5, .int), (k6, .int), (k7, .int), (k8, .int), (k9, .int), (k11, .int), (k13, .int)] s := hK
  refine W.eq (g2 := F0 m 26 ls []) rfl ?_
  refine lv_aload_n hx hb dX4_keep_26 rfl (lv_at hl 0 rfl) ?_
  refine lv_aload_n hx hb dX4_keep_27 rfl (lv_at hl 0 rfl) ?_
  refine va_get (D := D) (ci := 7) (v := .int 0) (own := RX4) (C := RX4) (T := TX4) (N := 3) hx hb hts hi_X4 hown hK hP 0 rfl rfl 2 (by decide) (hts (.fieldLink RX4 21 "CanalMaps$History" "count" "I") (List.mem_of_getElem? (i := 3) (by decide +kernel))) (fun _ h9 => h9) rfl dX4_keep_28 ?_
  refine lv_iconst (v := 1) hx hb dX4_keep_31 (by decide) ?_
  refine lv_iadd hx hb dX4_keep_32 ?_
  refine kt_ (v := 1) (by decide +kernel) ?_
  refine lv_bipush (v := 8) hx hb dX4_keep_33 (by decide) ?_
  refine va_mmin (own := RX4) hx hb (by rw [hml]; exact hl.1.symm) hown (hts (.methodLink RX4 31 Lib.Math.min.name) (List.mem_of_getElem? (i := 4) (by decide +kernel))) (hts (.static Lib.Math.min.name) (List.mem_of_getElem? (i := 5) (by decide +kernel))) (hts (.initialized "java/lang/Math") (List.mem_of_getElem? (i := 6) (by decide +kernel))) (hts (.code Lib.Math.min.name Lib.Math.min.code 2 (some .int)) (List.mem_of_getElem? (i := 7) (by decide +kernel))) (Nat.le_of_ble_eq_true rfl) (Nat.le_of_ble_eq_true rfl) (Nat.le_of_ble_eq_true rfl) (Nat.le_of_ble_eq_true rfl) dX4_keep_35 ?_
  refine kt_ (v := 1) (by decide +kernel) ?_
  refine va_put (D := D) (ci := 7) (v := .int 1) (ty := .int) (own := RX4) (C := RX4) (T := TX4) (N := 3) hx hb hts hi_X4 tyX4 tyX4_ok nmX4 hown hK hP hD hS 0 rfl rfl 2 (by decide) (hts (.fieldLink RX4 21 "CanalMaps$History" "count" "I") (List.mem_of_getElem? (i := 3) (by decide +kernel))) (fun _ h9 => h9) rfl (by decide +kernel) rfl rfl (Nat.le_of_ble_eq_true rfl) dX4_keep_38 (fun H locs hP hD hS => ?_)
  have hP : va_P D vwCl [(h0, .inr (7, [.ref h1, .int 1, .int 1])), (h1, .inl (k1, 8, .inr (.inr (.inr (.inr (va_up (va_up (va_up (va_up (va_up (va_up (va_up (va_up (fun _ => none) 0 (some r0)) 1 (some h3)) 2 (some r1)) 3 (some r2)) 4 (some r3)) 5 (some r4)) 6 (some r5)) 7 (some r6))))))), (h2, .inr (11, [v0, .ref h4, .ref h6, .ref h8, .ref h12, .int 0, .int 0, .int 0, .int 0, .int 0])), (h3, .inr (11, [v1, .ref h5, .ref h7, .ref h9, .ref h10, .int 0, .int 0, .int 0, .int 0, .int 0])), (h4, .inl (k4, 6, .inl (fun _ => 0))), (h5, .inl (k5, 6, .inl (fun _ => 0))), (h6, .inl (k6, 36, .inl (fun _ => 0))), (h7, .inl (k7, 36, .inl (fun _ => 0))), (h8, .inl (k8, 36, .inl (fun _ => 0))), (h9, .inl (k9, 36, .inl (fun _ => 0))), (h10, .inr (8, [.ref h11, .int 0, .int 0])), (h11, .inl (k11, 64, .inl f0)), (h12, .inr (8, [.ref h13, .int 0, .int 0])), (h13, .inl (k13, 64, .inl f1))] H := hP
  have hD : va_D A [(h0, .inr (7, [.ref h1, .int 1, .int 1])), (h1, .inl (k1, 8, .inr (.inr (.inr (.inr (va_up (va_up (va_up (va_up (va_up (va_up (va_up (va_up (fun _ => none) 0 (some r0)) 1 (some h3)) 2 (some r1)) 3 (some r2)) 4 (some r3)) 5 (some r4)) 6 (some r5)) 7 (some r6))))))), (h2, .inr (11, [v0, .ref h4, .ref h6, .ref h8, .ref h12, .int 0, .int 0, .int 0, .int 0, .int 0])), (h3, .inr (11, [v1, .ref h5, .ref h7, .ref h9, .ref h10, .int 0, .int 0, .int 0, .int 0, .int 0])), (h4, .inl (k4, 6, .inl (fun _ => 0))), (h5, .inl (k5, 6, .inl (fun _ => 0))), (h6, .inl (k6, 36, .inl (fun _ => 0))), (h7, .inl (k7, 36, .inl (fun _ => 0))), (h8, .inl (k8, 36, .inl (fun _ => 0))), (h9, .inl (k9, 36, .inl (fun _ => 0))), (h10, .inr (8, [.ref h11, .int 0, .int 0])), (h11, .inl (k11, 64, .inl f0)), (h12, .inr (8, [.ref h13, .int 0, .int 0])), (h13, .inl (k13, 64, .inl f1))] := hD
  refine W.widen (k := 0) (n := 0) (Nat.le_of_ble_eq_true rfl) (Nat.le_of_ble_eq_true rfl) ?_
  exact W.vret hx hb hr (QG_.mk (fun _ => 0) (fun _ => 0) (fun _ => 0) [0, 1, 2, 3, 4, 5, 6, 7, 8, 9, 10, 11, 12, 13] [0, 1, 2, 3, 4, 5, 6, 7, 8] hP hD hK hS rfl trivial rfl (by decide) rfl) hS.2.2 dX4_keep_41
set_option maxHeartbeats 4000000 in
set_option maxRecDepth 100000 in
theorem c_X8_has_0 (l : Launch) (hl0 : l.stackTraces = false) (D : va_G) (ad : Nat → Nat) (sz : Nat) (h0 : Nat) (v0 : Value) (v1 : Value) (v2 : Value) (v3 : Value) (v4 : Value) (v5 : Value) (v6 : Value) (v7 : Value) (v8 : Value) : Met l yX8_has wsX8_has ({ frames := 0, cells := 0, slots := 0, locals := 0 }) (PC_ D ad [(h0, .inr (11, [v0, v1, v2, v3, v4, .int 1, v5, v6, v7, v8]))] [] sz [.ref h0, .int 0]) (QG_ D (fun q i => some (.int 1)) (fun q i => True) (fun q k i => [(h0, .inr (11, [v0, v1, v2, v3, v4, .int 1, v5, v6, v7, v8]))]) (fun q k i => []) (va_A [(h0, .inr (11, [v0, v1, v2, v3, v4, .int 1, v5, v6, v7, v8]))] sz)) 0 0 (va_A [(h0, .inr (11, [v0, v1, v2, v3, v4, .int 1, v5, v6, v7, v8]))] sz) := by
  refine Met.ofW (cc := cX8_has) (maxL := 2) (ret := (some .boolean)) (by decide) rfl ?_
  intro p e s m args below meth c s₁ B hml hv
  obtain ⟨rfl, hsz, hP, hK, hD0, hF⟩ := hv
  have hx := B.exec
  have hb := B.bytes
  have hr := B.returns
  have hts := atoms_spec (ws := wsX8_has) B.pre
  have hown : s.vm.findClass RX8 = some m.cls := findClass_of_methodNamed B.named
  have hlocks := B.notSynchronized
  subst hsz
  have hD := hD0.self (sz := s.heap.size)
  generalize hAe : va_A [(h0, .inr (11, [v0, v1, v2, v3, v4, .int 1, v5, v6, v7, v8]))] s.heap.size = A at hD hF ⊢
  have hA : ∀ q : Nat, s.heap.size ≤ q → A q := fun q h => by rw [← hAe]; exact Or.inr h
  obtain ⟨H, hHe⟩ : ∃ H : Heap, H = s.heap := ⟨_, rfl⟩
  have hS : va_S A s.heap H [] := by rw [hHe]; exact va_S.rf
  have hP : va_P D vwCl [(h0, .inr (11, [v0, v1, v2, v3, v4, .int 1, v5, v6, v7, v8]))] H := by rw [hHe]; exact hP
  rw [← hHe]
  have hi_X8 : ∀ w ∈ wsX80, w ∈ wsX8_has := by decide +kernel
  have hl := lv_entry [.ref h0, .int 0] (n := 2) (Nat.le_of_ble_eq_true rfl)
  rw [lg_entry_eq]
  generalize (lg_sl [.ref h0, .int 0] ++ List.replicate (2 - (lg_sl [.ref h0, .int 0]).length) Slot.unset).toArray = ls at hl ⊢
  have hl : lv_has ls 2 [(0, .ref h0), (1, .int 0)] := hl
  refine lv_iload_n hx hb dX8_has_0 rfl (lv_at hl 1 rfl) ?_
  refine lv_if_lt (tgt := 16) hx hb dX8_has_1 (by decide) (fun c9 => absurd c9 (by decide +kernel)) (fun _ => ?_)
  refine lv_iload_n hx hb dX8_has_4 rfl (lv_at hl 1 rfl) ?_
  refine lv_aload_n hx hb dX8_has_5 rfl (lv_at hl 0 rfl) ?_
  refine va_get (D := D) (ci := 11) (v := .int 1) (own := RX8) (C := RX8) (T := TX8) (N := 10) hx hb hts hi_X8 hown hK hP 0 rfl rfl 5 (by decide) (hts (.fieldLink RX8 28 "CanalMaps$Survey" "surveyors" "I") (List.mem_of_getElem? (i := 1) (by decide +kernel))) (fun _ h9 => h9) rfl dX8_has_6 ?_
  refine lv_icmp_ge (tgt := 16) hx hb dX8_has_9 (by decide) (fun c9 => absurd c9 (by decide +kernel)) (fun _ => ?_)
  refine lv_iconst (v := 1) hx hb dX8_has_12 (by decide) ?_
  refine lv_goto (tgt := 17) hx hb dX8_has_13 (by decide) ?_
  refine W.widen (k := 0) (n := 0) (Nat.le_of_ble_eq_true rfl) (Nat.le_of_ble_eq_true rfl) ?_
  exact W.zret (v := 1) hx hb hr rfl (QG_.mk (fun _ => 0) (fun _ => 0) (fun _ => 0) [0] [] hP hD hK hS rfl trivial rfl (by decide) rfl) hS.2.2 dX8_has_17
set_option maxHeartbeats 4000000 in
set_option maxRecDepth 100000 in
theorem c_X8_pair_0 (l : Launch) (hl0 : l.stackTraces = false) (D : va_G) (ad : Nat → Nat) (sz : Nat)  : Met l yX8_pair wsX8_pair ({ frames := 0, cells := 0, slots := 0, locals := 0 }) (PC_ D ad [] [] sz [.int 0, .int 0]) (QG_ D (fun q i => some (.int 0)) (fun q i => True) (fun q k i => []) (fun q k i => []) (va_A [] sz)) 0 0 (va_A [] sz) := by
  refine Met.ofW (cc := cX8_pair) (maxL := 3) (ret := (some .int)) (by decide) rfl ?_
  intro p e s m args below meth c s₁ B hml hv
  obtain ⟨rfl, hsz, hP, hK, hD0, hF⟩ := hv
  have hx := B.exec
  have hb := B.bytes
  have hr := B.returns
  have hts := atoms_spec (ws := wsX8_pair) B.pre
  have hown : s.vm.findClass RX8 = some m.cls := findClass_of_methodNamed B.named
  have hlocks := B.notSynchronized
  subst hsz
  have hD := hD0.self (sz := s.heap.size)
  generalize hAe : va_A [] s.heap.size = A at hD hF ⊢
  have hA : ∀ q : Nat, s.heap.size ≤ q → A q := fun q h => by rw [← hAe]; exact Or.inr h
  obtain ⟨H, hHe⟩ : ∃ H : Heap, H = s.heap := ⟨_, rfl⟩
  have hS : va_S A s.heap H [] := by rw [hHe]; exact va_S.rf
  have hP : va_P D vwCl [] H := by rw [hHe]; exact hP
  rw [← hHe]
  have hl := lv_entry [.int 0, .int 0] (n := 3) (Nat.le_of_ble_eq_true rfl)
  rw [lg_entry_eq]
  generalize (lg_sl [.int 0, .int 0] ++ List.replicate (3 - (lg_sl [.int 0, .int 0]).length) Slot.unset).toArray = ls at hl ⊢
  have hl : lv_has ls 3 [(0, .int 0), (1, .int 0)] := hl
  refine lv_iload_n hx hb dX8_pair_0 rfl (lv_at hl 0 rfl) ?_
  refine lv_if_lt (tgt := 24) hx hb dX8_pair_1 (by decide) (fun c9 => absurd c9 (by decide +kernel)) (fun _ => ?_)
  refine lv_iload_n hx hb dX8_pair_4 rfl (lv_at hl 0 rfl) ?_
  refine lv_bipush (v := 6) hx hb dX8_pair_5 (by decide) ?_
  refine lv_icmp_ge (tgt := 24) hx hb dX8_pair_7 (by decide) (fun c9 => absurd c9 (by decide +kernel)) (fun _ => ?_)
  refine lv_iload_n hx hb dX8_pair_10 rfl (lv_at hl 1 rfl) ?_
  refine lv_if_lt (tgt := 24) hx hb dX8_pair_11 (by decide) (fun c9 => absurd c9 (by decide +kernel)) (fun _ => ?_)
  refine lv_iload_n hx hb dX8_pair_14 rfl (lv_at hl 1 rfl) ?_
  refine lv_bipush (v := 6) hx hb dX8_pair_15 (by decide) ?_
  refine lv_icmp_ge (tgt := 24) hx hb dX8_pair_17 (by decide) (fun c9 => absurd c9 (by decide +kernel)) (fun _ => ?_)
  refine lv_iconst (v := 1) hx hb dX8_pair_20 (by decide) ?_
  refine lv_goto (tgt := 25) hx hb dX8_pair_21 (by decide) ?_
  refine lv_istore_n (lv' := [(2, .int 1), (0, .int 0), (1, .int 0)]) hx hb dX8_pair_25 rfl hl (by decide) rfl (fun ls hl => ?_)
  refine lv_iload_n hx hb dX8_pair_26 rfl (lv_at hl 0 rfl) ?_
  refine lv_if_eq (tgt := 39) hx hb dX8_pair_27 (by decide) (fun c9 => absurd c9 (by decide +kernel)) (fun _ => ?_)
  refine lv_iload_n hx hb dX8_pair_30 rfl (lv_at hl 1 rfl) ?_
  refine lv_bipush (v := 6) hx hb dX8_pair_31 (by decide) ?_
  refine lv_imul hx hb dX8_pair_33 ?_
  refine kt_ (v := 0) (by decide +kernel) ?_
  refine lv_iload_n hx hb dX8_pair_34 rfl (lv_at hl 2 rfl) ?_
  refine lv_iadd hx hb dX8_pair_35 ?_
  refine kt_ (v := 0) (by decide +kernel) ?_
  refine lv_goto (tgt := 40) hx hb dX8_pair_36 (by decide) ?_
  refine W.widen (k := 0) (n := 0) (Nat.le_of_ble_eq_true rfl) (Nat.le_of_ble_eq_true rfl) ?_
  exact W.iret (v := 0) hx hb hr (QG_.mk (fun _ => 0) (fun _ => 0) (fun _ => 0) [] [] hP hD hK hS rfl trivial rfl (by decide) rfl) hS.2.2 dX8_pair_40
set_option maxHeartbeats 4000000 in
set_option maxRecDepth 100000 in
theorem c_X8_areNeighbours_0 (l : Launch) (hl0 : l.stackTraces = false) (D : va_G) (ad : Nat → Nat) (sz : Nat) (h0 : Nat) (h1 : Nat) (k1 : ClassId) (v0 : Value) (v1 : Value) (v2 : Value) (v3 : Value) (v4 : Value) (v5 : Value) (v6 : Value) (v7 : Value) : Met l yX8_areNeighbours wsX8_areNeighbours ({ frames := 1, cells := 0, slots := 0, locals := 24 }) (PC_ D ad [(h0, .inr (11, [v0, v1, .ref h1, v2, v3, .int 1, v4, v5, v6, v7])), (h1, .inl (k1, 36, .inl (fun _ => 0)))] [(k1, .int)] sz [.ref h0, .int 0, .int 0]) (QG_ D (fun q i => some (.int 0)) (fun q i => True) (fun q k i => [(h0, .inr (11, [v0, v1, .ref h1, v2, v3, .int 1, v4, v5, v6, v7])), (h1, .inl (k1, 36, .inl (fun _ => 0)))]) (fun q k i => [(k1, .int)]) (va_A [(h0, .inr (11, [v0, v1, .ref h1, v2, v3, .int 1, v4, v5, v6, v7])), (h1, .inl (k1, 36, .inl (fun _ => 0)))] sz)) 0 0 (va_A [(h0, .inr (11, [v0, v1, .ref h1, v2, v3, .int 1, v4, v5, v6, v7])), (h1, .inl (k1, 36, .inl (fun _ => 0)))] sz) := by
  refine Met.ofW (cc := cX8_areNeighbours) (maxL := 3) (ret := (some .boolean)) (by decide) rfl ?_
  intro p e s m args below meth c s₁ B hml hv
  obtain ⟨rfl, hsz, hP, hK, hD0, hF⟩ := hv
  have hx := B.exec
  have hb := B.bytes
  have hr := B.returns
  have hts := atoms_spec (ws := wsX8_areNeighbours) B.pre
  have hown : s.vm.findClass RX8 = some m.cls := findClass_of_methodNamed B.named
  have hlocks := B.notSynchronized
  subst hsz
  have hD := hD0.self (sz := s.heap.size)
  generalize hAe : va_A [(h0, .inr (11, [v0, v1, .ref h1, v2, v3, .int 1, v4, v5, v6, v7])), (h1, .inl (k1, 36, .inl (fun _ => 0)))] s.heap.size = A at hD hF ⊢
  have hA : ∀ q : Nat, s.heap.size ≤ q → A q := fun q h => by rw [← hAe]; exact Or.inr h
  obtain ⟨H, hHe⟩ : ∃ H : Heap, H = s.heap := ⟨_, rfl⟩
  have hS : va_S A s.heap H [] := by rw [hHe]; exact va_S.rf
  have hP : va_P D vwCl [(h0, .inr (11, [v0, v1, .ref h1, v2, v3, .int 1, v4, v5, v6, v7])), (h1, .inl (k1, 36, .inl (fun _ => 0)))] H := by rw [hHe]; exact hP
  rw [← hHe]
  have hi_X8 : ∀ w ∈ wsX80, w ∈ wsX8_areNeighbours := by decide +kernel
  have hl := lv_entry [.ref h0, .int 0, .int 0] (n := 3) (Nat.le_of_ble_eq_true rfl)
  rw [lg_entry_eq]
  generalize (lg_sl [.ref h0, .int 0, .int 0] ++ List.replicate (3 - (lg_sl [.ref h0, .int 0, .int 0]).length) Slot.unset).toArray = ls at hl ⊢
  have hl : lv_has ls 3 [(0, .ref h0), (1, .int 0), (2, .int 0)] := hl
  refine lv_aload_n hx hb dX8_areNeighbours_0 rfl (lv_at hl 0 rfl) ?_
  refine lv_iload_n hx hb dX8_areNeighbours_1 rfl (lv_at hl 1 rfl) ?_
  refine kc_ (wc := [(h0, .inr (11, [v0, v1, .ref h1, v2, v3, .int 1, v4, v5, v6, v7]))]) (wr := [(h1, .inl (k1, 36, .inl (fun _ => 0)))]) (va_runV (As := [.int 0]) (rest := []) ⟨hx, hb, hml, hown, hts⟩ (c_X8_has_0 l hl0 D ad H.size h0 (v0) (v1) (.ref h1) (v2) (v3) (v4) (v5) (v6) (v7)) (cwV 1 hts gX8_areNeighbours_X8_has rfl rfl rfl (by decide +kernel) ⟨Nat.le_of_ble_eq_true rfl, Nat.le_of_ble_eq_true rfl⟩) ⟨PC_.blind, va_recv hK hP (ci := 11) (q0 := 0) rfl rfl, PC_.pre hF hK hP hD hS hA [0] [] rfl (by decide) rfl⟩ rfl rfl hl.1 rfl (lv_room (Nat.le_of_ble_eq_true rfl)) dX8_areNeighbours_2 ⟨Nat.le_of_ble_eq_true rfl, Nat.le_of_ble_eq_true rfl⟩) hK hP hD hS hA [0] [1] [0] rfl rfl (by decide) (by decide) rfl (fun qa_1 ka_1 ia_1 H locs hpo hP hD hK hS => ?_)
  have hP : va_P D vwCl [(h1, .inl (k1, 36, .inl (fun _ => 0))), (h0, .inr (11, [v0, v1, .ref h1, v2, v3, .int 1, v4, v5, v6, v7]))] H := hP
  have hD : va_D A [(h1, .inl (k1, 36, .inl (fun _ => 0))), (h0, .inr (11, [v0, v1, .ref h1, v2, v3, .int 1, v4, v5, v6, v7]))] := hD
  have hK : va_K D vwCl [(k1, .int)] s := hK
  refine W.eq (g2 := F0 m 5 ls [.int 1]) rfl ?_
  refine lv_if_eq (tgt := 48) hx hb dX8_areNeighbours_5 (by decide) (fun c9 => absurd c9 (by decide +kernel)) (fun _ => ?_)
  refine lv_aload_n hx hb dX8_areNeighbours_8 rfl (lv_at hl 0 rfl) ?_
  refine lv_iload_n hx hb dX8_areNeighbours_9 rfl (lv_at hl 2 rfl) ?_
  refine kc_ (wc := [(h0, .inr (11, [v0, v1, .ref h1, v2, v3, .int 1, v4, v5, v6, v7]))]) (wr := [(h1, .inl (k1, 36, .inl (fun _ => 0)))]) (va_runV (As := [.int 0]) (rest := []) ⟨hx, hb, hml, hown, hts⟩ (c_X8_has_0 l hl0 D ad H.size h0 (v0) (v1) (.ref h1) (v2) (v3) (v4) (v5) (v6) (v7)) (cwV 1 hts gX8_areNeighbours_X8_has rfl rfl rfl (by decide +kernel) ⟨Nat.le_of_ble_eq_true rfl, Nat.le_of_ble_eq_true rfl⟩) ⟨PC_.blind, va_recv hK hP (ci := 11) (q0 := 1) rfl rfl, PC_.pre hF hK hP hD hS hA [1] [] rfl (by decide) rfl⟩ rfl rfl hl.1 rfl (lv_room (Nat.le_of_ble_eq_true rfl)) dX8_areNeighbours_10 ⟨Nat.le_of_ble_eq_true rfl, Nat.le_of_ble_eq_true rfl⟩) hK hP hD hS hA [1] [0] [0] rfl rfl (by decide) (by decide) rfl (fun qa_2 ka_2 ia_2 H locs hpo hP hD hK hS => ?_)
  have hP : va_P D vwCl [(h1, .inl (k1, 36, .inl (fun _ => 0))), (h0, .inr (11, [v0, v1, .ref h1, v2, v3, .int 1, v4, v5, v6, v7]))] H := hP
  have hD : va_D A [(h1, .inl (k1, 36, .inl (fun _ => 0))), (h0, .inr (11, [v0, v1, .ref h1, v2, v3, .int 1, v4, v5, v6, v7]))] := hD
  have hK : va_K D vwCl [(k1, .int)] s := hK
  refine W.eq (g2 := F0 m 13 ls [.int 1]) rfl ?_
  refine lv_if_eq (tgt := 48) hx hb dX8_areNeighbours_13 (by decide) (fun c9 => absurd c9 (by decide +kernel)) (fun _ => ?_)
  refine lv_aload_n hx hb dX8_areNeighbours_16 rfl (lv_at hl 0 rfl) ?_
  refine va_get (D := D) (ci := 11) (v := .ref h1) (own := RX8) (C := RX8) (T := TX8) (N := 10) hx hb hts hi_X8 hown hK hP 1 rfl rfl 2 (by decide) (hts (.fieldLink RX8 15 "CanalMaps$Survey" "costs" "[I") (List.mem_of_getElem? (i := 1) (by decide +kernel))) (fun _ h9 => h9) rfl dX8_areNeighbours_17 ?_
  refine lv_iload_n hx hb dX8_areNeighbours_20 rfl (lv_at hl 1 rfl) ?_
  refine lv_iload_n hx hb dX8_areNeighbours_21 rfl (lv_at hl 2 rfl) ?_
  refine kc_ (wc := []) (wr := [(h1, .inl (k1, 36, .inl (fun _ => 0))), (h0, .inr (11, [v0, v1, .ref h1, v2, v3, .int 1, v4, v5, v6, v7]))]) (va_runS (As := [.int 0, .int 0]) (rest := [.ref h1]) ⟨hx, hb, hml, hown, hts⟩ (c_X8_pair_0 l hl0 D ad H.size) (va_cwS 2 hts gX8_areNeighbours_X8_pair rfl rfl rfl (by decide +kernel) ⟨Nat.le_of_ble_eq_true rfl, Nat.le_of_ble_eq_true rfl⟩) ⟨PC_.blind, PC_.pre hF hK hP hD hS hA [] [] rfl (by decide) rfl⟩ rfl rfl hl.1 rfl (lv_room (Nat.le_of_ble_eq_true rfl)) dX8_areNeighbours_22 ⟨Nat.le_of_ble_eq_true rfl, Nat.le_of_ble_eq_true rfl⟩) hK hP hD hS hA [] [0, 1] [0] rfl rfl (by decide) (by decide) rfl (fun qa_3 ka_3 ia_3 H locs hpo hP hD hK hS => ?_)
  have hP : va_P D vwCl [(h1, .inl (k1, 36, .inl (fun _ => 0))), (h0, .inr (11, [v0, v1, .ref h1, v2, v3, .int 1, v4, v5, v6, v7]))] H := hP
  have hD : va_D A [(h1, .inl (k1, 36, .inl (fun _ => 0))), (h0, .inr (11, [v0, v1, .ref h1, v2, v3, .int 1, v4, v5, v6, v7]))] := hD
  have hK : va_K D vwCl [(k1, .int)] s := hK
  refine W.eq (g2 := F0 m 25 ls [.int 0, .ref h1]) rfl ?_
  refine va_iald hx hb hK hP 0 0 rfl rfl (vin_ (by decide +kernel)) dX8_areNeighbours_25 ?_
  refine kt_ (v := 0) (by decide +kernel) ?_
  refine lv_if_le (tgt := 48) hx hb dX8_areNeighbours_26 (by decide) (fun _ => ?_) (fun c9 => absurd (by decide +kernel) c9)
  refine lv_iconst (v := 0) hx hb dX8_areNeighbours_48 (by decide) ?_
  refine W.widen (k := 0) (n := 0) (Nat.le_of_ble_eq_true rfl) (Nat.le_of_ble_eq_true rfl) ?_
  exact W.zret (v := 0) hx hb hr rfl (QG_.mk (fun _ => 0) (fun _ => 0) (fun _ => 0) [1, 0] [0] hP hD hK hS rfl trivial rfl (by decide) rfl) hS.2.2 dX8_areNeighbours_49
set_option maxHeartbeats 4000000 in
set_option maxRecDepth 100000 in
theorem c_Jx4a65c_size_8abf5_0 (l : Launch) (hl0 : l.stackTraces = false) (D : va_G) (ad : Nat → Nat) (sz : Nat) (h0 : Nat) (v0 : Value) (v1 : Value) : Met l yJx4a65c_size_8abf5 wsJx4a65c_size_8abf5 ({ frames := 0, cells := 0, slots := 0, locals := 0 }) (PC_ D ad [(h0, .inr (4, [v0, v1, .int 1]))] [] sz [.ref h0]) (QG_ D (fun q i => some (.int 1)) (fun q i => True) (fun q k i => [(h0, .inr (4, [v0, v1, .int 1]))]) (fun q k i => []) (va_A [(h0, .inr (4, [v0, v1, .int 1]))] sz)) 0 0 (va_A [(h0, .inr (4, [v0, v1, .int 1]))] sz) := by
  refine Met.ofW (cc := cJx4a65c_size_8abf5) (maxL := 1) (ret := (some .int)) (by decide) rfl ?_
  intro p e s m args below meth c s₁ B hml hv
  obtain ⟨rfl, hsz, hP, hK, hD0, hF⟩ := hv
  have hx := B.exec
  have hb := B.bytes
  have hr := B.returns
  have hts := atoms_spec (ws := wsJx4a65c_size_8abf5) B.pre
  have hown : s.vm.findClass RJx4a65c = some m.cls := findClass_of_methodNamed B.named
  have hlocks := B.notSynchronized
  subst hsz
  have hD := hD0.self (sz := s.heap.size)
  generalize hAe : va_A [(h0, .inr (4, [v0, v1, .int 1]))] s.heap.size = A at hD hF ⊢
  have hA : ∀ q : Nat, s.heap.size ≤ q → A q := fun q h => by rw [← hAe]; exact Or.inr h
  obtain ⟨H, hHe⟩ : ∃ H : Heap, H = s.heap := ⟨_, rfl⟩
  have hS : va_S A s.heap H [] := by rw [hHe]; exact va_S.rf
  have hP : va_P D vwCl [(h0, .inr (4, [v0, v1, .int 1]))] H := by rw [hHe]; exact hP
  rw [← hHe]
  have hi_Jx4a65c : ∀ w ∈ wsJx4a65c0, w ∈ wsJx4a65c_size_8abf5 := by decide +kernel
  have hl := lv_entry [.ref h0] (n := 1) (Nat.le_of_ble_eq_true rfl)
  rw [lg_entry_eq]
  generalize (lg_sl [.ref h0] ++ List.replicate (1 - (lg_sl [.ref h0]).length) Slot.unset).toArray = ls at hl ⊢
  have hl : lv_has ls 1 [(0, .ref h0)] := hl
  refine lv_aload_n hx hb dJx4a65c_size_8abf5_0 rfl (lv_at hl 0 rfl) ?_
  refine va_get (D := D) (ci := 4) (v := .int 1) (own := RJx4a65c) (C := RJx4a65c) (T := TJx4a65c) (N := 3) hx hb hts hi_Jx4a65c hown hK hP 0 rfl rfl 2 (by decide) (hts (.fieldLink RJx4a65c 48 "java/util/ArrayList" "size" "I") (List.mem_of_getElem? (i := 1) (by decide +kernel))) (fun _ h9 => h9) rfl dJx4a65c_size_8abf5_1 ?_
  refine W.widen (k := 0) (n := 0) (Nat.le_of_ble_eq_true rfl) (Nat.le_of_ble_eq_true rfl) ?_
  exact W.iret (v := 1) hx hb hr (QG_.mk (fun _ => 0) (fun _ => 0) (fun _ => 0) [0] [] hP hD hK hS rfl trivial rfl (by decide) rfl) hS.2.2 dJx4a65c_size_8abf5_4
set_option maxHeartbeats 4000000 in
set_option maxRecDepth 100000 in
theorem c_J3_checkIndex_8e157_0 (l : Launch) (hl0 : l.stackTraces = false) (D : va_G) (ad : Nat → Nat) (sz : Nat)  : Met l yJ3_checkIndex_8e157 wsJ3_checkIndex_8e157 ({ frames := 0, cells := 0, slots := 0, locals := 0 }) (PC_ D ad [] [] sz [.int 0, .int 1, .null]) (QG_ D (fun q i => some (.int 0)) (fun q i => True) (fun q k i => []) (fun q k i => []) (va_A [] sz)) 0 0 (va_A [] sz) := by
  refine Met.ofW (cc := cJ3_checkIndex_8e157) (maxL := 3) (ret := (some .int)) (by decide) rfl ?_
  intro p e s m args below meth c s₁ B hml hv
  obtain ⟨rfl, hsz, hP, hK, hD0, hF⟩ := hv
  have hx := B.exec
  have hb := B.bytes
  have hr := B.returns
  have hts := atoms_spec (ws := wsJ3_checkIndex_8e157) B.pre
  have hown : s.vm.findClass RJ3 = some m.cls := findClass_of_methodNamed B.named
  have hlocks := B.notSynchronized
  subst hsz
  have hD := hD0.self (sz := s.heap.size)
  generalize hAe : va_A [] s.heap.size = A at hD hF ⊢
  have hA : ∀ q : Nat, s.heap.size ≤ q → A q := fun q h => by rw [← hAe]; exact Or.inr h
  obtain ⟨H, hHe⟩ : ∃ H : Heap, H = s.heap := ⟨_, rfl⟩
  have hS : va_S A s.heap H [] := by rw [hHe]; exact va_S.rf
  have hP : va_P D vwCl [] H := by rw [hHe]; exact hP
  rw [← hHe]
  have hl := lv_entry [.int 0, .int 1, .null] (n := 3) (Nat.le_of_ble_eq_true rfl)
  rw [lg_entry_eq]
  generalize (lg_sl [.int 0, .int 1, .null] ++ List.replicate (3 - (lg_sl [.int 0, .int 1, .null]).length) Slot.unset).toArray = ls at hl ⊢
  have hl : lv_has ls 3 [(0, .int 0), (1, .int 1), (2, .null)] := hl
  refine lv_iload_n hx hb dJ3_checkIndex_8e157_0 rfl (lv_at hl 0 rfl) ?_
  refine lv_if_lt (tgt := 9) hx hb dJ3_checkIndex_8e157_1 (by decide) (fun c9 => absurd c9 (by decide +kernel)) (fun _ => ?_)
  refine lv_iload_n hx hb dJ3_checkIndex_8e157_4 rfl (lv_at hl 0 rfl) ?_
  refine lv_iload_n hx hb dJ3_checkIndex_8e157_5 rfl (lv_at hl 1 rfl) ?_
  refine lv_icmp_lt (tgt := 16) hx hb dJ3_checkIndex_8e157_6 (by decide) (fun _ => ?_) (fun c9 => absurd (by decide +kernel) c9)
  refine lv_iload_n hx hb dJ3_checkIndex_8e157_16 rfl (lv_at hl 0 rfl) ?_
  refine W.widen (k := 0) (n := 0) (Nat.le_of_ble_eq_true rfl) (Nat.le_of_ble_eq_true rfl) ?_
  exact W.iret (v := 0) hx hb hr (QG_.mk (fun _ => 0) (fun _ => 0) (fun _ => 0) [] [] hP hD hK hS rfl trivial rfl (by decide) rfl) hS.2.2 dJ3_checkIndex_8e157_17
set_option maxHeartbeats 4000000 in
set_option maxRecDepth 100000 in
theorem c_J15_checkIndex_7cf53_0 (l : Launch) (hl0 : l.stackTraces = false) (D : va_G) (ad : Nat → Nat) (sz : Nat)  : Met l yJ15_checkIndex_7cf53 wsJ15_checkIndex_7cf53 ({ frames := 1, cells := 0, slots := 0, locals := 24 }) (PC_ D ad [] [] sz [.int 0, .int 1]) (QG_ D (fun q i => some (.int 0)) (fun q i => True) (fun q k i => []) (fun q k i => []) (va_A [] sz)) 0 0 (va_A [] sz) := by
  refine Met.ofW (cc := cJ15_checkIndex_7cf53) (maxL := 2) (ret := (some .int)) (by decide) rfl ?_
  intro p e s m args below meth c s₁ B hml hv
  obtain ⟨rfl, hsz, hP, hK, hD0, hF⟩ := hv
  have hx := B.exec
  have hb := B.bytes
  have hr := B.returns
  have hts := atoms_spec (ws := wsJ15_checkIndex_7cf53) B.pre
  have hown : s.vm.findClass RJ15 = some m.cls := findClass_of_methodNamed B.named
  have hlocks := B.notSynchronized
  subst hsz
  have hD := hD0.self (sz := s.heap.size)
  generalize hAe : va_A [] s.heap.size = A at hD hF ⊢
  have hA : ∀ q : Nat, s.heap.size ≤ q → A q := fun q h => by rw [← hAe]; exact Or.inr h
  obtain ⟨H, hHe⟩ : ∃ H : Heap, H = s.heap := ⟨_, rfl⟩
  have hS : va_S A s.heap H [] := by rw [hHe]; exact va_S.rf
  have hP : va_P D vwCl [] H := by rw [hHe]; exact hP
  rw [← hHe]
  have hl := lv_entry [.int 0, .int 1] (n := 2) (Nat.le_of_ble_eq_true rfl)
  rw [lg_entry_eq]
  generalize (lg_sl [.int 0, .int 1] ++ List.replicate (2 - (lg_sl [.int 0, .int 1]).length) Slot.unset).toArray = ls at hl ⊢
  have hl : lv_has ls 2 [(0, .int 0), (1, .int 1)] := hl
  refine lv_iload_n hx hb dJ15_checkIndex_7cf53_0 rfl (lv_at hl 0 rfl) ?_
  refine lv_iload_n hx hb dJ15_checkIndex_7cf53_1 rfl (lv_at hl 1 rfl) ?_
  refine lv_null hx hb dJ15_checkIndex_7cf53_2 ?_
  refine kc_ (wc := []) (wr := []) (va_runS (As := [.int 0, .int 1, .null]) (rest := []) ⟨hx, hb, hml, hown, hts⟩ (c_J3_checkIndex_8e157_0 l hl0 D ad H.size) (va_cwS 3 hts gJ15_checkIndex_7cf53_J3_checkIndex_8e157 rfl rfl rfl (by decide +kernel) ⟨Nat.le_of_ble_eq_true rfl, Nat.le_of_ble_eq_true rfl⟩) ⟨PC_.blind, PC_.pre hF hK hP hD hS hA [] [] rfl (by decide) rfl⟩ rfl rfl hl.1 rfl (lv_room (Nat.le_of_ble_eq_true rfl)) dJ15_checkIndex_7cf53_3 ⟨Nat.le_of_ble_eq_true rfl, Nat.le_of_ble_eq_true rfl⟩) hK hP hD hS hA [] [] [] rfl rfl (by decide) (by decide) rfl (fun qa_1 ka_1 ia_1 H locs hpo hP hD hK hS => ?_)
  have hK : va_K D vwCl [] s := hK
  refine W.eq (g2 := F0 m 6 ls [.int 0]) rfl ?_
  refine W.widen (k := 0) (n := 0) (Nat.le_of_ble_eq_true rfl) (Nat.le_of_ble_eq_true rfl) ?_
  exact W.iret (v := 0) hx hb hr (QG_.mk (fun _ => 0) (fun _ => 0) (fun _ => 0) [] [] hP hD hK hS rfl trivial rfl (by decide) rfl) hS.2.2 dJ15_checkIndex_7cf53_6
set_option maxHeartbeats 4000000 in
set_option maxRecDepth 100000 in
theorem c_Jx4a65c_elementData_915e3_0 (l : Launch) (hl0 : l.stackTraces = false) (D : va_G) (ad : Nat → Nat) (sz : Nat) (h0 : Nat) (h1 : Nat) (k1 : ClassId) (r0 : Nat) (v0 : Value) (v1 : Value) : Met l yJx4a65c_elementData_915e3 wsJx4a65c_elementData_915e3 ({ frames := 0, cells := 0, slots := 0, locals := 0 }) (PC_ D ad [(h0, .inr (4, [v0, .ref h1, v1])), (h1, .inl (k1, 10, .inr (.inr (.inr (.inr (va_up (fun _ => none) 0 (some r0)))))))] [(k1, .object "java/lang/Object")] sz [.ref h0, .int 0]) (QG_ D (fun q i => some (.ref r0)) (fun q i => True) (fun q k i => [(h0, .inr (4, [v0, .ref h1, v1])), (h1, .inl (k1, 10, .inr (.inr (.inr (.inr (va_up (fun _ => none) 0 (some r0)))))))]) (fun q k i => [(k1, .object "java/lang/Object")]) (va_A [(h0, .inr (4, [v0, .ref h1, v1])), (h1, .inl (k1, 10, .inr (.inr (.inr (.inr (va_up (fun _ => none) 0 (some r0)))))))] sz)) 0 0 (va_A [(h0, .inr (4, [v0, .ref h1, v1])), (h1, .inl (k1, 10, .inr (.inr (.inr (.inr (va_up (fun _ => none) 0 (some r0)))))))] sz) := by
  refine Met.ofW (cc := cJx4a65c_elementData_915e3) (maxL := 2) (ret := (some (.object "java/lang/Object"))) (by decide) rfl ?_
  intro p e s m args below meth c s₁ B hml hv
  obtain ⟨rfl, hsz, hP, hK, hD0, hF⟩ := hv
  have hx := B.exec
  have hb := B.bytes
  have hr := B.returns
  have hts := atoms_spec (ws := wsJx4a65c_elementData_915e3) B.pre
  have hown : s.vm.findClass RJx4a65c = some m.cls := findClass_of_methodNamed B.named
  have hlocks := B.notSynchronized
  subst hsz
  have hD := hD0.self (sz := s.heap.size)
  generalize hAe : va_A [(h0, .inr (4, [v0, .ref h1, v1])), (h1, .inl (k1, 10, .inr (.inr (.inr (.inr (va_up (fun _ => none) 0 (some r0)))))))] s.heap.size = A at hD hF ⊢
  have hA : ∀ q : Nat, s.heap.size ≤ q → A q := fun q h => by rw [← hAe]; exact Or.inr h
  obtain ⟨H, hHe⟩ : ∃ H : Heap, H = s.heap := ⟨_, rfl⟩
  have hS : va_S A s.heap H [] := by rw [hHe]; exact va_S.rf
  have hP : va_P D vwCl [(h0, .inr (4, [v0, .ref h1, v1])), (h1, .inl (k1, 10, .inr (.inr (.inr (.inr (va_up (fun _ => none) 0 (some r0)))))))] H := by rw [hHe]; exact hP
  rw [← hHe]
  have hi_Jx4a65c : ∀ w ∈ wsJx4a65c0, w ∈ wsJx4a65c_elementData_915e3 := by decide +kernel
  have hl := lv_entry [.ref h0, .int 0] (n := 2) (Nat.le_of_ble_eq_true rfl)
  rw [lg_entry_eq]
  generalize (lg_sl [.ref h0, .int 0] ++ List.replicate (2 - (lg_sl [.ref h0, .int 0]).length) Slot.unset).toArray = ls at hl ⊢
  have hl : lv_has ls 2 [(0, .ref h0), (1, .int 0)] := hl
  refine lv_aload_n hx hb dJx4a65c_elementData_915e3_0 rfl (lv_at hl 0 rfl) ?_
  refine va_get (D := D) (ci := 4) (v := .ref h1) (own := RJx4a65c) (C := RJx4a65c) (T := TJx4a65c) (N := 3) hx hb hts hi_Jx4a65c hown hK hP 0 rfl rfl 1 (by decide) (hts (.fieldLink RJx4a65c 9 "java/util/ArrayList" "elementData" "[Ljava/lang/Object;") (List.mem_of_getElem? (i := 1) (by decide +kernel))) (fun _ h9 => h9) rfl dJx4a65c_elementData_915e3_1 ?_
  refine lv_iload_n hx hb dJx4a65c_elementData_915e3_4 rfl (lv_at hl 1 rfl) ?_
  refine va_aldq hx hb hK hP 1 0 rfl rfl (vin_ (by decide +kernel)) dJx4a65c_elementData_915e3_5 ?_
  refine W.eq (g2 := F0 m 6 ls [.ref r0]) rfl ?_
  refine W.widen (k := 0) (n := 0) (Nat.le_of_ble_eq_true rfl) (Nat.le_of_ble_eq_true rfl) ?_
  exact W.aret (v := .ref r0) hx hb hr (Or.inl ⟨_, rfl⟩) (Or.inr ⟨_, rfl⟩) (QG_.mk (fun _ => 0) (fun _ => 0) (fun _ => 0) [0, 1] [0] hP hD hK hS rfl trivial rfl (by decide) rfl) hS.2.2 dJx4a65c_elementData_915e3_6
set_option maxHeartbeats 4000000 in
set_option maxRecDepth 100000 in
theorem c_Jx4a65c_get_915e3_0 (l : Launch) (hl0 : l.stackTraces = false) (D : va_G) (ad : Nat → Nat) (sz : Nat) (h0 : Nat) (h1 : Nat) (k1 : ClassId) (r0 : Nat) (v0 : Value) : Met l yJx4a65c_get_915e3 wsJx4a65c_get_915e3 ({ frames := 2, cells := 0, slots := 0, locals := 47 }) (PC_ D ad [(h0, .inr (4, [v0, .ref h1, .int 1])), (h1, .inl (k1, 10, .inr (.inr (.inr (.inr (va_up (fun _ => none) 0 (some r0)))))))] [(k1, .object "java/lang/Object")] sz [.ref h0, .int 0]) (QG_ D (fun q i => some (.ref r0)) (fun q i => True) (fun q k i => [(h0, .inr (4, [v0, .ref h1, .int 1])), (h1, .inl (k1, 10, .inr (.inr (.inr (.inr (va_up (fun _ => none) 0 (some r0)))))))]) (fun q k i => [(k1, .object "java/lang/Object")]) (va_A [(h0, .inr (4, [v0, .ref h1, .int 1])), (h1, .inl (k1, 10, .inr (.inr (.inr (.inr (va_up (fun _ => none) 0 (some r0)))))))] sz)) 0 0 (va_A [(h0, .inr (4, [v0, .ref h1, .int 1])), (h1, .inl (k1, 10, .inr (.inr (.inr (.inr (va_up (fun _ => none) 0 (some r0)))))))] sz) := by
  refine Met.ofW (cc := cJx4a65c_get_915e3) (maxL := 2) (ret := (some (.object "java/lang/Object"))) (by decide) rfl ?_
  intro p e s m args below meth c s₁ B hml hv
  obtain ⟨rfl, hsz, hP, hK, hD0, hF⟩ := hv
  have hx := B.exec
  have hb := B.bytes
  have hr := B.returns
  have hts := atoms_spec (ws := wsJx4a65c_get_915e3) B.pre
  have hown : s.vm.findClass RJx4a65c = some m.cls := findClass_of_methodNamed B.named
  have hlocks := B.notSynchronized
  subst hsz
  have hD := hD0.self (sz := s.heap.size)
  generalize hAe : va_A [(h0, .inr (4, [v0, .ref h1, .int 1])), (h1, .inl (k1, 10, .inr (.inr (.inr (.inr (va_up (fun _ => none) 0 (some r0)))))))] s.heap.size = A at hD hF ⊢
  have hA : ∀ q : Nat, s.heap.size ≤ q → A q := fun q h => by rw [← hAe]; exact Or.inr h
  obtain ⟨H, hHe⟩ : ∃ H : Heap, H = s.heap := ⟨_, rfl⟩
  have hS : va_S A s.heap H [] := by rw [hHe]; exact va_S.rf
  have hP : va_P D vwCl [(h0, .inr (4, [v0, .ref h1, .int 1])), (h1, .inl (k1, 10, .inr (.inr (.inr (.inr (va_up (fun _ => none) 0 (some r0)))))))] H := by rw [hHe]; exact hP
  rw [← hHe]
  have hi_Jx4a65c : ∀ w ∈ wsJx4a65c0, w ∈ wsJx4a65c_get_915e3 := by decide +kernel
  have hl := lv_entry [.ref h0, .int 0] (n := 2) (Nat.le_of_ble_eq_true rfl)
  rw [lg_entry_eq]
  generalize (lg_sl [.ref h0, .int 0] ++ List.replicate (2 - (lg_sl [.ref h0, .int 0]).length) Slot.unset).toArray = ls at hl ⊢
  have hl : lv_has ls 2 [(0, .ref h0), (1, .int 0)] := hl
  refine lv_iload_n hx hb dJx4a65c_get_915e3_0 rfl (lv_at hl 1 rfl) ?_
  refine lv_aload_n hx hb dJx4a65c_get_915e3_1 rfl (lv_at hl 0 rfl) ?_
  refine va_get (D := D) (ci := 4) (v := .int 1) (own := RJx4a65c) (C := RJx4a65c) (T := TJx4a65c) (N := 3) hx hb hts hi_Jx4a65c hown hK hP 0 rfl rfl 2 (by decide) (hts (.fieldLink RJx4a65c 48 "java/util/ArrayList" "size" "I") (List.mem_of_getElem? (i := 1) (by decide +kernel))) (fun _ h9 => h9) rfl dJx4a65c_get_915e3_2 ?_
  refine kc_ (wc := []) (wr := [(h0, .inr (4, [v0, .ref h1, .int 1])), (h1, .inl (k1, 10, .inr (.inr (.inr (.inr (va_up (fun _ => none) 0 (some r0)))))))]) (va_runS (As := [.int 0, .int 1]) (rest := []) ⟨hx, hb, hml, hown, hts⟩ (c_J15_checkIndex_7cf53_0 l hl0 D ad H.size) (va_cwS 2 hts gJx4a65c_get_915e3_J15_checkIndex_7cf53 rfl rfl rfl (by decide +kernel) ⟨Nat.le_of_ble_eq_true rfl, Nat.le_of_ble_eq_true rfl⟩) ⟨PC_.blind, PC_.pre hF hK hP hD hS hA [] [] rfl (by decide) rfl⟩ rfl rfl hl.1 rfl (lv_room (Nat.le_of_ble_eq_true rfl)) dJx4a65c_get_915e3_5 ⟨Nat.le_of_ble_eq_true rfl, Nat.le_of_ble_eq_true rfl⟩) hK hP hD hS hA [] [0, 1] [0] rfl rfl (by decide) (by decide) rfl (fun qa_1 ka_1 ia_1 H locs hpo hP hD hK hS => ?_)
  have hP : va_P D vwCl [(h0, .inr (4, [v0, .ref h1, .int 1])), (h1, .inl (k1, 10, .inr (.inr (.inr (.inr (va_up (fun _ => none) 0 (some r0)))))))] H := hP
  have hD : va_D A [(h0, .inr (4, [v0, .ref h1, .int 1])), (h1, .inl (k1, 10, .inr (.inr (.inr (.inr (va_up (fun _ => none) 0 (some r0)))))))] := hD
  have hK : va_K D vwCl [(k1, .object "java/lang/Object")] s := hK
  refine W.eq (g2 := F0 m 8 ls [.int 0]) rfl ?_
  refine lv_pop hx hb dJx4a65c_get_915e3_8 rfl ?_
  refine lv_aload_n hx hb dJx4a65c_get_915e3_9 rfl (lv_at hl 0 rfl) ?_
  refine lv_iload_n hx hb dJx4a65c_get_915e3_10 rfl (lv_at hl 1 rfl) ?_
  refine kc_ (wc := [(h0, .inr (4, [v0, .ref h1, .int 1])), (h1, .inl (k1, 10, .inr (.inr (.inr (.inr (va_up (fun _ => none) 0 (some r0)))))))]) (wr := []) (va_runV (As := [.int 0]) (rest := []) ⟨hx, hb, hml, hown, hts⟩ (c_Jx4a65c_elementData_915e3_0 l hl0 D ad H.size h0 h1 k1 r0 (v0) (.int 1)) (cwV 1 hts gJx4a65c_get_915e3_Jx4a65c_elementData_915e3 rfl rfl rfl (by decide +kernel) ⟨Nat.le_of_ble_eq_true rfl, Nat.le_of_ble_eq_true rfl⟩) ⟨PC_.blind, va_recv hK hP (ci := 4) (q0 := 0) rfl rfl, PC_.pre hF hK hP hD hS hA [0, 1] [0] rfl (by decide) rfl⟩ rfl rfl hl.1 rfl (lv_room (Nat.le_of_ble_eq_true rfl)) dJx4a65c_get_915e3_11 ⟨Nat.le_of_ble_eq_true rfl, Nat.le_of_ble_eq_true rfl⟩) hK hP hD hS hA [0, 1] [] [] rfl rfl (by decide) (by decide) rfl (fun qa_2 ka_2 ia_2 H locs hpo hP hD hK hS => ?_)
  have hP : va_P D vwCl [(h0, .inr (4, [v0, .ref h1, .int 1])), (h1, .inl (k1, 10, .inr (.inr (.inr (.inr (va_up (fun _ => none) 0 (some r0)))))))] H := hP
  have hD : va_D A [(h0, .inr (4, [v0, .ref h1, .int 1])), (h1, .inl (k1, 10, .inr (.inr (.inr (.inr (va_up (fun _ => none) 0 (some r0)))))))] := hD
  have hK : va_K D vwCl [(k1, .object "java/lang/Object")] s := hK
  refine W.eq (g2 := F0 m 14 ls [.ref r0]) rfl ?_
  refine W.widen (k := 0) (n := 0) (Nat.le_of_ble_eq_true rfl) (Nat.le_of_ble_eq_true rfl) ?_
  exact W.aret (v := .ref r0) hx hb hr (Or.inl ⟨_, rfl⟩) (Or.inr ⟨_, rfl⟩) (QG_.mk (fun _ => 0) (fun _ => 0) (fun _ => 0) [0, 1] [0] hP hD hK hS rfl trivial rfl (by decide) rfl) hS.2.2 dJx4a65c_get_915e3_14
set_option maxHeartbeats 4000000 in
set_option maxRecDepth 100000 in
theorem c_X1_numbered_0 (l : Launch) (hl0 : l.stackTraces = false) (D : va_G) (ad : Nat → Nat) (sz : Nat) (h0 : Nat) (h1 : Nat) (h2 : Nat) (h3 : Nat) (k2 : ClassId) (v0 : Value) (v1 : Value) (v2 : Value) (v3 : Value) (v4 : Value) : Met l yX1_numbered wsX1_numbered ({ frames := 3, cells := 0, slots := 0, locals := 70 }) (PC_ D ad [(h0, .inr (5, [.ref h1, .ref h3])), (h1, .inr (4, [v0, .ref h2, .int 1])), (h2, .inl (k2, 10, .inr (.inr (.inr (.inr (va_up (fun _ => none) 0 (some h3))))))), (h3, .inr (9, [v1, v2, v3, v4]))] [(k2, .object "java/lang/Object")] sz [.ref h0, .int 0]) (QG_ D (fun q i => some (.ref h3)) (fun q i => True) (fun q k i => [(h0, .inr (5, [.ref h1, .ref h3])), (h1, .inr (4, [v0, .ref h2, .int 1])), (h2, .inl (k2, 10, .inr (.inr (.inr (.inr (va_up (fun _ => none) 0 (some h3))))))), (h3, .inr (9, [v1, v2, v3, v4]))]) (fun q k i => [(k2, .object "java/lang/Object")]) (va_A [(h0, .inr (5, [.ref h1, .ref h3])), (h1, .inr (4, [v0, .ref h2, .int 1])), (h2, .inl (k2, 10, .inr (.inr (.inr (.inr (va_up (fun _ => none) 0 (some h3))))))), (h3, .inr (9, [v1, v2, v3, v4]))] sz)) 0 0 (va_A [(h0, .inr (5, [.ref h1, .ref h3])), (h1, .inr (4, [v0, .ref h2, .int 1])), (h2, .inl (k2, 10, .inr (.inr (.inr (.inr (va_up (fun _ => none) 0 (some h3))))))), (h3, .inr (9, [v1, v2, v3, v4]))] sz) := by
  refine Met.ofW (cc := cX1_numbered) (maxL := 2) (ret := (some (.object "CanalMaps$Page"))) (by decide) rfl ?_
  intro p e s m args below meth c s₁ B hml hv
  obtain ⟨rfl, hsz, hP, hK, hD0, hF⟩ := hv
  have hx := B.exec
  have hb := B.bytes
  have hr := B.returns
  have hts := atoms_spec (ws := wsX1_numbered) B.pre
  have hown : s.vm.findClass RX1 = some m.cls := findClass_of_methodNamed B.named
  have hlocks := B.notSynchronized
  subst hsz
  have hD := hD0.self (sz := s.heap.size)
  generalize hAe : va_A [(h0, .inr (5, [.ref h1, .ref h3])), (h1, .inr (4, [v0, .ref h2, .int 1])), (h2, .inl (k2, 10, .inr (.inr (.inr (.inr (va_up (fun _ => none) 0 (some h3))))))), (h3, .inr (9, [v1, v2, v3, v4]))] s.heap.size = A at hD hF ⊢
  have hA : ∀ q : Nat, s.heap.size ≤ q → A q := fun q h => by rw [← hAe]; exact Or.inr h
  obtain ⟨H, hHe⟩ : ∃ H : Heap, H = s.heap := ⟨_, rfl⟩
  have hS : va_S A s.heap H [] := by rw [hHe]; exact va_S.rf
  have hP : va_P D vwCl [(h0, .inr (5, [.ref h1, .ref h3])), (h1, .inr (4, [v0, .ref h2, .int 1])), (h2, .inl (k2, 10, .inr (.inr (.inr (.inr (va_up (fun _ => none) 0 (some h3))))))), (h3, .inr (9, [v1, v2, v3, v4]))] H := by rw [hHe]; exact hP
  rw [← hHe]
  have hi_Jx4a65c : ∀ w ∈ wsJx4a65c0, w ∈ wsX1_numbered := by decide +kernel
  have hi_X1 : ∀ w ∈ wsX10, w ∈ wsX1_numbered := by decide +kernel
  have hl := lv_entry [.ref h0, .int 0] (n := 2) (Nat.le_of_ble_eq_true rfl)
  rw [lg_entry_eq]
  generalize (lg_sl [.ref h0, .int 0] ++ List.replicate (2 - (lg_sl [.ref h0, .int 0]).length) Slot.unset).toArray = ls at hl ⊢
  have hl : lv_has ls 2 [(0, .ref h0), (1, .int 0)] := hl
  refine lv_iload_n hx hb dX1_numbered_0 rfl (lv_at hl 1 rfl) ?_
  refine lv_if_lt (tgt := 29) hx hb dX1_numbered_1 (by decide) (fun c9 => absurd c9 (by decide +kernel)) (fun _ => ?_)
  refine lv_iload_n hx hb dX1_numbered_4 rfl (lv_at hl 1 rfl) ?_
  refine lv_aload_n hx hb dX1_numbered_5 rfl (lv_at hl 0 rfl) ?_
  refine va_get (D := D) (ci := 5) (v := .ref h1) (own := RX1) (C := RX1) (T := TX1) (N := 2) hx hb hts hi_X1 hown hK hP 0 rfl rfl 0 (by decide) (hts (.fieldLink RX1 12 "CanalMaps$Archive" "pages" "Ljava/util/ArrayList;") (List.mem_of_getElem? (i := 1) (by decide +kernel))) (fun _ h9 => h9) rfl dX1_numbered_6 ?_
  refine kc_ (wc := [(h1, .inr (4, [v0, .ref h2, .int 1]))]) (wr := [(h0, .inr (5, [.ref h1, .ref h3])), (h2, .inl (k2, 10, .inr (.inr (.inr (.inr (va_up (fun _ => none) 0 (some h3))))))), (h3, .inr (9, [v1, v2, v3, v4]))]) (va_runV (As := []) (rest := [.int 0]) ⟨hx, hb, hml, hown, hts⟩ (c_Jx4a65c_size_8abf5_0 l hl0 D ad H.size h1 (v0) (.ref h2)) (cwV 0 hts gX1_numbered_Jx4a65c_size_8abf5 rfl rfl rfl (by decide +kernel) ⟨Nat.le_of_ble_eq_true rfl, Nat.le_of_ble_eq_true rfl⟩) ⟨PC_.blind, va_recv hK hP (ci := 4) (q0 := 1) rfl rfl, PC_.pre hF hK hP hD hS hA [1] [] rfl (by decide) rfl⟩ rfl rfl hl.1 rfl (lv_room (Nat.le_of_ble_eq_true rfl)) dX1_numbered_9 ⟨Nat.le_of_ble_eq_true rfl, Nat.le_of_ble_eq_true rfl⟩) hK hP hD hS hA [1] [0, 2, 3] [0] rfl rfl (by decide) (by decide) rfl (fun qa_1 ka_1 ia_1 H locs hpo hP hD hK hS => ?_)
  have hP : va_P D vwCl [(h0, .inr (5, [.ref h1, .ref h3])), (h2, .inl (k2, 10, .inr (.inr (.inr (.inr (va_up (fun _ => none) 0 (some h3))))))), (h3, .inr (9, [v1, v2, v3, v4])), (h1, .inr (4, [v0, .ref h2, .int 1]))] H := hP
  have hD : va_D A [(h0, .inr (5, [.ref h1, .ref h3])), (h2, .inl (k2, 10, .inr (.inr (.inr (.inr (va_up (fun _ => none) 0 (some h3))))))), (h3, .inr (9, [v1, v2, v3, v4])), (h1, .inr (4, [v0, .ref h2, .int 1]))] := hD
  have hK : va_K D vwCl [(k2, .object "java/lang/Object")] s := hK
  refine W.eq (g2 := F0 m 12 ls [.int 1, .int 0]) rfl ?_
  refine lv_icmp_ge (tgt := 29) hx hb dX1_numbered_12 (by decide) (fun c9 => absurd c9 (by decide +kernel)) (fun _ => ?_)
  refine lv_aload_n hx hb dX1_numbered_15 rfl (lv_at hl 0 rfl) ?_
  refine va_get (D := D) (ci := 5) (v := .ref h1) (own := RX1) (C := RX1) (T := TX1) (N := 2) hx hb hts hi_X1 hown hK hP 0 rfl rfl 0 (by decide) (hts (.fieldLink RX1 12 "CanalMaps$Archive" "pages" "Ljava/util/ArrayList;") (List.mem_of_getElem? (i := 1) (by decide +kernel))) (fun _ h9 => h9) rfl dX1_numbered_16 ?_
  refine lv_iload_n hx hb dX1_numbered_19 rfl (lv_at hl 1 rfl) ?_
  refine kc_ (wc := [(h1, .inr (4, [v0, .ref h2, .int 1])), (h2, .inl (k2, 10, .inr (.inr (.inr (.inr (va_up (fun _ => none) 0 (some h3)))))))]) (wr := [(h0, .inr (5, [.ref h1, .ref h3])), (h3, .inr (9, [v1, v2, v3, v4]))]) (va_runV (As := [.int 0]) (rest := []) ⟨hx, hb, hml, hown, hts⟩ (c_Jx4a65c_get_915e3_0 l hl0 D ad H.size h1 h2 k2 h3 (v0)) (cwV 1 hts gX1_numbered_Jx4a65c_get_915e3 rfl rfl rfl (by decide +kernel) ⟨Nat.le_of_ble_eq_true rfl, Nat.le_of_ble_eq_true rfl⟩) ⟨PC_.blind, va_recv hK hP (ci := 4) (q0 := 3) rfl rfl, PC_.pre hF hK hP hD hS hA [3, 1] [0] rfl (by decide) rfl⟩ rfl rfl hl.1 rfl (lv_room (Nat.le_of_ble_eq_true rfl)) dX1_numbered_20 ⟨Nat.le_of_ble_eq_true rfl, Nat.le_of_ble_eq_true rfl⟩) hK hP hD hS hA [3, 1] [0, 2] [] rfl rfl (by decide) (by decide) rfl (fun qa_2 ka_2 ia_2 H locs hpo hP hD hK hS => ?_)
  have hP : va_P D vwCl [(h0, .inr (5, [.ref h1, .ref h3])), (h3, .inr (9, [v1, v2, v3, v4])), (h1, .inr (4, [v0, .ref h2, .int 1])), (h2, .inl (k2, 10, .inr (.inr (.inr (.inr (va_up (fun _ => none) 0 (some h3)))))))] H := hP
  have hD : va_D A [(h0, .inr (5, [.ref h1, .ref h3])), (h3, .inr (9, [v1, v2, v3, v4])), (h1, .inr (4, [v0, .ref h2, .int 1])), (h2, .inl (k2, 10, .inr (.inr (.inr (.inr (va_up (fun _ => none) 0 (some h3)))))))] := hD
  have hK : va_K D vwCl [(k2, .object "java/lang/Object")] s := hK
  refine W.eq (g2 := F0 m 23 ls [.ref h3]) rfl ?_
  refine va_castS (own := RX1) (nm := "CanalMaps$Page") hx hb hown (hts (.classLink RX1 18 "CanalMaps$Page") (List.mem_of_getElem? (i := 2) (by decide +kernel))) (hK.1 9 _ rfl).2 (va_recv hK hP (ci := 9) (q0 := 1) rfl rfl) dX1_numbered_23 ?_
  refine lv_goto (tgt := 33) hx hb dX1_numbered_26 (by decide) ?_
  refine W.widen (k := 0) (n := 0) (Nat.le_of_ble_eq_true rfl) (Nat.le_of_ble_eq_true rfl) ?_
  exact W.aret (v := .ref h3) hx hb hr (Or.inl ⟨_, rfl⟩) (Or.inr ⟨_, rfl⟩) (QG_.mk (fun _ => 0) (fun _ => 0) (fun _ => 0) [0, 2, 3, 1] [0] hP hD hK hS rfl trivial rfl (by decide) rfl) hS.2.2 dX1_numbered_33
set_option maxHeartbeats 4000000 in
set_option maxRecDepth 100000 in
theorem c_X8_pageIn_0 (l : Launch) (hl0 : l.stackTraces = false) (D : va_G) (ad : Nat → Nat) (sz : Nat) (h0 : Nat) (h1 : Nat) (h2 : Nat) (h3 : Nat) (h4 : Nat) (h5 : Nat) (k1 : ClassId) (k4 : ClassId) (v0 : Value) (v1 : Value) (v2 : Value) (v3 : Value) (v4 : Value) (v5 : Value) (v6 : Value) (v7 : Value) (v8 : Value) (v9 : Value) (v10 : Value) (v11 : Value) (v12 : Value) : Met l yX8_pageIn wsX8_pageIn ({ frames := 4, cells := 0, slots := 0, locals := 93 }) (PC_ D ad [(h0, .inr (11, [.ref h2, v0, v1, .ref h1, v2, v3, v4, v5, v6, v7])), (h1, .inl (k1, 36, .inl (fun _ => 0))), (h2, .inr (5, [.ref h3, .ref h5])), (h3, .inr (4, [v8, .ref h4, .int 1])), (h4, .inl (k4, 10, .inr (.inr (.inr (.inr (va_up (fun _ => none) 0 (some h5))))))), (h5, .inr (9, [v9, v10, v11, v12]))] [(k1, .int), (k4, .object "java/lang/Object")] sz [.ref h0, .int 0, .int 0]) (QG_ D (fun q i => some (.ref h5)) (fun q i => True) (fun q k i => [(h0, .inr (11, [.ref h2, v0, v1, .ref h1, v2, v3, v4, v5, v6, v7])), (h1, .inl (k1, 36, .inl (fun _ => 0))), (h2, .inr (5, [.ref h3, .ref h5])), (h3, .inr (4, [v8, .ref h4, .int 1])), (h4, .inl (k4, 10, .inr (.inr (.inr (.inr (va_up (fun _ => none) 0 (some h5))))))), (h5, .inr (9, [v9, v10, v11, v12]))]) (fun q k i => [(k1, .int), (k4, .object "java/lang/Object")]) (va_A [(h0, .inr (11, [.ref h2, v0, v1, .ref h1, v2, v3, v4, v5, v6, v7])), (h1, .inl (k1, 36, .inl (fun _ => 0))), (h2, .inr (5, [.ref h3, .ref h5])), (h3, .inr (4, [v8, .ref h4, .int 1])), (h4, .inl (k4, 10, .inr (.inr (.inr (.inr (va_up (fun _ => none) 0 (some h5))))))), (h5, .inr (9, [v9, v10, v11, v12]))] sz)) 0 0 (va_A [(h0, .inr (11, [.ref h2, v0, v1, .ref h1, v2, v3, v4, v5, v6, v7])), (h1, .inl (k1, 36, .inl (fun _ => 0))), (h2, .inr (5, [.ref h3, .ref h5])), (h3, .inr (4, [v8, .ref h4, .int 1])), (h4, .inl (k4, 10, .inr (.inr (.inr (.inr (va_up (fun _ => none) 0 (some h5))))))), (h5, .inr (9, [v9, v10, v11, v12]))] sz) := by
  refine Met.ofW (cc := cX8_pageIn) (maxL := 3) (ret := (some (.object "CanalMaps$Page"))) (by decide) rfl ?_
  intro p e s m args below meth c s₁ B hml hv
  obtain ⟨rfl, hsz, hP, hK, hD0, hF⟩ := hv
  have hx := B.exec
  have hb := B.bytes
  have hr := B.returns
  have hts := atoms_spec (ws := wsX8_pageIn) B.pre
  have hown : s.vm.findClass RX8 = some m.cls := findClass_of_methodNamed B.named
  have hlocks := B.notSynchronized
  subst hsz
  have hD := hD0.self (sz := s.heap.size)
  generalize hAe : va_A [(h0, .inr (11, [.ref h2, v0, v1, .ref h1, v2, v3, v4, v5, v6, v7])), (h1, .inl (k1, 36, .inl (fun _ => 0))), (h2, .inr (5, [.ref h3, .ref h5])), (h3, .inr (4, [v8, .ref h4, .int 1])), (h4, .inl (k4, 10, .inr (.inr (.inr (.inr (va_up (fun _ => none) 0 (some h5))))))), (h5, .inr (9, [v9, v10, v11, v12]))] s.heap.size = A at hD hF ⊢
  have hA : ∀ q : Nat, s.heap.size ≤ q → A q := fun q h => by rw [← hAe]; exact Or.inr h
  obtain ⟨H, hHe⟩ : ∃ H : Heap, H = s.heap := ⟨_, rfl⟩
  have hS : va_S A s.heap H [] := by rw [hHe]; exact va_S.rf
  have hP : va_P D vwCl [(h0, .inr (11, [.ref h2, v0, v1, .ref h1, v2, v3, v4, v5, v6, v7])), (h1, .inl (k1, 36, .inl (fun _ => 0))), (h2, .inr (5, [.ref h3, .ref h5])), (h3, .inr (4, [v8, .ref h4, .int 1])), (h4, .inl (k4, 10, .inr (.inr (.inr (.inr (va_up (fun _ => none) 0 (some h5))))))), (h5, .inr (9, [v9, v10, v11, v12]))] H := by rw [hHe]; exact hP
  rw [← hHe]
  have hi_Jx4a65c : ∀ w ∈ wsJx4a65c0, w ∈ wsX8_pageIn := by decide +kernel
  have hi_X1 : ∀ w ∈ wsX10, w ∈ wsX8_pageIn := by decide +kernel
  have hi_X6 : ∀ w ∈ wsX60, w ∈ wsX8_pageIn := by decide +kernel
  have hi_X8 : ∀ w ∈ wsX80, w ∈ wsX8_pageIn := by decide +kernel
  have hl := lv_entry [.ref h0, .int 0, .int 0] (n := 3) (Nat.le_of_ble_eq_true rfl)
  rw [lg_entry_eq]
  generalize (lg_sl [.ref h0, .int 0, .int 0] ++ List.replicate (3 - (lg_sl [.ref h0, .int 0, .int 0]).length) Slot.unset).toArray = ls at hl ⊢
  have hl : lv_has ls 3 [(0, .ref h0), (1, .int 0), (2, .int 0)] := hl
  refine lv_aload_n hx hb dX8_pageIn_0 rfl (lv_at hl 0 rfl) ?_
  refine va_get (D := D) (ci := 11) (v := .ref h2) (own := RX8) (C := RX8) (T := TX8) (N := 10) hx hb hts hi_X8 hown hK hP 0 rfl rfl 0 (by decide) (hts (.fieldLink RX8 44 "CanalMaps$Survey" "archive" "LCanalMaps$Archive;") (List.mem_of_getElem? (i := 1) (by decide +kernel))) (fun _ h9 => h9) rfl dX8_pageIn_1 ?_
  refine lv_aload_n hx hb dX8_pageIn_4 rfl (lv_at hl 0 rfl) ?_
  refine va_get (D := D) (ci := 11) (v := .ref h1) (own := RX8) (C := RX8) (T := TX8) (N := 10) hx hb hts hi_X8 hown hK hP 0 rfl rfl 3 (by decide) (hts (.fieldLink RX8 18 "CanalMaps$Survey" "maps" "[I") (List.mem_of_getElem? (i := 2) (by decide +kernel))) (fun _ h9 => h9) rfl dX8_pageIn_5 ?_
  refine lv_iload_n hx hb dX8_pageIn_8 rfl (lv_at hl 1 rfl) ?_
  refine lv_iload_n hx hb dX8_pageIn_9 rfl (lv_at hl 2 rfl) ?_
  refine kc_ (wc := []) (wr := [(h0, .inr (11, [.ref h2, v0, v1, .ref h1, v2, v3, v4, v5, v6, v7])), (h1, .inl (k1, 36, .inl (fun _ => 0))), (h2, .inr (5, [.ref h3, .ref h5])), (h3, .inr (4, [v8, .ref h4, .int 1])), (h4, .inl (k4, 10, .inr (.inr (.inr (.inr (va_up (fun _ => none) 0 (some h5))))))), (h5, .inr (9, [v9, v10, v11, v12]))]) (va_runS (As := [.int 0, .int 0]) (rest := [.ref h1, .ref h2]) ⟨hx, hb, hml, hown, hts⟩ (c_X8_pair_0 l hl0 D ad H.size) (va_cwS 2 hts gX8_pageIn_X8_pair rfl rfl rfl (by decide +kernel) ⟨Nat.le_of_ble_eq_true rfl, Nat.le_of_ble_eq_true rfl⟩) ⟨PC_.blind, PC_.pre hF hK hP hD hS hA [] [] rfl (by decide) rfl⟩ rfl rfl hl.1 rfl (lv_room (Nat.le_of_ble_eq_true rfl)) dX8_pageIn_10 ⟨Nat.le_of_ble_eq_true rfl, Nat.le_of_ble_eq_true rfl⟩) hK hP hD hS hA [] [0, 1, 2, 3, 4, 5] [0, 1] rfl rfl (by decide) (by decide) rfl (fun qa_1 ka_1 ia_1 H locs hpo hP hD hK hS => ?_)
  have hP : va_P D vwCl [(h0, .inr (11, [.ref h2, v0, v1, .ref h1, v2, v3, v4, v5, v6, v7])), (h1, .inl (k1, 36, .inl (fun _ => 0))), (h2, .inr (5, [.ref h3, .ref h5])), (h3, .inr (4, [v8, .ref h4, .int 1])), (h4, .inl (k4, 10, .inr (.inr (.inr (.inr (va_up (fun _ => none) 0 (some h5))))))), (h5, .inr (9, [v9, v10, v11, v12]))] H := hP
  have hD : va_D A [(h0, .inr (11, [.ref h2, v0, v1, .ref h1, v2, v3, v4, v5, v6, v7])), (h1, .inl (k1, 36, .inl (fun _ => 0))), (h2, .inr (5, [.ref h3, .ref h5])), (h3, .inr (4, [v8, .ref h4, .int 1])), (h4, .inl (k4, 10, .inr (.inr (.inr (.inr (va_up (fun _ => none) 0 (some h5))))))), (h5, .inr (9, [v9, v10, v11, v12]))] := hD
  have hK : va_K D vwCl [(k1, .int), (k4, .object "java/lang/Object")] s := hK
  refine W.eq (g2 := F0 m 13 ls [.int 0, .ref h1, .ref h2]) rfl ?_
  refine va_iald hx hb hK hP 1 0 rfl rfl (vin_ (by decide +kernel)) dX8_pageIn_13 ?_
  refine kt_ (v := 0) (by decide +kernel) ?_
  refine kc_ (wc := [(h2, .inr (5, [.ref h3, .ref h5])), (h3, .inr (4, [v8, .ref h4, .int 1])), (h4, .inl (k4, 10, .inr (.inr (.inr (.inr (va_up (fun _ => none) 0 (some h5))))))), (h5, .inr (9, [v9, v10, v11, v12]))]) (wr := [(h0, .inr (11, [.ref h2, v0, v1, .ref h1, v2, v3, v4, v5, v6, v7])), (h1, .inl (k1, 36, .inl (fun _ => 0)))]) (va_runV (As := [.int 0]) (rest := []) ⟨hx, hb, hml, hown, hts⟩ (c_X1_numbered_0 l hl0 D ad H.size h2 h3 h4 h5 k4 (v8) (v9) (v10) (v11) (v12)) (cwV 1 hts gX8_pageIn_X1_numbered rfl rfl rfl (by decide +kernel) ⟨Nat.le_of_ble_eq_true rfl, Nat.le_of_ble_eq_true rfl⟩) ⟨PC_.blind, va_recv hK hP (ci := 5) (q0 := 2) rfl rfl, PC_.pre hF hK hP hD hS hA [2, 3, 4, 5] [1] rfl (by decide) rfl⟩ rfl rfl hl.1 rfl (lv_room (Nat.le_of_ble_eq_true rfl)) dX8_pageIn_14 ⟨Nat.le_of_ble_eq_true rfl, Nat.le_of_ble_eq_true rfl⟩) hK hP hD hS hA [2, 3, 4, 5] [0, 1] [0] rfl rfl (by decide) (by decide) rfl (fun qa_2 ka_2 ia_2 H locs hpo hP hD hK hS => ?_)
  have hP : va_P D vwCl [(h0, .inr (11, [.ref h2, v0, v1, .ref h1, v2, v3, v4, v5, v6, v7])), (h1, .inl (k1, 36, .inl (fun _ => 0))), (h2, .inr (5, [.ref h3, .ref h5])), (h3, .inr (4, [v8, .ref h4, .int 1])), (h4, .inl (k4, 10, .inr (.inr (.inr (.inr (va_up (fun _ => none) 0 (some h5))))))), (h5, .inr (9, [v9, v10, v11, v12]))] H := hP
  have hD : va_D A [(h0, .inr (11, [.ref h2, v0, v1, .ref h1, v2, v3, v4, v5, v6, v7])), (h1, .inl (k1, 36, .inl (fun _ => 0))), (h2, .inr (5, [.ref h3, .ref h5])), (h3, .inr (4, [v8, .ref h4, .int 1])), (h4, .inl (k4, 10, .inr (.inr (.inr (.inr (va_up (fun _ => none) 0 (some h5))))))), (h5, .inr (9, [v9, v10, v11, v12]))] := hD
  have hK : va_K D vwCl [(k1, .int), (k4, .object "java/lang/Object")] s := hK
  refine W.eq (g2 := F0 m 17 ls [.ref h5]) rfl ?_
  refine W.widen (k := 0) (n := 0) (Nat.le_of_ble_eq_true rfl) (Nat.le_of_ble_eq_true rfl) ?_
  exact W.aret (v := .ref h5) hx hb hr (Or.inl ⟨_, rfl⟩) (Or.inr ⟨_, rfl⟩) (QG_.mk (fun _ => 0) (fun _ => 0) (fun _ => 0) [0, 1, 2, 3, 4, 5] [0, 1] hP hD hK hS rfl trivial rfl (by decide) rfl) hS.2.2 dX8_pageIn_17
set_option maxHeartbeats 4000000 in
set_option maxRecDepth 100000 in
theorem c_X6_init_1 (l : Launch) (hl0 : l.stackTraces = false) (D : va_G) (ad : Nat → Nat) (sz : Nat) (h0 : Nat) (r0 : Nat) (v0 : Value) (v1 : Value) (v2 : Value) (v3 : Value) : Met l yX6_init wsX6_init ({ frames := 1, cells := 0, slots := 0, locals := 40 }) (PC_ D ad [(h0, .inr (9, [v0, v1, v2, v3]))] [] sz [.ref h0, .int 0, .int 1, .int 0, .ref r0]) (QG_ D (fun q i => none) (fun q i => True) (fun q k i => [(h0, .inr (9, [.int 0, .int 1, .int 0, .ref r0]))]) (fun q k i => []) (va_A [(h0, .inr (9, [v0, v1, v2, v3]))] sz)) 0 0 (va_A [(h0, .inr (9, [v0, v1, v2, v3]))] sz) := by
  refine Met.ofW (cc := cX6_init) (maxL := 5) (ret := none) (by decide) rfl ?_
  intro p e s m args below meth c s₁ B hml hv
  obtain ⟨rfl, hsz, hP, hK, hD0, hF⟩ := hv
  have hx := B.exec
  have hb := B.bytes
  have hr := B.returns
  have hts := atoms_spec (ws := wsX6_init) B.pre
  have hown : s.vm.findClass RX6 = some m.cls := findClass_of_methodNamed B.named
  have hlocks := B.notSynchronized
  have hin : meth.name = "<init>" := (name_of_methodNamed B.named B.method).1
  subst hsz
  have hD := hD0.self (sz := s.heap.size)
  generalize hAe : va_A [(h0, .inr (9, [v0, v1, v2, v3]))] s.heap.size = A at hD hF ⊢
  have hA : ∀ q : Nat, s.heap.size ≤ q → A q := fun q h => by rw [← hAe]; exact Or.inr h
  obtain ⟨H, hHe⟩ : ∃ H : Heap, H = s.heap := ⟨_, rfl⟩
  have hS : va_S A s.heap H [] := by rw [hHe]; exact va_S.rf
  have hP : va_P D vwCl [(h0, .inr (9, [v0, v1, v2, v3]))] H := by rw [hHe]; exact hP
  rw [← hHe]
  have hi_X6 : ∀ w ∈ wsX60, w ∈ wsX6_init := by decide +kernel
  have hl := lv_entry [.ref h0, .int 0, .int 1, .int 0, .ref r0] (n := 5) (Nat.le_of_ble_eq_true rfl)
  rw [lg_entry_eq]
  generalize (lg_sl [.ref h0, .int 0, .int 1, .int 0, .ref r0] ++ List.replicate (5 - (lg_sl [.ref h0, .int 0, .int 1, .int 0, .ref r0]).length) Slot.unset).toArray = ls at hl ⊢
  have hl : lv_has ls 5 [(0, .ref h0), (1, .int 0), (2, .int 1), (3, .int 0), (4, .ref r0)] := hl
  refine lv_aload_n hx hb dX6_init_0 rfl (lv_at hl 0 rfl) ?_
  refine W.objInit hx hb hown (hts (.methodLink RX6 1 objectInit) (List.mem_of_getElem? (i := 1) (by decide +kernel))) (hts (.instanceMethod objectInit) (List.mem_of_getElem? (i := 2) (by decide +kernel))) (hts (.code objectInit ⟨#[0xb1]⟩ 1 none) (List.mem_of_getElem? (i := 3) (by decide +kernel))) rfl (by rw [hml]; exact hl.1) rfl dX6_init_1 (Nat.le_of_ble_eq_true rfl) (Nat.le_of_ble_eq_true rfl) ?_
  refine W.eq (g2 := F0 m 4 ls []) rfl ?_
  refine lv_aload_n hx hb dX6_init_4 rfl (lv_at hl 0 rfl) ?_
  refine lv_iload_n hx hb dX6_init_5 rfl (lv_at hl 1 rfl) ?_
  refine va_putF (D := D) (ci := 9) (v := .int 0) (ty := .int) (own := RX6) (C := RX6) (T := TX6) (N := 4) hx hb hts hi_X6 tyX6 tyX6_ok nmX6 hown hK hP hD hS 0 rfl rfl 0 (by decide) (hts (.fieldLink RX6 7 "CanalMaps$Page" "origin" "I") (List.mem_of_getElem? (i := 4) (by decide +kernel))) (fun _ h9 => h9) rfl hin rfl (by decide +kernel) rfl rfl (Nat.le_of_ble_eq_true rfl) dX6_init_6 (fun H locs hP hD hS => ?_)
  have hP : va_P D vwCl [(h0, .inr (9, [.int 0, v1, v2, v3]))] H := hP
  have hD : va_D A [(h0, .inr (9, [.int 0, v1, v2, v3]))] := hD
  refine lv_aload_n hx hb dX6_init_9 rfl (lv_at hl 0 rfl) ?_
  refine lv_iload_n hx hb dX6_init_10 rfl (lv_at hl 2 rfl) ?_
  refine va_putF (D := D) (ci := 9) (v := .int 1) (ty := .int) (own := RX6) (C := RX6) (T := TX6) (N := 4) hx hb hts hi_X6 tyX6 tyX6_ok nmX6 hown hK hP hD hS 0 rfl rfl 1 (by decide) (hts (.fieldLink RX6 13 "CanalMaps$Page" "serial" "I") (List.mem_of_getElem? (i := 5) (by decide +kernel))) (fun _ h9 => h9) rfl hin rfl (by decide +kernel) rfl rfl (Nat.le_of_ble_eq_true rfl) dX6_init_11 (fun H locs hP hD hS => ?_)
  have hP : va_P D vwCl [(h0, .inr (9, [.int 0, .int 1, v2, v3]))] H := hP
  have hD : va_D A [(h0, .inr (9, [.int 0, .int 1, v2, v3]))] := hD
  refine lv_aload_n hx hb dX6_init_14 rfl (lv_at hl 0 rfl) ?_
  refine lv_iload_n hx hb dX6_init_15 rfl (lv_at hl 3 rfl) ?_
  refine va_putF (D := D) (ci := 9) (v := .int 0) (ty := .int) (own := RX6) (C := RX6) (T := TX6) (N := 4) hx hb hts hi_X6 tyX6 tyX6_ok nmX6 hown hK hP hD hS 0 rfl rfl 2 (by decide) (hts (.fieldLink RX6 16 "CanalMaps$Page" "madeAt" "I") (List.mem_of_getElem? (i := 6) (by decide +kernel))) (fun _ h9 => h9) rfl hin rfl (by decide +kernel) rfl rfl (Nat.le_of_ble_eq_true rfl) dX6_init_16 (fun H locs hP hD hS => ?_)
  have hP : va_P D vwCl [(h0, .inr (9, [.int 0, .int 1, .int 0, v3]))] H := hP
  have hD : va_D A [(h0, .inr (9, [.int 0, .int 1, .int 0, v3]))] := hD
  refine lv_aload_n hx hb dX6_init_19 rfl (lv_at hl 0 rfl) ?_
  refine lv_aload hx hb dX6_init_20 (lv_at hl 4 rfl) ?_
  refine va_putF (D := D) (ci := 9) (v := .ref r0) (ty := tyX6 3) (own := RX6) (C := RX6) (T := TX6) (N := 4) hx hb hts hi_X6 tyX6 tyX6_ok nmX6 hown hK hP hD hS 0 rfl rfl 3 (by decide) (hts (.fieldLink RX6 19 "CanalMaps$Page" "costs" "[I") (List.mem_of_getElem? (i := 7) (by decide +kernel))) (fun _ h9 => h9) rfl hin rfl (by decide +kernel) rfl rfl (Nat.le_of_ble_eq_true rfl) dX6_init_22 (fun H locs hP hD hS => ?_)
  have hP : va_P D vwCl [(h0, .inr (9, [.int 0, .int 1, .int 0, .ref r0]))] H := hP
  have hD : va_D A [(h0, .inr (9, [.int 0, .int 1, .int 0, .ref r0]))] := hD
  refine W.widen (k := 0) (n := 0) (Nat.le_of_ble_eq_true rfl) (Nat.le_of_ble_eq_true rfl) ?_
  exact W.vret hx hb hr (QG_.mk (fun _ => 0) (fun _ => 0) (fun _ => 0) [0] [] hP hD hK hS rfl trivial rfl (by decide) rfl) hS.2.2 dX6_init_25
set_option maxHeartbeats 4000000 in
set_option maxRecDepth 100000 in
theorem c_Jx4a65c_add_72be8_1 (l : Launch) (hl0 : l.stackTraces = false) (D : va_G) (ad : Nat → Nat) (sz : Nat) (h0 : Nat) (h1 : Nat) (h2 : Nat) (k0 : ClassId) (f0 : Nat → Option Nat) (v0 : Value) (v1 : Value) (v2 : Value) (v3 : Value) (v4 : Value) (v5 : Value) : Met l yJx4a65c_add_72be8 wsJx4a65c_add_72be8 ({ frames := 0, cells := 0, slots := 0, locals := 0 }) (PC_ D ad [(h0, .inl (k0, 10, .inr (.inr (.inr (.inr f0))))), (h1, .inr (9, [v0, v1, v2, v3])), (h2, .inr (4, [v4, .ref h0, v5]))] [(k0, .object "java/lang/Object")] sz [.ref h2, .ref h1, .ref h0, .int 1]) (QG_ D (fun q i => none) (fun q i => True) (fun q k i => [(h0, .inl (k0, 10, .inr (.inr (.inr (.inr (va_up f0 1 (some h1))))))), (h1, .inr (9, [v0, v1, v2, v3])), (h2, .inr (4, [v4, .ref h0, .int 2]))]) (fun q k i => [(k0, .object "java/lang/Object")]) (va_A [(h0, .inl (k0, 10, .inr (.inr (.inr (.inr f0))))), (h1, .inr (9, [v0, v1, v2, v3])), (h2, .inr (4, [v4, .ref h0, v5]))] sz)) 0 0 (va_A [(h0, .inl (k0, 10, .inr (.inr (.inr (.inr f0))))), (h1, .inr (9, [v0, v1, v2, v3])), (h2, .inr (4, [v4, .ref h0, v5]))] sz) := by
  refine Met.ofW (cc := cJx4a65c_add_72be8) (maxL := 4) (ret := none) (by decide) rfl ?_
  intro p e s m args below meth c s₁ B hml hv
  obtain ⟨rfl, hsz, hP, hK, hD0, hF⟩ := hv
  have hx := B.exec
  have hb := B.bytes
  have hr := B.returns
  have hts := atoms_spec (ws := wsJx4a65c_add_72be8) B.pre
  have hown : s.vm.findClass RJx4a65c = some m.cls := findClass_of_methodNamed B.named
  have hlocks := B.notSynchronized
  subst hsz
  have hD := hD0.self (sz := s.heap.size)
  generalize hAe : va_A [(h0, .inl (k0, 10, .inr (.inr (.inr (.inr f0))))), (h1, .inr (9, [v0, v1, v2, v3])), (h2, .inr (4, [v4, .ref h0, v5]))] s.heap.size = A at hD hF ⊢
  have hA : ∀ q : Nat, s.heap.size ≤ q → A q := fun q h => by rw [← hAe]; exact Or.inr h
  obtain ⟨H, hHe⟩ : ∃ H : Heap, H = s.heap := ⟨_, rfl⟩
  have hS : va_S A s.heap H [] := by rw [hHe]; exact va_S.rf
  have hP : va_P D vwCl [(h0, .inl (k0, 10, .inr (.inr (.inr (.inr f0))))), (h1, .inr (9, [v0, v1, v2, v3])), (h2, .inr (4, [v4, .ref h0, v5]))] H := by rw [hHe]; exact hP
  rw [← hHe]
  have hi_Jx4a65c : ∀ w ∈ wsJx4a65c0, w ∈ wsJx4a65c_add_72be8 := by decide +kernel
  have hl := lv_entry [.ref h2, .ref h1, .ref h0, .int 1] (n := 4) (Nat.le_of_ble_eq_true rfl)
  rw [lg_entry_eq]
  generalize (lg_sl [.ref h2, .ref h1, .ref h0, .int 1] ++ List.replicate (4 - (lg_sl [.ref h2, .ref h1, .ref h0, .int 1]).length) Slot.unset).toArray = ls at hl ⊢
  have hl : lv_has ls 4 [(0, .ref h2), (1, .ref h1), (2, .ref h0), (3, .int 1)] := hl
  refine lv_iload_n hx hb dJx4a65c_add_72be8_0 rfl (lv_at hl 3 rfl) ?_
  refine lv_aload_n hx hb dJx4a65c_add_72be8_1 rfl (lv_at hl 2 rfl) ?_
  refine va_alen (v := 10) hx hb hK hP 0 0 rfl rfl (by decide +kernel) dJx4a65c_add_72be8_2 ?_
  refine lv_icmp_ne (tgt := 11) hx hb dJx4a65c_add_72be8_3 (by decide) (fun _ => ?_) (fun c9 => absurd c9 (by decide +kernel))
  refine lv_aload_n hx hb dJx4a65c_add_72be8_11 rfl (lv_at hl 2 rfl) ?_
  refine lv_iload_n hx hb dJx4a65c_add_72be8_12 rfl (lv_at hl 3 rfl) ?_
  refine lv_aload_n hx hb dJx4a65c_add_72be8_13 rfl (lv_at hl 1 rfl) ?_
  refine ka_astqM (E := "java/lang/Object") (g := (va_up f0 1 (some h1))) hx hb hK hP hD hS 0 0 rfl rfl (va_rAny hK hP (q0 := 1) (ci := 9) rfl rfl (fxc_ hF "CanalMaps$Page" "java/lang/Object")) (vin_ (by decide +kernel)) (congrArg (fun z9 => va_up _ z9 _) (by decide +kernel)) dJx4a65c_add_72be8_14 (fun H locs hP hD hS => ?_)
  have hP : va_P D vwCl [(h0, .inl (k0, 10, .inr (.inr (.inr (.inr (va_up f0 1 (some h1))))))), (h1, .inr (9, [v0, v1, v2, v3])), (h2, .inr (4, [v4, .ref h0, v5]))] H := hP
  have hD : va_D A [(h0, .inl (k0, 10, .inr (.inr (.inr (.inr (va_up f0 1 (some h1))))))), (h1, .inr (9, [v0, v1, v2, v3])), (h2, .inr (4, [v4, .ref h0, v5]))] := hD
  refine lv_aload_n hx hb dJx4a65c_add_72be8_15 rfl (lv_at hl 0 rfl) ?_
  refine lv_iload_n hx hb dJx4a65c_add_72be8_16 rfl (lv_at hl 3 rfl) ?_
  refine lv_iconst (v := 1) hx hb dJx4a65c_add_72be8_17 (by decide) ?_
  refine lv_iadd hx hb dJx4a65c_add_72be8_18 ?_
  refine kt_ (v := 2) (by decide +kernel) ?_
  refine va_put (D := D) (ci := 4) (v := .int 2) (ty := .int) (own := RJx4a65c) (C := RJx4a65c) (T := TJx4a65c) (N := 3) hx hb hts hi_Jx4a65c tyJx4a65c tyJx4a65c_ok nmJx4a65c hown hK hP hD hS 2 rfl rfl 2 (by decide) (hts (.fieldLink RJx4a65c 48 "java/util/ArrayList" "size" "I") (List.mem_of_getElem? (i := 1) (by decide +kernel))) (fun _ h9 => h9) rfl (by decide +kernel) rfl rfl (Nat.le_of_ble_eq_true rfl) dJx4a65c_add_72be8_19 (fun H locs hP hD hS => ?_)
  have hP : va_P D vwCl [(h0, .inl (k0, 10, .inr (.inr (.inr (.inr (va_up f0 1 (some h1))))))), (h1, .inr (9, [v0, v1, v2, v3])), (h2, .inr (4, [v4, .ref h0, .int 2]))] H := hP
  have hD : va_D A [(h0, .inl (k0, 10, .inr (.inr (.inr (.inr (va_up f0 1 (some h1))))))), (h1, .inr (9, [v0, v1, v2, v3])), (h2, .inr (4, [v4, .ref h0, .int 2]))] := hD
  refine W.widen (k := 0) (n := 0) (Nat.le_of_ble_eq_true rfl) (Nat.le_of_ble_eq_true rfl) ?_
  exact W.vret hx hb hr (QG_.mk (fun _ => 0) (fun _ => 0) (fun _ => 0) [0, 1, 2] [0] hP hD hK hS rfl trivial rfl (by decide) rfl) hS.2.2 dJx4a65c_add_72be8_22
set_option maxHeartbeats 4000000 in
set_option maxRecDepth 100000 in
theorem c_Jx4a65c_add_9ea2d_1 (l : Launch) (hl0 : l.stackTraces = false) (D : va_G) (ad : Nat → Nat) (sz : Nat) (h0 : Nat) (h1 : Nat) (h2 : Nat) (k1 : ClassId) (f0 : Nat → Option Nat) (v0 : Value) (v1 : Value) (v2 : Value) (v3 : Value) : Met l yJx4a65c_add_9ea2d wsJx4a65c_add_9ea2d ({ frames := 1, cells := 0, slots := 0, locals := 25 }) (PC_ D ad [(h0, .inr (4, [.int 1, .ref h1, .int 1])), (h1, .inl (k1, 10, .inr (.inr (.inr (.inr f0))))), (h2, .inr (9, [v0, v1, v2, v3]))] [(k1, .object "java/lang/Object")] sz [.ref h0, .ref h2]) (QG_ D (fun q i => some (.int 1)) (fun q i => True) (fun q k i => [(h0, .inr (4, [.int 2, .ref h1, .int 2])), (h1, .inl (k1, 10, .inr (.inr (.inr (.inr (va_up f0 1 (some h2))))))), (h2, .inr (9, [v0, v1, v2, v3]))]) (fun q k i => [(k1, .object "java/lang/Object")]) (va_A [(h0, .inr (4, [.int 1, .ref h1, .int 1])), (h1, .inl (k1, 10, .inr (.inr (.inr (.inr f0))))), (h2, .inr (9, [v0, v1, v2, v3]))] sz)) 0 0 (va_A [(h0, .inr (4, [.int 1, .ref h1, .int 1])), (h1, .inl (k1, 10, .inr (.inr (.inr (.inr f0))))), (h2, .inr (9, [v0, v1, v2, v3]))] sz) := by
  refine Met.ofW (cc := cJx4a65c_add_9ea2d) (maxL := 2) (ret := (some .boolean)) (by decide) rfl ?_
  intro p e s m args below meth c s₁ B hml hv
  obtain ⟨rfl, hsz, hP, hK, hD0, hF⟩ := hv
  have hx := B.exec
  have hb := B.bytes
  have hr := B.returns
  have hts := atoms_spec (ws := wsJx4a65c_add_9ea2d) B.pre
  have hown : s.vm.findClass RJx4a65c = some m.cls := findClass_of_methodNamed B.named
  have hlocks := B.notSynchronized
  subst hsz
  have hD := hD0.self (sz := s.heap.size)
  generalize hAe : va_A [(h0, .inr (4, [.int 1, .ref h1, .int 1])), (h1, .inl (k1, 10, .inr (.inr (.inr (.inr f0))))), (h2, .inr (9, [v0, v1, v2, v3]))] s.heap.size = A at hD hF ⊢
  have hA : ∀ q : Nat, s.heap.size ≤ q → A q := fun q h => by rw [← hAe]; exact Or.inr h
  obtain ⟨H, hHe⟩ : ∃ H : Heap, H = s.heap := ⟨_, rfl⟩
  have hS : va_S A s.heap H [] := by rw [hHe]; exact va_S.rf
  have hP : va_P D vwCl [(h0, .inr (4, [.int 1, .ref h1, .int 1])), (h1, .inl (k1, 10, .inr (.inr (.inr (.inr f0))))), (h2, .inr (9, [v0, v1, v2, v3]))] H := by rw [hHe]; exact hP
  rw [← hHe]
  have hi_Jx4a65c : ∀ w ∈ wsJx4a65c0, w ∈ wsJx4a65c_add_9ea2d := by decide +kernel
  have hi_X6 : ∀ w ∈ wsX60, w ∈ wsJx4a65c_add_9ea2d := by decide +kernel
  have hl := lv_entry [.ref h0, .ref h2] (n := 2) (Nat.le_of_ble_eq_true rfl)
  rw [lg_entry_eq]
  generalize (lg_sl [.ref h0, .ref h2] ++ List.replicate (2 - (lg_sl [.ref h0, .ref h2]).length) Slot.unset).toArray = ls at hl ⊢
  have hl : lv_has ls 2 [(0, .ref h0), (1, .ref h2)] := hl
  refine lv_aload_n hx hb dJx4a65c_add_9ea2d_0 rfl (lv_at hl 0 rfl) ?_
  refine lv_dup hx hb dJx4a65c_add_9ea2d_1 rfl ?_
  refine va_get (D := D) (ci := 4) (v := .int 1) (own := RJx4a65c) (C := RJx4a65c) (T := TJx4a65c) (N := 3) hx hb hts hi_Jx4a65c hown hK hP 0 rfl rfl 0 (by decide) (hts (.fieldLink RJx4a65c 63 "java/util/ArrayList" "modCount" "I") (List.mem_of_getElem? (i := 1) (by decide +kernel))) (u_same (hts (.sameField "java/util/ArrayList" "java/util/AbstractList" "modCount" "I") (List.mem_of_getElem? (i := 2) (by decide +kernel)))) rfl dJx4a65c_add_9ea2d_2 ?_
  refine lv_iconst (v := 1) hx hb dJx4a65c_add_9ea2d_5 (by decide) ?_
  refine lv_iadd hx hb dJx4a65c_add_9ea2d_6 ?_
  refine kt_ (v := 2) (by decide +kernel) ?_
  refine va_put (D := D) (ci := 4) (v := .int 2) (ty := .int) (own := RJx4a65c) (C := RJx4a65c) (T := TJx4a65c) (N := 3) hx hb hts hi_Jx4a65c tyJx4a65c tyJx4a65c_ok nmJx4a65c hown hK hP hD hS 0 rfl rfl 0 (by decide) (hts (.fieldLink RJx4a65c 63 "java/util/ArrayList" "modCount" "I") (List.mem_of_getElem? (i := 1) (by decide +kernel))) (u_same (hts (.sameField "java/util/ArrayList" "java/util/AbstractList" "modCount" "I") (List.mem_of_getElem? (i := 2) (by decide +kernel)))) rfl (by decide +kernel) rfl rfl (Nat.le_of_ble_eq_true rfl) dJx4a65c_add_9ea2d_7 (fun H locs hP hD hS => ?_)
  have hP : va_P D vwCl [(h0, .inr (4, [.int 2, .ref h1, .int 1])), (h1, .inl (k1, 10, .inr (.inr (.inr (.inr f0))))), (h2, .inr (9, [v0, v1, v2, v3]))] H := hP
  have hD : va_D A [(h0, .inr (4, [.int 2, .ref h1, .int 1])), (h1, .inl (k1, 10, .inr (.inr (.inr (.inr f0))))), (h2, .inr (9, [v0, v1, v2, v3]))] := hD
  refine lv_aload_n hx hb dJx4a65c_add_9ea2d_10 rfl (lv_at hl 0 rfl) ?_
  refine lv_aload_n hx hb dJx4a65c_add_9ea2d_11 rfl (lv_at hl 1 rfl) ?_
  refine lv_aload_n hx hb dJx4a65c_add_9ea2d_12 rfl (lv_at hl 0 rfl) ?_
  refine va_get (D := D) (ci := 4) (v := .ref h1) (own := RJx4a65c) (C := RJx4a65c) (T := TJx4a65c) (N := 3) hx hb hts hi_Jx4a65c hown hK hP 0 rfl rfl 1 (by decide) (hts (.fieldLink RJx4a65c 9 "java/util/ArrayList" "elementData" "[Ljava/lang/Object;") (List.mem_of_getElem? (i := 3) (by decide +kernel))) (fun _ h9 => h9) rfl dJx4a65c_add_9ea2d_13 ?_
  refine lv_aload_n hx hb dJx4a65c_add_9ea2d_16 rfl (lv_at hl 0 rfl) ?_
  refine va_get (D := D) (ci := 4) (v := .int 1) (own := RJx4a65c) (C := RJx4a65c) (T := TJx4a65c) (N := 3) hx hb hts hi_Jx4a65c hown hK hP 0 rfl rfl 2 (by decide) (hts (.fieldLink RJx4a65c 48 "java/util/ArrayList" "size" "I") (List.mem_of_getElem? (i := 4) (by decide +kernel))) (fun _ h9 => h9) rfl dJx4a65c_add_9ea2d_17 ?_
  refine kc_ (wc := [(h1, .inl (k1, 10, .inr (.inr (.inr (.inr f0))))), (h2, .inr (9, [v0, v1, v2, v3])), (h0, .inr (4, [.int 2, .ref h1, .int 1]))]) (wr := []) (va_runV (As := [.ref h2, .ref h1, .int 1]) (rest := []) ⟨hx, hb, hml, hown, hts⟩ (c_Jx4a65c_add_72be8_1 l hl0 D ad H.size h1 h2 h0 k1 f0 (v0) (v1) (v2) (v3) (.int 2) (.int 1)) (cwV 3 hts gJx4a65c_add_9ea2d_Jx4a65c_add_72be8 rfl rfl rfl (by decide +kernel) ⟨Nat.le_of_ble_eq_true rfl, Nat.le_of_ble_eq_true rfl⟩) ⟨PC_.blind, va_recv hK hP (ci := 4) (q0 := 0) rfl rfl, PC_.pre hF hK hP hD hS hA [1, 2, 0] [0] rfl (by decide) rfl⟩ rfl rfl hl.1 rfl (lv_room (Nat.le_of_ble_eq_true rfl)) dJx4a65c_add_9ea2d_20 ⟨Nat.le_of_ble_eq_true rfl, Nat.le_of_ble_eq_true rfl⟩) hK hP hD hS hA [1, 2, 0] [] [] rfl rfl (by decide) (by decide) rfl (fun qa_1 ka_1 ia_1 H locs hpo hP hD hK hS => ?_)
  have hP : va_P D vwCl [(h1, .inl (k1, 10, .inr (.inr (.inr (.inr (va_up f0 1 (some h2))))))), (h2, .inr (9, [v0, v1, v2, v3])), (h0, .inr (4, [.int 2, .ref h1, .int 2]))] H := hP
  have hD : va_D A [(h1, .inl (k1, 10, .inr (.inr (.inr (.inr (va_up f0 1 (some h2))))))), (h2, .inr (9, [v0, v1, v2, v3])), (h0, .inr (4, [.int 2, .ref h1, .int 2]))] := hD
  have hK : va_K D vwCl [(k1, .object "java/lang/Object")] s := hK
  refine W.eq (g2 := F0 m 23 ls []) rfl ?_
  refine lv_iconst (v := 1) hx hb dJx4a65c_add_9ea2d_23 (by decide) ?_
  refine W.widen (k := 0) (n := 0) (Nat.le_of_ble_eq_true rfl) (Nat.le_of_ble_eq_true rfl) ?_
  exact W.zret (v := 1) hx hb hr rfl (QG_.mk (fun _ => 0) (fun _ => 0) (fun _ => 0) [2, 0, 1] [0] hP hD hK hS rfl trivial rfl (by decide) rfl) hS.2.2 dJx4a65c_add_9ea2d_24
set_option maxHeartbeats 4000000 in
set_option maxRecDepth 100000 in
theorem c_Jx4a65c_size_8abf5_1 (l : Launch) (hl0 : l.stackTraces = false) (D : va_G) (ad : Nat → Nat) (sz : Nat) (h0 : Nat) (v0 : Value) (v1 : Value) : Met l yJx4a65c_size_8abf5 wsJx4a65c_size_8abf5 ({ frames := 0, cells := 0, slots := 0, locals := 0 }) (PC_ D ad [(h0, .inr (4, [v0, v1, .int 2]))] [] sz [.ref h0]) (QG_ D (fun q i => some (.int 2)) (fun q i => True) (fun q k i => [(h0, .inr (4, [v0, v1, .int 2]))]) (fun q k i => []) (va_A [(h0, .inr (4, [v0, v1, .int 2]))] sz)) 0 0 (va_A [(h0, .inr (4, [v0, v1, .int 2]))] sz) := by
  refine Met.ofW (cc := cJx4a65c_size_8abf5) (maxL := 1) (ret := (some .int)) (by decide) rfl ?_
  intro p e s m args below meth c s₁ B hml hv
  obtain ⟨rfl, hsz, hP, hK, hD0, hF⟩ := hv
  have hx := B.exec
  have hb := B.bytes
  have hr := B.returns
  have hts := atoms_spec (ws := wsJx4a65c_size_8abf5) B.pre
  have hown : s.vm.findClass RJx4a65c = some m.cls := findClass_of_methodNamed B.named
  have hlocks := B.notSynchronized
  subst hsz
  have hD := hD0.self (sz := s.heap.size)
  generalize hAe : va_A [(h0, .inr (4, [v0, v1, .int 2]))] s.heap.size = A at hD hF ⊢
  have hA : ∀ q : Nat, s.heap.size ≤ q → A q := fun q h => by rw [← hAe]; exact Or.inr h
  obtain ⟨H, hHe⟩ : ∃ H : Heap, H = s.heap := ⟨_, rfl⟩
  have hS : va_S A s.heap H [] := by rw [hHe]; exact va_S.rf
  have hP : va_P D vwCl [(h0, .inr (4, [v0, v1, .int 2]))] H := by rw [hHe]; exact hP
  rw [← hHe]
  have hi_Jx4a65c : ∀ w ∈ wsJx4a65c0, w ∈ wsJx4a65c_size_8abf5 := by decide +kernel
  have hl := lv_entry [.ref h0] (n := 1) (Nat.le_of_ble_eq_true rfl)
  rw [lg_entry_eq]
  generalize (lg_sl [.ref h0] ++ List.replicate (1 - (lg_sl [.ref h0]).length) Slot.unset).toArray = ls at hl ⊢
  have hl : lv_has ls 1 [(0, .ref h0)] := hl
  refine lv_aload_n hx hb dJx4a65c_size_8abf5_0 rfl (lv_at hl 0 rfl) ?_
  refine va_get (D := D) (ci := 4) (v := .int 2) (own := RJx4a65c) (C := RJx4a65c) (T := TJx4a65c) (N := 3) hx hb hts hi_Jx4a65c hown hK hP 0 rfl rfl 2 (by decide) (hts (.fieldLink RJx4a65c 48 "java/util/ArrayList" "size" "I") (List.mem_of_getElem? (i := 1) (by decide +kernel))) (fun _ h9 => h9) rfl dJx4a65c_size_8abf5_1 ?_
  refine W.widen (k := 0) (n := 0) (Nat.le_of_ble_eq_true rfl) (Nat.le_of_ble_eq_true rfl) ?_
  exact W.iret (v := 2) hx hb hr (QG_.mk (fun _ => 0) (fun _ => 0) (fun _ => 0) [0] [] hP hD hK hS rfl trivial rfl (by decide) rfl) hS.2.2 dJx4a65c_size_8abf5_4
set_option maxHeartbeats 4000000 in
set_option maxRecDepth 100000 in
theorem c_X1_put_0 (l : Launch) (hl0 : l.stackTraces = false) (D : va_G) (ad : Nat → Nat) (sz : Nat) (h0 : Nat) (h1 : Nat) (h2 : Nat) (h3 : Nat) (k2 : ClassId) (v0 : Value) (f0 : Nat → Option Nat) (v1 : Value) (v2 : Value) (v3 : Value) (v4 : Value) : Met l yX1_put wsX1_put ({ frames := 2, cells := 0, slots := 0, locals := 48 }) (PC_ D ad [(h0, .inr (5, [.ref h1, v0])), (h1, .inr (4, [.int 1, .ref h2, .int 1])), (h2, .inl (k2, 10, .inr (.inr (.inr (.inr f0))))), (h3, .inr (9, [v1, v2, v3, v4]))] [(k2, .object "java/lang/Object")] sz [.ref h0, .ref h3]) (QG_ D (fun q i => some (.int 1)) (fun q i => True) (fun q k i => [(h0, .inr (5, [.ref h1, v0])), (h1, .inr (4, [.int 2, .ref h2, .int 2])), (h2, .inl (k2, 10, .inr (.inr (.inr (.inr (va_up f0 1 (some h3))))))), (h3, .inr (9, [v1, v2, v3, v4]))]) (fun q k i => [(k2, .object "java/lang/Object")]) (va_A [(h0, .inr (5, [.ref h1, v0])), (h1, .inr (4, [.int 1, .ref h2, .int 1])), (h2, .inl (k2, 10, .inr (.inr (.inr (.inr f0))))), (h3, .inr (9, [v1, v2, v3, v4]))] sz)) 0 0 (va_A [(h0, .inr (5, [.ref h1, v0])), (h1, .inr (4, [.int 1, .ref h2, .int 1])), (h2, .inl (k2, 10, .inr (.inr (.inr (.inr f0))))), (h3, .inr (9, [v1, v2, v3, v4]))] sz) := by
  refine Met.ofW (cc := cX1_put) (maxL := 2) (ret := (some .int)) (by decide) rfl ?_
  intro p e s m args below meth c s₁ B hml hv
  obtain ⟨rfl, hsz, hP, hK, hD0, hF⟩ := hv
  have hx := B.exec
  have hb := B.bytes
  have hr := B.returns
  have hts := atoms_spec (ws := wsX1_put) B.pre
  have hown : s.vm.findClass RX1 = some m.cls := findClass_of_methodNamed B.named
  have hlocks := B.notSynchronized
  subst hsz
  have hD := hD0.self (sz := s.heap.size)
  generalize hAe : va_A [(h0, .inr (5, [.ref h1, v0])), (h1, .inr (4, [.int 1, .ref h2, .int 1])), (h2, .inl (k2, 10, .inr (.inr (.inr (.inr f0))))), (h3, .inr (9, [v1, v2, v3, v4]))] s.heap.size = A at hD hF ⊢
  have hA : ∀ q : Nat, s.heap.size ≤ q → A q := fun q h => by rw [← hAe]; exact Or.inr h
  obtain ⟨H, hHe⟩ : ∃ H : Heap, H = s.heap := ⟨_, rfl⟩
  have hS : va_S A s.heap H [] := by rw [hHe]; exact va_S.rf
  have hP : va_P D vwCl [(h0, .inr (5, [.ref h1, v0])), (h1, .inr (4, [.int 1, .ref h2, .int 1])), (h2, .inl (k2, 10, .inr (.inr (.inr (.inr f0))))), (h3, .inr (9, [v1, v2, v3, v4]))] H := by rw [hHe]; exact hP
  rw [← hHe]
  have hi_Jx4a65c : ∀ w ∈ wsJx4a65c0, w ∈ wsX1_put := by decide +kernel
  have hi_X1 : ∀ w ∈ wsX10, w ∈ wsX1_put := by decide +kernel
  have hi_X6 : ∀ w ∈ wsX60, w ∈ wsX1_put := by decide +kernel
  have hl := lv_entry [.ref h0, .ref h3] (n := 2) (Nat.le_of_ble_eq_true rfl)
  rw [lg_entry_eq]
  generalize (lg_sl [.ref h0, .ref h3] ++ List.replicate (2 - (lg_sl [.ref h0, .ref h3]).length) Slot.unset).toArray = ls at hl ⊢
  have hl : lv_has ls 2 [(0, .ref h0), (1, .ref h3)] := hl
  refine lv_aload_n hx hb dX1_put_0 rfl (lv_at hl 0 rfl) ?_
  refine va_get (D := D) (ci := 5) (v := .ref h1) (own := RX1) (C := RX1) (T := TX1) (N := 2) hx hb hts hi_X1 hown hK hP 0 rfl rfl 0 (by decide) (hts (.fieldLink RX1 12 "CanalMaps$Archive" "pages" "Ljava/util/ArrayList;") (List.mem_of_getElem? (i := 1) (by decide +kernel))) (fun _ h9 => h9) rfl dX1_put_1 ?_
  refine kc_ (wc := [(h1, .inr (4, [.int 1, .ref h2, .int 1]))]) (wr := [(h0, .inr (5, [.ref h1, v0])), (h2, .inl (k2, 10, .inr (.inr (.inr (.inr f0))))), (h3, .inr (9, [v1, v2, v3, v4]))]) (va_runV (As := []) (rest := []) ⟨hx, hb, hml, hown, hts⟩ (c_Jx4a65c_size_8abf5_0 l hl0 D ad H.size h1 (.int 1) (.ref h2)) (cwV 0 hts gX1_put_Jx4a65c_size_8abf5 rfl rfl rfl (by decide +kernel) ⟨Nat.le_of_ble_eq_true rfl, Nat.le_of_ble_eq_true rfl⟩) ⟨PC_.blind, va_recv hK hP (ci := 4) (q0 := 1) rfl rfl, PC_.pre hF hK hP hD hS hA [1] [] rfl (by decide) rfl⟩ rfl rfl hl.1 rfl (lv_room (Nat.le_of_ble_eq_true rfl)) dX1_put_4 ⟨Nat.le_of_ble_eq_true rfl, Nat.le_of_ble_eq_true rfl⟩) hK hP hD hS hA [1] [0, 2, 3] [0] rfl rfl (by decide) (by decide) rfl (fun qa_1 ka_1 ia_1 H locs hpo hP hD hK hS => ?_)
  have hP : va_P D vwCl [(h0, .inr (5, [.ref h1, v0])), (h2, .inl (k2, 10, .inr (.inr (.inr (.inr f0))))), (h3, .inr (9, [v1, v2, v3, v4])), (h1, .inr (4, [.int 1, .ref h2, .int 1]))] H := hP
  have hD : va_D A [(h0, .inr (5, [.ref h1, v0])), (h2, .inl (k2, 10, .inr (.inr (.inr (.inr f0))))), (h3, .inr (9, [v1, v2, v3, v4])), (h1, .inr (4, [.int 1, .ref h2, .int 1]))] := hD
  have hK : va_K D vwCl [(k2, .object "java/lang/Object")] s := hK
  refine W.eq (g2 := F0 m 7 ls [.int 1]) rfl ?_
  refine lv_ldc (own := RX1) hx hb hown (hts (.constant RX1 35 (1000000)) (List.mem_of_getElem? (i := 2) (by decide +kernel))) dX1_put_7 ?_
  refine lv_icmp_lt (tgt := 14) hx hb dX1_put_9 (by decide) (fun _ => ?_) (fun c9 => absurd (by decide +kernel) c9)
  refine lv_aload_n hx hb dX1_put_14 rfl (lv_at hl 0 rfl) ?_
  refine va_get (D := D) (ci := 5) (v := .ref h1) (own := RX1) (C := RX1) (T := TX1) (N := 2) hx hb hts hi_X1 hown hK hP 0 rfl rfl 0 (by decide) (hts (.fieldLink RX1 12 "CanalMaps$Archive" "pages" "Ljava/util/ArrayList;") (List.mem_of_getElem? (i := 1) (by decide +kernel))) (fun _ h9 => h9) rfl dX1_put_15 ?_
  refine lv_aload_n hx hb dX1_put_18 rfl (lv_at hl 1 rfl) ?_
  refine kc_ (wc := [(h1, .inr (4, [.int 1, .ref h2, .int 1])), (h2, .inl (k2, 10, .inr (.inr (.inr (.inr f0))))), (h3, .inr (9, [v1, v2, v3, v4]))]) (wr := [(h0, .inr (5, [.ref h1, v0]))]) (va_runV (As := [.ref h3]) (rest := []) ⟨hx, hb, hml, hown, hts⟩ (c_Jx4a65c_add_9ea2d_1 l hl0 D ad H.size h1 h2 h3 k2 f0 (v1) (v2) (v3) (v4)) (cwV 1 hts gX1_put_Jx4a65c_add_9ea2d rfl rfl rfl (by decide +kernel) ⟨Nat.le_of_ble_eq_true rfl, Nat.le_of_ble_eq_true rfl⟩) ⟨PC_.blind, va_recv hK hP (ci := 4) (q0 := 3) rfl rfl, PC_.pre hF hK hP hD hS hA [3, 1, 2] [0] rfl (by decide) rfl⟩ rfl rfl hl.1 rfl (lv_room (Nat.le_of_ble_eq_true rfl)) dX1_put_19 ⟨Nat.le_of_ble_eq_true rfl, Nat.le_of_ble_eq_true rfl⟩) hK hP hD hS hA [3, 1, 2] [0] [] rfl rfl (by decide) (by decide) rfl (fun qa_2 ka_2 ia_2 H locs hpo hP hD hK hS => ?_)
  have hP : va_P D vwCl [(h0, .inr (5, [.ref h1, v0])), (h1, .inr (4, [.int 2, .ref h2, .int 2])), (h2, .inl (k2, 10, .inr (.inr (.inr (.inr (va_up f0 1 (some h3))))))), (h3, .inr (9, [v1, v2, v3, v4]))] H := hP
  have hD : va_D A [(h0, .inr (5, [.ref h1, v0])), (h1, .inr (4, [.int 2, .ref h2, .int 2])), (h2, .inl (k2, 10, .inr (.inr (.inr (.inr (va_up f0 1 (some h3))))))), (h3, .inr (9, [v1, v2, v3, v4]))] := hD
  have hK : va_K D vwCl [(k2, .object "java/lang/Object")] s := hK
  refine W.eq (g2 := F0 m 22 ls [.int 1]) rfl ?_
  refine lv_pop hx hb dX1_put_22 rfl ?_
  refine lv_aload_n hx hb dX1_put_23 rfl (lv_at hl 0 rfl) ?_
  refine va_get (D := D) (ci := 5) (v := .ref h1) (own := RX1) (C := RX1) (T := TX1) (N := 2) hx hb hts hi_X1 hown hK hP 0 rfl rfl 0 (by decide) (hts (.fieldLink RX1 12 "CanalMaps$Archive" "pages" "Ljava/util/ArrayList;") (List.mem_of_getElem? (i := 1) (by decide +kernel))) (fun _ h9 => h9) rfl dX1_put_24 ?_
  refine kc_ (wc := [(h1, .inr (4, [.int 2, .ref h2, .int 2]))]) (wr := [(h0, .inr (5, [.ref h1, v0])), (h2, .inl (k2, 10, .inr (.inr (.inr (.inr (va_up f0 1 (some h3))))))), (h3, .inr (9, [v1, v2, v3, v4]))]) (va_runV (As := []) (rest := []) ⟨hx, hb, hml, hown, hts⟩ (c_Jx4a65c_size_8abf5_1 l hl0 D ad H.size h1 (.int 2) (.ref h2)) (cwV 0 hts gX1_put_Jx4a65c_size_8abf5 rfl rfl rfl (by decide +kernel) ⟨Nat.le_of_ble_eq_true rfl, Nat.le_of_ble_eq_true rfl⟩) ⟨PC_.blind, va_recv hK hP (ci := 4) (q0 := 1) rfl rfl, PC_.pre hF hK hP hD hS hA [1] [] rfl (by decide) rfl⟩ rfl rfl hl.1 rfl (lv_room (Nat.le_of_ble_eq_true rfl)) dX1_put_27 ⟨Nat.le_of_ble_eq_true rfl, Nat.le_of_ble_eq_true rfl⟩) hK hP hD hS hA [1] [0, 2, 3] [0] rfl rfl (by decide) (by decide) rfl (fun qa_3 ka_3 ia_3 H locs hpo hP hD hK hS => ?_)
  have hP : va_P D vwCl [(h0, .inr (5, [.ref h1, v0])), (h2, .inl (k2, 10, .inr (.inr (.inr (.inr (va_up f0 1 (some h3))))))), (h3, .inr (9, [v1, v2, v3, v4])), (h1, .inr (4, [.int 2, .ref h2, .int 2]))] H := hP
  have hD : va_D A [(h0, .inr (5, [.ref h1, v0])), (h2, .inl (k2, 10, .inr (.inr (.inr (.inr (va_up f0 1 (some h3))))))), (h3, .inr (9, [v1, v2, v3, v4])), (h1, .inr (4, [.int 2, .ref h2, .int 2]))] := hD
  have hK : va_K D vwCl [(k2, .object "java/lang/Object")] s := hK
  refine W.eq (g2 := F0 m 30 ls [.int 2]) rfl ?_
  refine lv_iconst (v := 1) hx hb dX1_put_30 (by decide) ?_
  refine lv_isub hx hb dX1_put_31 ?_
  refine kt_ (v := 1) (by decide +kernel) ?_
  refine W.widen (k := 0) (n := 0) (Nat.le_of_ble_eq_true rfl) (Nat.le_of_ble_eq_true rfl) ?_
  exact W.iret (v := 1) hx hb hr (QG_.mk (fun _ => 0) (fun _ => 0) (fun _ => 0) [0, 3, 1, 2] [0] hP hD hK hS rfl trivial rfl (by decide) rfl) hS.2.2 dX1_put_32
set_option maxHeartbeats 4000000 in
set_option maxRecDepth 100000 in
theorem c_X8_sendToNeighbours_0 (l : Launch) (hl0 : l.stackTraces = false) (D : va_G) (ad : Nat → Nat) (sz : Nat) (h0 : Nat) (h1 : Nat) (k1 : ClassId) (v0 : Value) (v1 : Value) (v2 : Value) (v3 : Value) (v4 : Value) (v5 : Value) (v6 : Value) (v7 : Value) : Met l yX8_sendToNeighbours wsX8_sendToNeighbours ({ frames := 2, cells := 0, slots := 0, locals := 48 }) (PC_ D ad [(h0, .inr (11, [v0, v1, .ref h1, v2, v3, .int 1, v4, v5, v6, v7])), (h1, .inl (k1, 36, .inl (fun _ => 0)))] [(k1, .int)] sz [.ref h0, .int 0, .int 1, .int (-1)]) (QG_ D (fun q i => none) (fun q i => True) (fun q k i => [(h0, .inr (11, [v0, v1, .ref h1, v2, v3, .int 1, v4, v5, v6, v7])), (h1, .inl (k1, 36, .inl (fun _ => 0)))]) (fun q k i => [(k1, .int)]) (va_A [(h0, .inr (11, [v0, v1, .ref h1, v2, v3, .int 1, v4, v5, v6, v7])), (h1, .inl (k1, 36, .inl (fun _ => 0)))] sz)) 0 0 (va_A [(h0, .inr (11, [v0, v1, .ref h1, v2, v3, .int 1, v4, v5, v6, v7])), (h1, .inl (k1, 36, .inl (fun _ => 0)))] sz) := by
  refine Met.ofW (cc := cX8_sendToNeighbours) (maxL := 5) (ret := none) (by decide) rfl ?_
  intro p e s m args below meth c s₁ B hml hv
  obtain ⟨rfl, hsz, hP, hK, hD0, hF⟩ := hv
  have hx := B.exec
  have hb := B.bytes
  have hr := B.returns
  have hts := atoms_spec (ws := wsX8_sendToNeighbours) B.pre
  have hown : s.vm.findClass RX8 = some m.cls := findClass_of_methodNamed B.named
  have hlocks := B.notSynchronized
  subst hsz
  have hD := hD0.self (sz := s.heap.size)
  generalize hAe : va_A [(h0, .inr (11, [v0, v1, .ref h1, v2, v3, .int 1, v4, v5, v6, v7])), (h1, .inl (k1, 36, .inl (fun _ => 0)))] s.heap.size = A at hD hF ⊢
  have hA : ∀ q : Nat, s.heap.size ≤ q → A q := fun q h => by rw [← hAe]; exact Or.inr h
  obtain ⟨H, hHe⟩ : ∃ H : Heap, H = s.heap := ⟨_, rfl⟩
  have hS : va_S A s.heap H [] := by rw [hHe]; exact va_S.rf
  have hP : va_P D vwCl [(h0, .inr (11, [v0, v1, .ref h1, v2, v3, .int 1, v4, v5, v6, v7])), (h1, .inl (k1, 36, .inl (fun _ => 0)))] H := by rw [hHe]; exact hP
  rw [← hHe]
  have hi_X8 : ∀ w ∈ wsX80, w ∈ wsX8_sendToNeighbours := by decide +kernel
  have hl := lv_entry [.ref h0, .int 0, .int 1, .int (-1)] (n := 5) (Nat.le_of_ble_eq_true rfl)
  rw [lg_entry_eq]
  generalize (lg_sl [.ref h0, .int 0, .int 1, .int (-1)] ++ List.replicate (5 - (lg_sl [.ref h0, .int 0, .int 1, .int (-1)]).length) Slot.unset).toArray = ls at hl ⊢
  have hl : lv_has ls 5 [(0, .ref h0), (1, .int 0), (2, .int 1), (3, .int (-1))] := hl
  refine lv_iconst (v := 0) hx hb dX8_sendToNeighbours_0 (by decide) ?_
  refine lv_istore (lv' := [(4, .int 0), (0, .ref h0), (1, .int 0), (2, .int 1), (3, .int (-1))]) hx hb dX8_sendToNeighbours_1 hl (by decide) rfl (fun ls hl => ?_)
  refine lv_iload hx hb dX8_sendToNeighbours_3 (lv_at hl 0 rfl) ?_
  refine lv_aload_n hx hb dX8_sendToNeighbours_5 rfl (lv_at hl 1 rfl) ?_
  refine va_get (D := D) (ci := 11) (v := .int 1) (own := RX8) (C := RX8) (T := TX8) (N := 10) hx hb hts hi_X8 hown hK hP 0 rfl rfl 5 (by decide) (hts (.fieldLink RX8 28 "CanalMaps$Survey" "surveyors" "I") (List.mem_of_getElem? (i := 1) (by decide +kernel))) (fun _ h9 => h9) rfl dX8_sendToNeighbours_6 ?_
  refine lv_icmp_ge (tgt := 45) hx hb dX8_sendToNeighbours_9 (by decide) (fun c9 => absurd c9 (by decide +kernel)) (fun _ => ?_)
  refine lv_iload hx hb dX8_sendToNeighbours_12 (lv_at hl 0 rfl) ?_
  refine lv_iload_n hx hb dX8_sendToNeighbours_14 rfl (lv_at hl 4 rfl) ?_
  refine lv_icmp_eq (tgt := 39) hx hb dX8_sendToNeighbours_15 (by decide) (fun c9 => absurd c9 (by decide +kernel)) (fun _ => ?_)
  refine lv_aload_n hx hb dX8_sendToNeighbours_18 rfl (lv_at hl 1 rfl) ?_
  refine lv_iload_n hx hb dX8_sendToNeighbours_19 rfl (lv_at hl 2 rfl) ?_
  refine lv_iload hx hb dX8_sendToNeighbours_20 (lv_at hl 0 rfl) ?_
  refine kc_ (wc := [(h0, .inr (11, [v0, v1, .ref h1, v2, v3, .int 1, v4, v5, v6, v7])), (h1, .inl (k1, 36, .inl (fun _ => 0)))]) (wr := []) (va_runV (As := [.int 0, .int 0]) (rest := []) ⟨hx, hb, hml, hown, hts⟩ (c_X8_areNeighbours_0 l hl0 D ad H.size h0 h1 k1 (v0) (v1) (v2) (v3) (v4) (v5) (v6) (v7)) (cwV 2 hts gX8_sendToNeighbours_X8_areNeighbours rfl rfl rfl (by decide +kernel) ⟨Nat.le_of_ble_eq_true rfl, Nat.le_of_ble_eq_true rfl⟩) ⟨PC_.blind, va_recv hK hP (ci := 11) (q0 := 0) rfl rfl, PC_.pre hF hK hP hD hS hA [0, 1] [0] rfl (by decide) rfl⟩ rfl rfl hl.1 rfl (lv_room (Nat.le_of_ble_eq_true rfl)) dX8_sendToNeighbours_22 ⟨Nat.le_of_ble_eq_true rfl, Nat.le_of_ble_eq_true rfl⟩) hK hP hD hS hA [0, 1] [] [] rfl rfl (by decide) (by decide) rfl (fun qa_1 ka_1 ia_1 H locs hpo hP hD hK hS => ?_)
  have hP : va_P D vwCl [(h0, .inr (11, [v0, v1, .ref h1, v2, v3, .int 1, v4, v5, v6, v7])), (h1, .inl (k1, 36, .inl (fun _ => 0)))] H := hP
  have hD : va_D A [(h0, .inr (11, [v0, v1, .ref h1, v2, v3, .int 1, v4, v5, v6, v7])), (h1, .inl (k1, 36, .inl (fun _ => 0)))] := hD
  have hK : va_K D vwCl [(k1, .int)] s := hK
  refine W.eq (g2 := F0 m 25 ls [.int 0]) rfl ?_
  refine lv_if_eq (tgt := 39) hx hb dX8_sendToNeighbours_25 (by decide) (fun _ => ?_) (fun c9 => absurd (by decide +kernel) c9)
  refine lv_iinc (v := 1) (lv' := [(4, .int 1), (0, .ref h0), (1, .int 0), (2, .int 1), (3, .int (-1))]) hx hb dX8_sendToNeighbours_39 hl (k := 0) rfl (by decide +kernel) (by decide) rfl (fun ls hl => ?_)
  refine lv_goto (tgt := 3) hx hb dX8_sendToNeighbours_42 (by decide) ?_
  refine lv_iload hx hb dX8_sendToNeighbours_3 (lv_at hl 0 rfl) ?_
  refine lv_aload_n hx hb dX8_sendToNeighbours_5 rfl (lv_at hl 1 rfl) ?_
  refine va_get (D := D) (ci := 11) (v := .int 1) (own := RX8) (C := RX8) (T := TX8) (N := 10) hx hb hts hi_X8 hown hK hP 0 rfl rfl 5 (by decide) (hts (.fieldLink RX8 28 "CanalMaps$Survey" "surveyors" "I") (List.mem_of_getElem? (i := 1) (by decide +kernel))) (fun _ h9 => h9) rfl dX8_sendToNeighbours_6 ?_
  refine lv_icmp_ge (tgt := 45) hx hb dX8_sendToNeighbours_9 (by decide) (fun _ => ?_) (fun c9 => absurd (by decide +kernel) c9)
  refine W.widen (k := 0) (n := 0) (Nat.le_of_ble_eq_true rfl) (Nat.le_of_ble_eq_true rfl) ?_
  exact W.vret hx hb hr (QG_.mk (fun _ => 0) (fun _ => 0) (fun _ => 0) [0, 1] [0] hP hD hK hS rfl trivial rfl (by decide) rfl) hS.2.2 dX8_sendToNeighbours_45
