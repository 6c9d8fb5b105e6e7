set_option maxHeartbeats 4000000 in
set_option maxRecDepth 100000 in
theorem c_X11_undo_0 (l : Launch) (hl0 : l.stackTraces = false) (D : va_G) (ad : Nat → Nat) (sz : Nat) (h0 : Nat) (v0 : Value) (v1 : Value) (v2 : Value) (v3 : Value) (v4 : Value) (v5 : Value) (v6 : Value) (v7 : Value) (v8 : Value) (v9 : Value) (v10 : Value) (v11 : Value) (v12 : Value) (v13 : Value) (v14 : Value) (v15 : Value) (v16 : Value) (v17 : Value) (v18 : Value) (v19 : Value) (v20 : Value) (v21 : Value) (v22 : Value) (v23 : Value) : Met l yX11_undo wsX11_undo ({ frames := 1, cells := 0, slots := 0, locals := 23 }) (PC_ D ad [(h0, .inr (14, [v0, v1, v2, v3, .int 0, v4, v5, v6, v7, v8, v9, v10, v11, v12, v13, v14, v15, v16, v17, v18, v19, v20, v21, v22, v23]))] [] sz [.ref h0]) (QG_ D (fun q i => some (.int 0)) (fun q i => True) (fun q k i => [(h0, .inr (14, [v0, v1, v2, v3, .int 0, v4, v5, v6, v7, v8, v9, v10, v11, v12, v13, v14, v15, v16, v17, v18, v19, v20, v21, .int 1, v23]))]) (fun q k i => []) (va_A [(h0, .inr (14, [v0, v1, v2, v3, .int 0, v4, v5, v6, v7, v8, v9, v10, v11, v12, v13, v14, v15, v16, v17, v18, v19, v20, v21, v22, v23]))] sz)) 0 0 (va_A [(h0, .inr (14, [v0, v1, v2, v3, .int 0, v4, v5, v6, v7, v8, v9, v10, v11, v12, v13, v14, v15, v16, v17, v18, v19, v20, v21, v22, v23]))] sz) := by
  refine Met.ofW (cc := cX11_undo) (maxL := 3) (ret := (some .int)) (by decide) rfl ?_
  intro p e s m args below meth c s₁ B hml hv
  obtain ⟨rfl, hsz, hP, hK, hD0, hF⟩ := hv
  have hx := B.exec
  have hb := B.bytes
  have hr := B.returns
  have hts := atoms_spec (ws := wsX11_undo) B.pre
  have hown : s.vm.findClass RX11 = some m.cls := findClass_of_methodNamed B.named
  have hlocks := B.notSynchronized
  subst hsz
  have hD := hD0.self (sz := s.heap.size)
  generalize hAe : va_A [(h0, .inr (14, [v0, v1, v2, v3, .int 0, v4, v5, v6, v7, v8, v9, v10, v11, v12, v13, v14, v15, v16, v17, v18, v19, v20, v21, v22, v23]))] s.heap.size = A at hD hF ⊢
  have hA : ∀ q : Nat, s.heap.size ≤ q → A q := fun q h => by rw [← hAe]; exact Or.inr h
  obtain ⟨H, hHe⟩ : ∃ H : Heap, H = s.heap := ⟨_, rfl⟩
  have hS : va_S A s.heap H [] := by rw [hHe]; exact va_S.rf
  have hP : va_P D vwCl [(h0, .inr (14, [v0, v1, v2, v3, .int 0, v4, v5, v6, v7, v8, v9, v10, v11, v12, v13, v14, v15, v16, v17, v18, v19, v20, v21, v22, v23]))] H := by rw [hHe]; exact hP
  rw [← hHe]
  have hi_X11 : ∀ w ∈ wsX110, w ∈ wsX11_undo := by decide +kernel
  have hl := lv_entry [.ref h0] (n := 3) (Nat.le_of_ble_eq_true rfl)
  rw [lg_entry_eq]
  generalize (lg_sl [.ref h0] ++ List.replicate (3 - (lg_sl [.ref h0]).length) Slot.unset).toArray = ls at hl ⊢
  have hl : lv_has ls 3 [(0, .ref h0)] := hl
  refine lv_aload_n hx hb dX11_undo_0 rfl (lv_at hl 0 rfl) ?_
  refine lv_iconst (v := 0) hx hb dX11_undo_1 (by decide) ?_
  refine va_put (D := D) (ci := 14) (v := .int 0) (ty := .int) (own := RX11) (C := RX11) (T := TX11) (N := 25) hx hb hts hi_X11 tyX11 tyX11_ok nmX11 hown hK hP hD hS 0 rfl rfl 23 (by decide) (hts (.fieldLink RX11 47 "CanalMapsModel" "thrown" "I") (List.mem_of_getElem? (i := 1) (by decide +kernel))) (fun _ h9 => h9) rfl (by decide +kernel) rfl rfl (Nat.le_of_ble_eq_true rfl) dX11_undo_2 (fun H locs hP hD hS => ?_)
  have hP : va_P D vwCl [(h0, .inr (14, [v0, v1, v2, v3, .int 0, v4, v5, v6, v7, v8, v9, v10, v11, v12, v13, v14, v15, v16, v17, v18, v19, v20, v21, .int 0, v23]))] H := hP
  have hD : va_D A [(h0, .inr (14, [v0, v1, v2, v3, .int 0, v4, v5, v6, v7, v8, v9, v10, v11, v12, v13, v14, v15, v16, v17, v18, v19, v20, v21, .int 0, v23]))] := hD
  refine lv_aload_n hx hb dX11_undo_5 rfl (lv_at hl 0 rfl) ?_
  refine va_get (D := D) (ci := 14) (v := .int 0) (own := RX11) (C := RX11) (T := TX11) (N := 25) hx hb hts hi_X11 hown hK hP 0 rfl rfl 4 (by decide) (hts (.fieldLink RX11 60 "CanalMapsModel" "undos" "I") (List.mem_of_getElem? (i := 2) (by decide +kernel))) (fun _ h9 => h9) rfl dX11_undo_6 ?_
  refine lv_if_ne (tgt := 18) hx hb dX11_undo_9 (by decide) (fun c9 => absurd (by decide +kernel) c9) (fun _ => ?_)
  refine lv_aload_n hx hb dX11_undo_12 rfl (lv_at hl 0 rfl) ?_
  refine lv_iconst (v := 1) hx hb dX11_undo_13 (by decide) ?_
  refine kc_ (wc := [(h0, .inr (14, [v0, v1, v2, v3, .int 0, v4, v5, v6, v7, v8, v9, v10, v11, v12, v13, v14, v15, v16, v17, v18, v19, v20, v21, .int 0, v23]))]) (wr := []) (va_runV (As := [.int 1]) (rest := []) ⟨hx, hb, hml, hown, hts⟩ (c_X11_raises_0 l hl0 D ad H.size h0 (v0) (v1) (v2) (v3) (.int 0) (v4) (v5) (v6) (v7) (v8) (v9) (v10) (v11) (v12) (v13) (v14) (v15) (v16) (v17) (v18) (v19) (v20) (v21) (.int 0) (v23)) (cwV 1 hts gX11_undo_X11_raises rfl rfl rfl (by decide +kernel) ⟨Nat.le_of_ble_eq_true rfl, Nat.le_of_ble_eq_true rfl⟩) ⟨PC_.blind, va_recv hK hP (ci := 14) (q0 := 0) rfl rfl, PC_.pre hF hK hP hD hS hA [0] [] rfl (by decide) rfl⟩ rfl rfl hl.1 rfl (lv_room (Nat.le_of_ble_eq_true rfl)) dX11_undo_14 ⟨Nat.le_of_ble_eq_true rfl, Nat.le_of_ble_eq_true rfl⟩) hK hP hD hS hA [0] [] [] rfl rfl (by decide) (by decide) rfl (fun qa_1 ka_1 ia_1 H locs hpo hP hD hK hS => ?_)
  have hP : va_P D vwCl [(h0, .inr (14, [v0, v1, v2, v3, .int 0, v4, v5, v6, v7, v8, v9, v10, v11, v12, v13, v14, v15, v16, v17, v18, v19, v20, v21, .int 1, v23]))] H := hP
  have hD : va_D A [(h0, .inr (14, [v0, v1, v2, v3, .int 0, v4, v5, v6, v7, v8, v9, v10, v11, v12, v13, v14, v15, v16, v17, v18, v19, v20, v21, .int 1, v23]))] := hD
  have hK : va_K D vwCl [] s := hK
  refine W.eq (g2 := F0 m 17 ls [.int 0]) rfl ?_
  refine W.widen (k := 0) (n := 0) (Nat.le_of_ble_eq_true rfl) (Nat.le_of_ble_eq_true rfl) ?_
  exact W.iret (v := 0) hx hb hr (QG_.mk (fun _ => 0) (fun _ => 0) (fun _ => 0) [0] [] hP hD hK hS rfl trivial rfl (by decide) rfl) hS.2.2 dX11_undo_17
set_option maxHeartbeats 4000000 in
set_option maxRecDepth 100000 in
theorem c_X10_save_0 (l : Launch) (hl0 : l.stackTraces = false) (D : va_G) (ad : Nat → Nat) (sz : Nat) (h0 : Nat) (h1 : Nat) (h2 : Nat) (h3 : Nat) (h4 : Nat) (h5 : Nat) (h6 : Nat) (h7 : Nat) (h8 : Nat) (h9 : Nat) (h10 : Nat) (h11 : Nat) (h12 : Nat) (k3 : ClassId) (k4 : ClassId) (k5 : ClassId) (k6 : ClassId) (k7 : ClassId) (k8 : ClassId) (k10 : ClassId) (k12 : ClassId) (v0 : Value) (v1 : Value) (v2 : Value) (v3 : Value) (v4 : Value) (v5 : Value) (v6 : Value) (v7 : Value) (v8 : Value) (v9 : Value) (v10 : Value) (v11 : Value) (v12 : Value) (v13 : Value) (v14 : Value) (v15 : Value) (v16 : Value) (f0 : Nat → Int32) (f1 : Nat → Int32) : Met l yX10_save wsX10_save ({ frames := 3, cells := 0, slots := 0, locals := 106 }) (PC_ D ad [(h0, .inr (13, [.ref h1, v0, .ref h2, v1, v2, v3, v4, v5, v6, v7])), (h1, .inr (11, [v8, .ref h3, .ref h5, .ref h7, .ref h11, .int 0, .int 0, .int 0, .int 0, .int 0])), (h2, .inr (11, [v9, .ref h4, .ref h6, .ref h8, .ref h9, v10, v11, v12, v13, v14])), (h3, .inl (k3, 6, .inl (fun _ => 0))), (h4, .inl (k4, 6, .inl (fun _ => 0))), (h5, .inl (k5, 36, .inl (fun _ => 0))), (h6, .inl (k6, 36, .inl (fun _ => 0))), (h7, .inl (k7, 36, .inl (fun _ => 0))), (h8, .inl (k8, 36, .inl (fun _ => 0))), (h9, .inr (8, [.ref h10, v15, v16])), (h10, .inl (k10, 64, .inl f0)), (h11, .inr (8, [.ref h12, .int 0, .int 0])), (h12, .inl (k12, 64, .inl f1))] [(k3, .int), (k4, .int), (k5, .int), (k6, .int), (k7, .int), (k8, .int), (k10, .int), (k12, .int)] sz [.ref h0]) (QG_ D (fun q i => some (.int 0)) (fun q i => True) (fun q k i => [(h0, .inr (13, [.ref h1, v0, .ref h2, v1, v2, v3, v4, .int 1, v6, v7])), (h1, .inr (11, [v8, .ref h3, .ref h5, .ref h7, .ref h11, .int 0, .int 0, .int 0, .int 0, .int 0])), (h2, .inr (11, [v9, .ref h4, .ref h6, .ref h8, .ref h9, .int 0, .int 0, .int 0, .int 0, .int 0])), (h3, .inl (k3, 6, .inl (fun _ => 0))), (h4, .inl (k4, 6, .inl (fun _ => 0))), (h5, .inl (k5, 36, .inl (fun _ => 0))), (h6, .inl (k6, 36, .inl (fun _ => 0))), (h7, .inl (k7, 36, .inl (fun _ => 0))), (h8, .inl (k8, 36, .inl (fun _ => 0))), (h9, .inr (8, [.ref h10, .int 0, .int 0])), (h10, .inl (k10, 64, .inl f0)), (h11, .inr (8, [.ref h12, .int 0, .int 0])), (h12, .inl (k12, 64, .inl f1))]) (fun q k i => [(k3, .int), (k4, .int), (k5, .int), (k6, .int), (k7, .int), (k8, .int), (k10, .int), (k12, .int)]) (va_A [(h0, .inr (13, [.ref h1, v0, .ref h2, v1, v2, v3, v4, v5, v6, v7])), (h1, .inr (11, [v8, .ref h3, .ref h5, .ref h7, .ref h11, .int 0, .int 0, .int 0, .int 0, .int 0])), (h2, .inr (11, [v9, .ref h4, .ref h6, .ref h8, .ref h9, v10, v11, v12, v13, v14])), (h3, .inl (k3, 6, .inl (fun _ => 0))), (h4, .inl (k4, 6, .inl (fun _ => 0))), (h5, .inl (k5, 36, .inl (fun _ => 0))), (h6, .inl (k6, 36, .inl (fun _ => 0))), (h7, .inl (k7, 36, .inl (fun _ => 0))), (h8, .inl (k8, 36, .inl (fun _ => 0))), (h9, .inr (8, [.ref h10, v15, v16])), (h10, .inl (k10, 64, .inl f0)), (h11, .inr (8, [.ref h12, .int 0, .int 0])), (h12, .inl (k12, 64, .inl f1))] sz)) 0 0 (va_A [(h0, .inr (13, [.ref h1, v0, .ref h2, v1, v2, v3, v4, v5, v6, v7])), (h1, .inr (11, [v8, .ref h3, .ref h5, .ref h7, .ref h11, .int 0, .int 0, .int 0, .int 0, .int 0])), (h2, .inr (11, [v9, .ref h4, .ref h6, .ref h8, .ref h9, v10, v11, v12, v13, v14])), (h3, .inl (k3, 6, .inl (fun _ => 0))), (h4, .inl (k4, 6, .inl (fun _ => 0))), (h5, .inl (k5, 36, .inl (fun _ => 0))), (h6, .inl (k6, 36, .inl (fun _ => 0))), (h7, .inl (k7, 36, .inl (fun _ => 0))), (h8, .inl (k8, 36, .inl (fun _ => 0))), (h9, .inr (8, [.ref h10, v15, v16])), (h10, .inl (k10, 64, .inl f0)), (h11, .inr (8, [.ref h12, .int 0, .int 0])), (h12, .inl (k12, 64, .inl f1))] sz) := by
  refine Met.ofW (cc := cX10_save) (maxL := 1) (ret := (some .int)) (by decide) rfl ?_
  intro p e s m args below meth c s₁ B hml hv
  obtain ⟨rfl, hsz, hP, hK, hD0, hF⟩ := hv
  have hx := B.exec
  have hb := B.bytes
  have hr := B.returns
  have hts := atoms_spec (ws := wsX10_save) B.pre
  have hown : s.vm.findClass RX10 = some m.cls := findClass_of_methodNamed B.named
  have hlocks := B.notSynchronized
  subst hsz
  have hD := hD0.self (sz := s.heap.size)
  generalize hAe : va_A [(h0, .inr (13, [.ref h1, v0, .ref h2, v1, v2, v3, v4, v5, v6, v7])), (h1, .inr (11, [v8, .ref h3, .ref h5, .ref h7, .ref h11, .int 0, .int 0, .int 0, .int 0, .int 0])), (h2, .inr (11, [v9, .ref h4, .ref h6, .ref h8, .ref h9, v10, v11, v12, v13, v14])), (h3, .inl (k3, 6, .inl (fun _ => 0))), (h4, .inl (k4, 6, .inl (fun _ => 0))), (h5, .inl (k5, 36, .inl (fun _ => 0))), (h6, .inl (k6, 36, .inl (fun _ => 0))), (h7, .inl (k7, 36, .inl (fun _ => 0))), (h8, .inl (k8, 36, .inl (fun _ => 0))), (h9, .inr (8, [.ref h10, v15, v16])), (h10, .inl (k10, 64, .inl f0)), (h11, .inr (8, [.ref h12, .int 0, .int 0])), (h12, .inl (k12, 64, .inl f1))] s.heap.size = A at hD hF ⊢
  have hA : ∀ q : Nat, s.heap.size ≤ q → A q := fun q h => by rw [← hAe]; exact Or.inr h
  obtain ⟨H, hHe⟩ : ∃ H : Heap, H = s.heap := ⟨_, rfl⟩
  have hS : va_S A s.heap H [] := by rw [hHe]; exact va_S.rf
  have hP : va_P D vwCl [(h0, .inr (13, [.ref h1, v0, .ref h2, v1, v2, v3, v4, v5, v6, v7])), (h1, .inr (11, [v8, .ref h3, .ref h5, .ref h7, .ref h11, .int 0, .int 0, .int 0, .int 0, .int 0])), (h2, .inr (11, [v9, .ref h4, .ref h6, .ref h8, .ref h9, v10, v11, v12, v13, v14])), (h3, .inl (k3, 6, .inl (fun _ => 0))), (h4, .inl (k4, 6, .inl (fun _ => 0))), (h5, .inl (k5, 36, .inl (fun _ => 0))), (h6, .inl (k6, 36, .inl (fun _ => 0))), (h7, .inl (k7, 36, .inl (fun _ => 0))), (h8, .inl (k8, 36, .inl (fun _ => 0))), (h9, .inr (8, [.ref h10, v15, v16])), (h10, .inl (k10, 64, .inl f0)), (h11, .inr (8, [.ref h12, .int 0, .int 0])), (h12, .inl (k12, 64, .inl f1))] H := by rw [hHe]; exact hP
  rw [← hHe]
  have hi_X10 : ∀ w ∈ wsX100, w ∈ wsX10_save := by decide +kernel
  have hi_X5 : ∀ w ∈ wsX50, w ∈ wsX10_save := by decide +kernel
  have hi_X8 : ∀ w ∈ wsX80, w ∈ wsX10_save := by decide +kernel
  have hl := lv_entry [.ref h0] (n := 1) (Nat.le_of_ble_eq_true rfl)
  rw [lg_entry_eq]
  generalize (lg_sl [.ref h0] ++ List.replicate (1 - (lg_sl [.ref h0]).length) Slot.unset).toArray = ls at hl ⊢
  have hl : lv_has ls 1 [(0, .ref h0)] := hl
  refine lv_aload_n hx hb dX10_save_0 rfl (lv_at hl 0 rfl) ?_
  refine va_get (D := D) (ci := 13) (v := .ref h2) (own := RX10) (C := RX10) (T := TX10) (N := 10) hx hb hts hi_X10 hown hK hP 0 rfl rfl 2 (by decide) (hts (.fieldLink RX10 57 "CanalMaps" "saved" "LCanalMaps$Survey;") (List.mem_of_getElem? (i := 1) (by decide +kernel))) (fun _ h9 => h9) rfl dX10_save_1 ?_
  refine lv_aload_n hx hb dX10_save_4 rfl (lv_at hl 0 rfl) ?_
  refine va_get (D := D) (ci := 13) (v := .ref h1) (own := RX10) (C := RX10) (T := TX10) (N := 10) hx hb hts hi_X10 hown hK hP 0 rfl rfl 0 (by decide) (hts (.fieldLink RX10 50 "CanalMaps" "now" "LCanalMaps$Survey;") (List.mem_of_getElem? (i := 2) (by decide +kernel))) (fun _ h9 => h9) rfl dX10_save_5 ?_
  refine kc_ (wc := [(h1, .inr (11, [v8, .ref h3, .ref h5, .ref h7, .ref h11, .int 0, .int 0, .int 0, .int 0, .int 0])), (h2, .inr (11, [v9, .ref h4, .ref h6, .ref h8, .ref h9, v10, v11, v12, v13, v14])), (h3, .inl (k3, 6, .inl (fun _ => 0))), (h4, .inl (k4, 6, .inl (fun _ => 0))), (h5, .inl (k5, 36, .inl (fun _ => 0))), (h6, .inl (k6, 36, .inl (fun _ => 0))), (h7, .inl (k7, 36, .inl (fun _ => 0))), (h8, .inl (k8, 36, .inl (fun _ => 0))), (h9, .inr (8, [.ref h10, v15, v16])), (h10, .inl (k10, 64, .inl f0)), (h11, .inr (8, [.ref h12, .int 0, .int 0])), (h12, .inl (k12, 64, .inl f1))]) (wr := [(h0, .inr (13, [.ref h1, v0, .ref h2, v1, v2, v3, v4, v5, v6, v7]))]) (va_runV (As := [.ref h1]) (rest := []) ⟨hx, hb, hml, hown, hts⟩ (c_X8_copyFrom_0 l hl0 D ad H.size h1 h2 h3 h4 h5 h6 h7 h8 h9 h10 h11 h12 k3 k4 k5 k6 k7 k8 k10 k12 (v8) (v9) (v10) (v11) (v12) (v13) (v14) (v15) (v16) f0 f1) (cwV 1 hts gX10_save_X8_copyFrom rfl rfl rfl (by decide +kernel) ⟨Nat.le_of_ble_eq_true rfl, Nat.le_of_ble_eq_true rfl⟩) ⟨PC_.blind, va_recv hK hP (ci := 11) (q0 := 2) rfl rfl, PC_.pre hF hK hP hD hS hA [1, 2, 3, 4, 5, 6, 7, 8, 9, 10, 11, 12] [0, 1, 2, 3, 4, 5, 6, 7] rfl (by decide) rfl⟩ rfl rfl hl.1 rfl (lv_room (Nat.le_of_ble_eq_true rfl)) dX10_save_8 ⟨Nat.le_of_ble_eq_true rfl, Nat.le_of_ble_eq_true rfl⟩) hK hP hD hS hA [1, 2, 3, 4, 5, 6, 7, 8, 9, 10, 11, 12] [0] [] rfl rfl (by decide) (by decide) rfl (fun qa_1 ka_1 ia_1 H locs hpo hP hD hK hS => ?_)
  have hP : va_P D vwCl [(h0, .inr (13, [.ref h1, v0, .ref h2, v1, v2, v3, v4, v5, v6, v7])), (h1, .inr (11, [v8, .ref h3, .ref h5, .ref h7, .ref h11, .int 0, .int 0, .int 0, .int 0, .int 0])), (h2, .inr (11, [v9, .ref h4, .ref h6, .ref h8, .ref h9, .int 0, .int 0, .int 0, .int 0, .int 0])), (h3, .inl (k3, 6, .inl (fun _ => 0))), (h4, .inl (k4, 6, .inl (fun _ => 0))), (h5, .inl (k5, 36, .inl (fun _ => 0))), (h6, .inl (k6, 36, .inl (fun _ => 0))), (h7, .inl (k7, 36, .inl (fun _ => 0))), (h8, .inl (k8, 36, .inl (fun _ => 0))), (h9, .inr (8, [.ref h10, .int 0, .int 0])), (h10, .inl (k10, 64, .inl f0)), (h11, .inr (8, [.ref h12, .int 0, .int 0])), (h12, .inl (k12, 64, .inl f1))] H := hP
  have hD : va_D A [(h0, .inr (13, [.ref h1, v0, .ref h2, v1, v2, v3, v4, v5, v6, v7])), (h1, .inr (11, [v8, .ref h3, .ref h5, .ref h7, .ref h11, .int 0, .int 0, .int 0, .int 0, .int 0])), (h2, .inr (11, [v9, .ref h4, .ref h6, .ref h8, .ref h9, .int 0, .int 0, .int 0, .int 0, .int 0])), (h3, .inl (k3, 6, .inl (fun _ => 0))), (h4, .inl (k4, 6, .inl (fun _ => 0))), (h5, .inl (k5, 36, .inl (fun _ => 0))), (h6, .inl (k6, 36, .inl (fun _ => 0))), (h7, .inl (k7, 36, .inl (fun _ => 0))), (h8, .inl (k8, 36, .inl (fun _ => 0))), (h9, .inr (8, [.ref h10, .int 0, .int 0])), (h10, .inl (k10, 64, .inl f0)), (h11, .inr (8, [.ref h12, .int 0, .int 0])), (h12, .inl (k12, 64, .inl f1))] := hD
  have hK : va_K D vwCl [(k3, .int), (k4, .int), (k5, .int), (k6, .int), (k7, .int), (k8, .int), (k10, .int), (k12, .int)] s := hK
  refine W.eq (g2 := F0 m 11 ls []) rfl ?_
  refine lv_aload_n hx hb dX10_save_11 rfl (lv_at hl 0 rfl) ?_
  refine lv_iconst (v := 1) hx hb dX10_save_12 (by decide) ?_
  refine va_put (D := D) (ci := 13) (v := .int 1) (ty := .boolean) (own := RX10) (C := RX10) (T := TX10) (N := 10) hx hb hts hi_X10 tyX10 tyX10_ok nmX10 hown hK hP hD hS 0 rfl rfl 7 (by decide) (hts (.fieldLink RX10 30 "CanalMaps" "isSaved" "Z") (List.mem_of_getElem? (i := 3) (by decide +kernel))) (fun _ h9 => h9) rfl (by decide +kernel) rfl rfl (Nat.le_of_ble_eq_true rfl) dX10_save_13 (fun H locs hP hD hS => ?_)
  have hP : va_P D vwCl [(h0, .inr (13, [.ref h1, v0, .ref h2, v1, v2, v3, v4, .int 1, v6, v7])), (h1, .inr (11, [v8, .ref h3, .ref h5, .ref h7, .ref h11, .int 0, .int 0, .int 0, .int 0, .int 0])), (h2, .inr (11, [v9, .ref h4, .ref h6, .ref h8, .ref h9, .int 0, .int 0, .int 0, .int 0, .int 0])), (h3, .inl (k3, 6, .inl (fun _ => 0))), (h4, .inl (k4, 6, .inl (fun _ => 0))), (h5, .inl (k5, 36, .inl (fun _ => 0))), (h6, .inl (k6, 36, .inl (fun _ => 0))), (h7, .inl (k7, 36, .inl (fun _ => 0))), (h8, .inl (k8, 36, .inl (fun _ => 0))), (h9, .inr (8, [.ref h10, .int 0, .int 0])), (h10, .inl (k10, 64, .inl f0)), (h11, .inr (8, [.ref h12, .int 0, .int 0])), (h12, .inl (k12, 64, .inl f1))] H := hP
  have hD : va_D A [(h0, .inr (13, [.ref h1, v0, .ref h2, v1, v2, v3, v4, .int 1, v6, v7])), (h1, .inr (11, [v8, .ref h3, .ref h5, .ref h7, .ref h11, .int 0, .int 0, .int 0, .int 0, .int 0])), (h2, .inr (11, [v9, .ref h4, .ref h6, .ref h8, .ref h9, .int 0, .int 0, .int 0, .int 0, .int 0])), (h3, .inl (k3, 6, .inl (fun _ => 0))), (h4, .inl (k4, 6, .inl (fun _ => 0))), (h5, .inl (k5, 36, .inl (fun _ => 0))), (h6, .inl (k6, 36, .inl (fun _ => 0))), (h7, .inl (k7, 36, .inl (fun _ => 0))), (h8, .inl (k8, 36, .inl (fun _ => 0))), (h9, .inr (8, [.ref h10, .int 0, .int 0])), (h10, .inl (k10, 64, .inl f0)), (h11, .inr (8, [.ref h12, .int 0, .int 0])), (h12, .inl (k12, 64, .inl f1))] := hD
  refine lv_aload_n hx hb dX10_save_16 rfl (lv_at hl 0 rfl) ?_
  refine va_get (D := D) (ci := 13) (v := .ref h1) (own := RX10) (C := RX10) (T := TX10) (N := 10) hx hb hts hi_X10 hown hK hP 0 rfl rfl 0 (by decide) (hts (.fieldLink RX10 50 "CanalMaps" "now" "LCanalMaps$Survey;") (List.mem_of_getElem? (i := 2) (by decide +kernel))) (fun _ h9 => h9) rfl dX10_save_17 ?_
  refine va_getN (D := D) (ci := 11) (v := .int 0) (own := RX10) (C := RX8) (T := TX8) (N := 10) hx hb hts hi_X8 hown hK hP 1 rfl rfl 5 (by decide) (fxn_ hF (RX10, 238, "CanalMaps$Survey", "surveyors", "I")) (fun _ h9 => h9) rfl dX10_save_20 ?_
  refine W.widen (k := 0) (n := 0) (Nat.le_of_ble_eq_true rfl) (Nat.le_of_ble_eq_true rfl) ?_
  exact W.iret (v := 0) hx hb hr (QG_.mk (fun _ => 0) (fun _ => 0) (fun _ => 0) [0, 1, 2, 3, 4, 5, 6, 7, 8, 9, 10, 11, 12] [0, 1, 2, 3, 4, 5, 6, 7] hP hD hK hS rfl trivial rfl (by decide) rfl) hS.2.2 dX10_save_23
set_option maxHeartbeats 4000000 in
set_option maxRecDepth 100000 in
theorem c_X11_save_0 (l : Launch) (hl0 : l.stackTraces = false) (D : va_G) (ad : Nat → Nat) (sz : Nat) (h0 : Nat) (h1 : Nat) (h2 : Nat) (k1 : ClassId) (k2 : ClassId) (v0 : Value) (v1 : Value) (v2 : Value) (v3 : Value) (v4 : Value) (v5 : Value) (v6 : Value) (v7 : Value) (v8 : Value) (v9 : Value) (v10 : Value) (v11 : Value) (v12 : Value) (v13 : Value) (v14 : Value) (v15 : Value) (v16 : Value) (v17 : Value) (v18 : Value) (v19 : Value) (v20 : Value) (v21 : Value) (v22 : Value) : Met l yX11_save wsX11_save ({ frames := 1, cells := 0, slots := 0, locals := 25 }) (PC_ D ad [(h0, .inr (14, [.ref h1, v0, v1, v2, v3, .ref h2, v4, v5, v6, v7, v8, v9, v10, v11, v12, v13, v14, v15, v16, v17, v18, v19, v20, v21, v22])), (h1, .inl (k1, 8277, .inl (fun _ => 0))), (h2, .inl (k2, 8277, .inl (fun _ => 0)))] [(k1, .int), (k2, .int)] sz [.ref h0]) (QG_ D (fun q i => some (.int 0)) (fun q i => True) (fun q k i => [(h0, .inr (14, [.ref h1, v0, v1, v2, v3, .ref h2, .int 1, v5, v6, v7, v8, v9, v10, v11, v12, v13, v14, v15, v16, v17, v18, v19, v20, .int 0, v22])), (h1, .inl (k1, 8277, .inl (fun _ => 0))), (h2, .inl (k2, 8277, .inl (fun _ => 0)))]) (fun q k i => [(k1, .int), (k2, .int)]) (va_A [(h0, .inr (14, [.ref h1, v0, v1, v2, v3, .ref h2, v4, v5, v6, v7, v8, v9, v10, v11, v12, v13, v14, v15, v16, v17, v18, v19, v20, v21, v22])), (h1, .inl (k1, 8277, .inl (fun _ => 0))), (h2, .inl (k2, 8277, .inl (fun _ => 0)))] sz)) 0 0 (va_A [(h0, .inr (14, [.ref h1, v0, v1, v2, v3, .ref h2, v4, v5, v6, v7, v8, v9, v10, v11, v12, v13, v14, v15, v16, v17, v18, v19, v20, v21, v22])), (h1, .inl (k1, 8277, .inl (fun _ => 0))), (h2, .inl (k2, 8277, .inl (fun _ => 0)))] sz) := by
  refine Met.ofW (cc := cX11_save) (maxL := 1) (ret := (some .int)) (by decide) rfl ?_
  intro p e s m args below meth c s₁ B hml hv
  obtain ⟨rfl, hsz, hP, hK, hD0, hF⟩ := hv
  have hx := B.exec
  have hb := B.bytes
  have hr := B.returns
  have hts := atoms_spec (ws := wsX11_save) B.pre
  have hown : s.vm.findClass RX11 = some m.cls := findClass_of_methodNamed B.named
  have hlocks := B.notSynchronized
  subst hsz
  have hD := hD0.self (sz := s.heap.size)
  generalize hAe : va_A [(h0, .inr (14, [.ref h1, v0, v1, v2, v3, .ref h2, v4, v5, v6, v7, v8, v9, v10, v11, v12, v13, v14, v15, v16, v17, v18, v19, v20, v21, v22])), (h1, .inl (k1, 8277, .inl (fun _ => 0))), (h2, .inl (k2, 8277, .inl (fun _ => 0)))] s.heap.size = A at hD hF ⊢
  have hA : ∀ q : Nat, s.heap.size ≤ q → A q := fun q h => by rw [← hAe]; exact Or.inr h
  obtain ⟨H, hHe⟩ : ∃ H : Heap, H = s.heap := ⟨_, rfl⟩
  have hS : va_S A s.heap H [] := by rw [hHe]; exact va_S.rf
  have hP : va_P D vwCl [(h0, .inr (14, [.ref h1, v0, v1, v2, v3, .ref h2, v4, v5, v6, v7, v8, v9, v10, v11, v12, v13, v14, v15, v16, v17, v18, v19, v20, v21, v22])), (h1, .inl (k1, 8277, .inl (fun _ => 0))), (h2, .inl (k2, 8277, .inl (fun _ => 0)))] H := by rw [hHe]; exact hP
  rw [← hHe]
  have hi_X11 : ∀ w ∈ wsX110, w ∈ wsX11_save := by decide +kernel
  have hl := lv_entry [.ref h0] (n := 1) (Nat.le_of_ble_eq_true rfl)
  rw [lg_entry_eq]
  generalize (lg_sl [.ref h0] ++ List.replicate (1 - (lg_sl [.ref h0]).length) Slot.unset).toArray = ls at hl ⊢
  have hl : lv_has ls 1 [(0, .ref h0)] := hl
  refine lv_aload_n hx hb dX11_save_0 rfl (lv_at hl 0 rfl) ?_
  refine lv_iconst (v := 0) hx hb dX11_save_1 (by decide) ?_
  refine va_put (D := D) (ci := 14) (v := .int 0) (ty := .int) (own := RX11) (C := RX11) (T := TX11) (N := 25) hx hb hts hi_X11 tyX11 tyX11_ok nmX11 hown hK hP hD hS 0 rfl rfl 23 (by decide) (hts (.fieldLink RX11 47 "CanalMapsModel" "thrown" "I") (List.mem_of_getElem? (i := 1) (by decide +kernel))) (fun _ h9 => h9) rfl (by decide +kernel) rfl rfl (Nat.le_of_ble_eq_true rfl) dX11_save_2 (fun H locs hP hD hS => ?_)
  have hP : va_P D vwCl [(h0, .inr (14, [.ref h1, v0, v1, v2, v3, .ref h2, v4, v5, v6, v7, v8, v9, v10, v11, v12, v13, v14, v15, v16, v17, v18, v19, v20, .int 0, v22])), (h1, .inl (k1, 8277, .inl (fun _ => 0))), (h2, .inl (k2, 8277, .inl (fun _ => 0)))] H := hP
  have hD : va_D A [(h0, .inr (14, [.ref h1, v0, v1, v2, v3, .ref h2, v4, v5, v6, v7, v8, v9, v10, v11, v12, v13, v14, v15, v16, v17, v18, v19, v20, .int 0, v22])), (h1, .inl (k1, 8277, .inl (fun _ => 0))), (h2, .inl (k2, 8277, .inl (fun _ => 0)))] := hD
  refine lv_aload_n hx hb dX11_save_5 rfl (lv_at hl 0 rfl) ?_
  refine lv_iconst (v := 1) hx hb dX11_save_6 (by decide) ?_
  refine va_put (D := D) (ci := 14) (v := .int 1) (ty := .boolean) (own := RX11) (C := RX11) (T := TX11) (N := 25) hx hb hts hi_X11 tyX11 tyX11_ok nmX11 hown hK hP hD hS 0 rfl rfl 6 (by decide) (hts (.fieldLink RX11 262 "CanalMapsModel" "isSaved" "Z") (List.mem_of_getElem? (i := 2) (by decide +kernel))) (fun _ h9 => h9) rfl (by decide +kernel) rfl rfl (Nat.le_of_ble_eq_true rfl) dX11_save_7 (fun H locs hP hD hS => ?_)
  have hP : va_P D vwCl [(h0, .inr (14, [.ref h1, v0, v1, v2, v3, .ref h2, .int 1, v5, v6, v7, v8, v9, v10, v11, v12, v13, v14, v15, v16, v17, v18, v19, v20, .int 0, v22])), (h1, .inl (k1, 8277, .inl (fun _ => 0))), (h2, .inl (k2, 8277, .inl (fun _ => 0)))] H := hP
  have hD : va_D A [(h0, .inr (14, [.ref h1, v0, v1, v2, v3, .ref h2, .int 1, v5, v6, v7, v8, v9, v10, v11, v12, v13, v14, v15, v16, v17, v18, v19, v20, .int 0, v22])), (h1, .inl (k1, 8277, .inl (fun _ => 0))), (h2, .inl (k2, 8277, .inl (fun _ => 0)))] := hD
  refine lv_aload_n hx hb dX11_save_10 rfl (lv_at hl 0 rfl) ?_
  refine va_get (D := D) (ci := 14) (v := .ref h1) (own := RX11) (C := RX11) (T := TX11) (N := 25) hx hb hts hi_X11 hown hK hP 0 rfl rfl 0 (by decide) (hts (.fieldLink RX11 9 "CanalMapsModel" "now" "[I") (List.mem_of_getElem? (i := 3) (by decide +kernel))) (fun _ h9 => h9) rfl dX11_save_11 ?_
  refine lv_aload_n hx hb dX11_save_14 rfl (lv_at hl 0 rfl) ?_
  refine va_get (D := D) (ci := 14) (v := .ref h2) (own := RX11) (C := RX11) (T := TX11) (N := 25) hx hb hts hi_X11 hown hK hP 0 rfl rfl 5 (by decide) (hts (.fieldLink RX11 23 "CanalMapsModel" "saved" "[I") (List.mem_of_getElem? (i := 4) (by decide +kernel))) (fun _ h9 => h9) rfl dX11_save_15 ?_
  refine kc_ (wc := [(h1, .inl (k1, 8277, .inl (fun _ => 0))), (h2, .inl (k2, 8277, .inl (fun _ => 0)))]) (wr := [(h0, .inr (14, [.ref h1, v0, v1, v2, v3, .ref h2, .int 1, v5, v6, v7, v8, v9, v10, v11, v12, v13, v14, v15, v16, v17, v18, v19, v20, .int 0, v22]))]) (va_runS (As := [.ref h1, .ref h2]) (rest := []) ⟨hx, hb, hml, hown, hts⟩ (c_X11_copies_0 l hl0 D ad H.size h1 h2 k1 k2) (va_cwS 2 hts gX11_save_X11_copies rfl rfl rfl (by decide +kernel) ⟨Nat.le_of_ble_eq_true rfl, Nat.le_of_ble_eq_true rfl⟩) ⟨PC_.blind, PC_.pre hF hK hP hD hS hA [1, 2] [0, 1] rfl (by decide) rfl⟩ rfl rfl hl.1 rfl (lv_room (Nat.le_of_ble_eq_true rfl)) dX11_save_18 ⟨Nat.le_of_ble_eq_true rfl, Nat.le_of_ble_eq_true rfl⟩) hK hP hD hS hA [1, 2] [0] [] rfl rfl (by decide) (by decide) rfl (fun qa_1 ka_1 ia_1 H locs hpo hP hD hK hS => ?_)
  have hP : va_P D vwCl [(h0, .inr (14, [.ref h1, v0, v1, v2, v3, .ref h2, .int 1, v5, v6, v7, v8, v9, v10, v11, v12, v13, v14, v15, v16, v17, v18, v19, v20, .int 0, v22])), (h1, .inl (k1, 8277, .inl (fun _ => 0))), (h2, .inl (k2, 8277, .inl (fun _ => 0)))] H := hP
  have hD : va_D A [(h0, .inr (14, [.ref h1, v0, v1, v2, v3, .ref h2, .int 1, v5, v6, v7, v8, v9, v10, v11, v12, v13, v14, v15, v16, v17, v18, v19, v20, .int 0, v22])), (h1, .inl (k1, 8277, .inl (fun _ => 0))), (h2, .inl (k2, 8277, .inl (fun _ => 0)))] := hD
  have hK : va_K D vwCl [(k1, .int), (k2, .int)] s := hK
  refine W.eq (g2 := F0 m 21 ls []) rfl ?_
  refine lv_aload_n hx hb dX11_save_21 rfl (lv_at hl 0 rfl) ?_
  refine va_get (D := D) (ci := 14) (v := .ref h1) (own := RX11) (C := RX11) (T := TX11) (N := 25) hx hb hts hi_X11 hown hK hP 0 rfl rfl 0 (by decide) (hts (.fieldLink RX11 9 "CanalMapsModel" "now" "[I") (List.mem_of_getElem? (i := 3) (by decide +kernel))) (fun _ h9 => h9) rfl dX11_save_22 ?_
  refine lv_iconst (v := 0) hx hb dX11_save_25 (by decide) ?_
  refine va_iald hx hb hK hP 1 0 rfl rfl (vin_ (by decide +kernel)) dX11_save_26 ?_
  refine kt_ (v := 0) (by decide +kernel) ?_
  refine W.widen (k := 0) (n := 0) (Nat.le_of_ble_eq_true rfl) (Nat.le_of_ble_eq_true rfl) ?_
  exact W.iret (v := 0) hx hb hr (QG_.mk (fun _ => 0) (fun _ => 0) (fun _ => 0) [0, 1, 2] [0, 1] hP hD hK hS rfl trivial rfl (by decide) rfl) hS.2.2 dX11_save_27
set_option maxHeartbeats 4000000 in
set_option maxRecDepth 100000 in
theorem c_X10_restore_0 (l : Launch) (hl0 : l.stackTraces = false) (D : va_G) (ad : Nat → Nat) (sz : Nat) (h0 : Nat) (v0 : Value) (v1 : Value) (v2 : Value) (v3 : Value) (v4 : Value) (v5 : Value) (v6 : Value) (v7 : Value) (v8 : Value) : vx_Met l yX10_restore wsX10_restore ({ frames := 6, cells := 1, slots := 6, locals := 100 }) (PC_ D ad [(h0, .inr (13, [v0, v1, v2, v3, v4, v5, v6, .int 0, v7, v8]))] [] sz [.ref h0]) QN_ (XT_ "java/lang/IllegalStateException" (va_A [(h0, .inr (13, [v0, v1, v2, v3, v4, v5, v6, .int 0, v7, v8]))] sz)) 1 6 (va_A [(h0, .inr (13, [v0, v1, v2, v3, v4, v5, v6, .int 0, v7, v8]))] sz) := by
  refine vx_ofW (cc := cX10_restore) (maxL := 1) (ret := (some .int)) (by decide) rfl ?_
  intro p e s m args below meth c s₁ B hml htab hv
  obtain ⟨rfl, hsz, hP, hK, hD0, hF⟩ := hv
  have hx := B.exec
  have hb := B.bytes
  have hr := B.returns
  have hts := atoms_spec (ws := wsX10_restore) B.pre
  have hown : s.vm.findClass RX10 = some m.cls := findClass_of_methodNamed B.named
  have hlocks := B.notSynchronized
  subst hsz
  have hD := hD0.self (sz := s.heap.size)
  generalize hAe : va_A [(h0, .inr (13, [v0, v1, v2, v3, v4, v5, v6, .int 0, v7, v8]))] s.heap.size = A at hD hF ⊢
  have hA : ∀ q : Nat, s.heap.size ≤ q → A q := fun q h => by rw [← hAe]; exact Or.inr h
  obtain ⟨H, hHe⟩ : ∃ H : Heap, H = s.heap := ⟨_, rfl⟩
  have hS : va_S A s.heap H [] := by rw [hHe]; exact va_S.rf
  have hP : va_P D vwCl [(h0, .inr (13, [v0, v1, v2, v3, v4, v5, v6, .int 0, v7, v8]))] H := by rw [hHe]; exact hP
  rw [← hHe]
  have hi_X10 : ∀ w ∈ wsX100, w ∈ wsX10_restore := by decide +kernel
  have hl := lv_entry [.ref h0] (n := 1) (Nat.le_of_ble_eq_true rfl)
  rw [lg_entry_eq]
  generalize (lg_sl [.ref h0] ++ List.replicate (1 - (lg_sl [.ref h0]).length) Slot.unset).toArray = ls at hl ⊢
  have hl : lv_has ls 1 [(0, .ref h0)] := hl
  refine lv_aload_n hx hb dX10_restore_0 rfl (lv_at hl 0 rfl) ?_
  refine va_get (D := D) (ci := 13) (v := .int 0) (own := RX10) (C := RX10) (T := TX10) (N := 10) hx hb hts hi_X10 hown hK hP 0 rfl rfl 7 (by decide) (hts (.fieldLink RX10 30 "CanalMaps" "isSaved" "Z") (List.mem_of_getElem? (i := 3) (by decide +kernel))) (fun _ h9 => h9) rfl dX10_restore_1 ?_
  refine lv_if_ne (tgt := 18) hx hb dX10_restore_4 (by decide) (fun c9 => absurd (by decide +kernel) c9) (fun _ => ?_)
  obtain ⟨sa9, hstr⟩ := fxs_ hF RX10 389 "there is no snapshot"
  exact vx_throwSW (own := RX10) (cls := "java/lang/IllegalStateException") (names := ["java/lang/RuntimeException", "java/lang/Exception"]) hx hb hl0 hown (by decide +kernel) (by decide +kernel) (hts (.classLink RX10 268 "java/lang/IllegalStateException") (List.mem_of_getElem? (i := 1) (by decide +kernel))) (hts (.initialized "java/lang/IllegalStateException") (List.mem_of_getElem? (i := 2) (by decide +kernel))) hstr (fxw_ hts (by decide +kernel) (by decide +kernel)) (by decide +kernel) hF.2.2.2.2.1 hF.2.2.2.2.2.1 hS (by rw [hml]; exact hl.1) dX10_restore_7 dX10_restore_10 dX10_restore_11 dX10_restore_14 dX10_restore_17 (fun x9 hx9 => (htab x9 hx9).elim) (Nat.le_of_ble_eq_true rfl) (Nat.le_of_ble_eq_true rfl) (Nat.le_of_ble_eq_true rfl) (Nat.le_of_ble_eq_true rfl) hlocks (fun t9 _ hz9 hq9 => ⟨rfl, xt_ hS hz9 hq9⟩) hS.2.2 (Nat.le_of_ble_eq_true rfl) (Nat.le_of_ble_eq_true rfl)
set_option maxHeartbeats 4000000 in
set_option maxRecDepth 100000 in
theorem c_L_restore_0 (l : Launch) (hl0 : l.stackTraces = false) (D : va_G) (ad : Nat → Nat) (sz : Nat) (h0 : Nat) (r0 : Nat) (v0 : Value) (v1 : Value) (v2 : Value) (v3 : Value) (v4 : Value) (v5 : Value) (v6 : Value) (v7 : Value) (v8 : Value) : Met l yL_restore wsL_restore ({ frames := 7, cells := 1, slots := 6, locals := 122 }) (PC_ D ad [(h0, .inr (13, [v0, v1, v2, v3, v4, v5, v6, .int 0, v7, v8]))] [] sz [.ref h0, .ref r0]) (QG_ D (fun q i => some (.int 1)) (fun q i => True) (fun q k i => []) (fun q k i => []) (va_A [(h0, .inr (13, [v0, v1, v2, v3, v4, v5, v6, .int 0, v7, v8]))] sz)) 1 6 (va_A [(h0, .inr (13, [v0, v1, v2, v3, v4, v5, v6, .int 0, v7, v8]))] sz) := by
  refine va_MetW (cc := cL_restore) (maxL := 3) (ret := (some .int)) (by decide) rfl ?_
  intro p e s m args below meth c s₁ B hml hv
  obtain ⟨rfl, hsz, hP, hK, hD0, hF⟩ := hv
  have hx := B.exec
  have hb := B.bytes
  have hr := B.returns
  have hts := atoms_spec (ws := wsL_restore) B.pre
  have hown : s.vm.findClass RL = some m.cls := findClass_of_methodNamed B.named
  have hlocks := B.notSynchronized
  have htb := vx_table B (hts _ (List.mem_cons_self))
  subst hsz
  have hD := hD0.self (sz := s.heap.size)
  generalize hAe : va_A [(h0, .inr (13, [v0, v1, v2, v3, v4, v5, v6, .int 0, v7, v8]))] s.heap.size = A at hD hF ⊢
  have hA : ∀ q : Nat, s.heap.size ≤ q → A q := fun q h => by rw [← hAe]; exact Or.inr h
  obtain ⟨H, hHe⟩ : ∃ H : Heap, H = s.heap := ⟨_, rfl⟩
  have hS : va_S A s.heap H [] := by rw [hHe]; exact va_S.rf
  have hP : va_P D vwCl [(h0, .inr (13, [v0, v1, v2, v3, v4, v5, v6, .int 0, v7, v8]))] H := by rw [hHe]; exact hP
  rw [← hHe]
  have hi_X10 : ∀ w ∈ wsX100, w ∈ wsL_restore := by decide +kernel
  have hl := lv_entry [.ref h0, .ref r0] (n := 3) (Nat.le_of_ble_eq_true rfl)
  rw [lg_entry_eq]
  generalize (lg_sl [.ref h0, .ref r0] ++ List.replicate (3 - (lg_sl [.ref h0, .ref r0]).length) Slot.unset).toArray = ls at hl ⊢
  have hl : lv_has ls 3 [(0, .ref h0), (1, .ref r0)] := hl
  refine lv_aload_n hx hb dL_restore_0 rfl (lv_at hl 1 rfl) ?_
  refine lv_iconst (v := 0) hx hb dL_restore_1 (by decide) ?_
  refine lv_aload_n hx hb dL_restore_2 rfl (lv_at hl 0 rfl) ?_
  refine kx_ (E0 := "java/lang/IllegalStateException") (wc := [(h0, .inr (13, [v0, v1, v2, v3, v4, v5, v6, .int 0, v7, v8]))]) (vx_runV (As := []) (rest := [.int 0, .ref r0]) ⟨hx, hb, hml, hown, hts⟩ (c_X10_restore_0 l hl0 D ad H.size h0 (v0) (v1) (v2) (v3) (v4) (v5) (v6) (v7) (v8)) (cwV 0 hts gL_restore_X10_restore rfl rfl rfl (by decide +kernel) ⟨Nat.le_of_ble_eq_true rfl, Nat.le_of_ble_eq_true rfl⟩) ⟨PC_.blind, va_recv hK hP (ci := 13) (q0 := 0) rfl rfl, PC_.pre hF hK hP hD hS hA [0] [] rfl (by decide) rfl⟩ rfl rfl hl.1 rfl (lv_room (Nat.le_of_ble_eq_true rfl)) dL_restore_3 ⟨Nat.le_of_ble_eq_true rfl, Nat.le_of_ble_eq_true rfl⟩) hD hS hA [0] rfl (fun ce q9 H locs hS hce hvm hcl => ?_)
  refine vx_catch (own := RL) (name := "java/lang/IllegalStateException") (E := "java/lang/IllegalStateException") hown [] (⟨0, 8, 11, 95⟩ : ExceptionTableEntry) [] (htb.trans rfl) (fun z hz => by cases hz) (by decide) (by decide) (hts (.classLink RL 95 "java/lang/IllegalStateException") (List.mem_of_getElem? (i := 1) (by decide +kernel))) (fxk_ hF "java/lang/IllegalStateException" "java/lang/IllegalStateException") hce hvm hcl ?_
  have hP : va_P D vwCl [] H := fun k q h => by simp at h
  have hD : va_D A [] := ⟨fun i j p q h => by simp at h, fun k q h => by simp at h⟩
  have hK : va_K D vwCl [] s := ⟨hK.1, fun k q h => by simp at h⟩
  refine W.eq (g2 := F0 m 11 ls [.ref q9]) rfl ?_
  refine lv_astore_n (lv' := [(2, .ref q9), (0, .ref h0), (1, .ref r0)]) hx hb dL_restore_11 rfl hl (by decide) rfl (fun ls hl => ?_)
  refine lv_iconst (v := 1) hx hb dL_restore_12 (by decide) ?_
  refine W.widen (k := 1) (n := 6) (Nat.le_of_ble_eq_true rfl) (Nat.le_of_ble_eq_true rfl) ?_
  exact W.iret (v := 1) hx hb hr (QG_.mk (fun _ => 0) (fun _ => 0) (fun _ => 0) [] [] hP hD hK hS rfl trivial rfl (by decide) rfl) hS.2.2 dL_restore_13
set_option maxHeartbeats 4000000 in
set_option maxRecDepth 100000 in
theorem c_X11_restore_0 (l : Launch) (hl0 : l.stackTraces = false) (D : va_G) (ad : Nat → Nat) (sz : Nat) (h0 : Nat) (v0 : Value) (v1 : Value) (v2 : Value) (v3 : Value) (v4 : Value) (v5 : Value) (v6 : Value) (v7 : Value) (v8 : Value) (v9 : Value) (v10 : Value) (v11 : Value) (v12 : Value) (v13 : Value) (v14 : Value) (v15 : Value) (v16 : Value) (v17 : Value) (v18 : Value) (v19 : Value) (v20 : Value) (v21 : Value) (v22 : Value) (v23 : Value) : Met l yX11_restore wsX11_restore ({ frames := 1, cells := 0, slots := 0, locals := 23 }) (PC_ D ad [(h0, .inr (14, [v0, v1, v2, v3, v4, v5, .int 0, v6, v7, v8, v9, v10, v11, v12, v13, v14, v15, v16, v17, v18, v19, v20, v21, v22, v23]))] [] sz [.ref h0]) (QG_ D (fun q i => some (.int 0)) (fun q i => True) (fun q k i => [(h0, .inr (14, [v0, v1, v2, v3, v4, v5, .int 0, v6, v7, v8, v9, v10, v11, v12, v13, v14, v15, v16, v17, v18, v19, v20, v21, .int 1, v23]))]) (fun q k i => []) (va_A [(h0, .inr (14, [v0, v1, v2, v3, v4, v5, .int 0, v6, v7, v8, v9, v10, v11, v12, v13, v14, v15, v16, v17, v18, v19, v20, v21, v22, v23]))] sz)) 0 0 (va_A [(h0, .inr (14, [v0, v1, v2, v3, v4, v5, .int 0, v6, v7, v8, v9, v10, v11, v12, v13, v14, v15, v16, v17, v18, v19, v20, v21, v22, v23]))] sz) := by
  refine Met.ofW (cc := cX11_restore) (maxL := 1) (ret := (some .int)) (by decide) rfl ?_
  intro p e s m args below meth c s₁ B hml hv
  obtain ⟨rfl, hsz, hP, hK, hD0, hF⟩ := hv
  have hx := B.exec
  have hb := B.bytes
  have hr := B.returns
  have hts := atoms_spec (ws := wsX11_restore) B.pre
  have hown : s.vm.findClass RX11 = some m.cls := findClass_of_methodNamed B.named
  have hlocks := B.notSynchronized
  subst hsz
  have hD := hD0.self (sz := s.heap.size)
  generalize hAe : va_A [(h0, .inr (14, [v0, v1, v2, v3, v4, v5, .int 0, v6, v7, v8, v9, v10, v11, v12, v13, v14, v15, v16, v17, v18, v19, v20, v21, v22, v23]))] s.heap.size = A at hD hF ⊢
  have hA : ∀ q : Nat, s.heap.size ≤ q → A q := fun q h => by rw [← hAe]; exact Or.inr h
  obtain ⟨H, hHe⟩ : ∃ H : Heap, H = s.heap := ⟨_, rfl⟩
  have hS : va_S A s.heap H [] := by rw [hHe]; exact va_S.rf
  have hP : va_P D vwCl [(h0, .inr (14, [v0, v1, v2, v3, v4, v5, .int 0, v6, v7, v8, v9, v10, v11, v12, v13, v14, v15, v16, v17, v18, v19, v20, v21, v22, v23]))] H := by rw [hHe]; exact hP
  rw [← hHe]
  have hi_X11 : ∀ w ∈ wsX110, w ∈ wsX11_restore := by decide +kernel
  have hl := lv_entry [.ref h0] (n := 1) (Nat.le_of_ble_eq_true rfl)
  rw [lg_entry_eq]
  generalize (lg_sl [.ref h0] ++ List.replicate (1 - (lg_sl [.ref h0]).length) Slot.unset).toArray = ls at hl ⊢
  have hl : lv_has ls 1 [(0, .ref h0)] := hl
  refine lv_aload_n hx hb dX11_restore_0 rfl (lv_at hl 0 rfl) ?_
  refine lv_iconst (v := 0) hx hb dX11_restore_1 (by decide) ?_
  refine va_put (D := D) (ci := 14) (v := .int 0) (ty := .int) (own := RX11) (C := RX11) (T := TX11) (N := 25) hx hb hts hi_X11 tyX11 tyX11_ok nmX11 hown hK hP hD hS 0 rfl rfl 23 (by decide) (hts (.fieldLink RX11 47 "CanalMapsModel" "thrown" "I") (List.mem_of_getElem? (i := 1) (by decide +kernel))) (fun _ h9 => h9) rfl (by decide +kernel) rfl rfl (Nat.le_of_ble_eq_true rfl) dX11_restore_2 (fun H locs hP hD hS => ?_)
  have hP : va_P D vwCl [(h0, .inr (14, [v0, v1, v2, v3, v4, v5, .int 0, v6, v7, v8, v9, v10, v11, v12, v13, v14, v15, v16, v17, v18, v19, v20, v21, .int 0, v23]))] H := hP
  have hD : va_D A [(h0, .inr (14, [v0, v1, v2, v3, v4, v5, .int 0, v6, v7, v8, v9, v10, v11, v12, v13, v14, v15, v16, v17, v18, v19, v20, v21, .int 0, v23]))] := hD
  refine lv_aload_n hx hb dX11_restore_5 rfl (lv_at hl 0 rfl) ?_
  refine va_get (D := D) (ci := 14) (v := .int 0) (own := RX11) (C := RX11) (T := TX11) (N := 25) hx hb hts hi_X11 hown hK hP 0 rfl rfl 6 (by decide) (hts (.fieldLink RX11 262 "CanalMapsModel" "isSaved" "Z") (List.mem_of_getElem? (i := 2) (by decide +kernel))) (fun _ h9 => h9) rfl dX11_restore_6 ?_
  refine lv_if_ne (tgt := 18) hx hb dX11_restore_9 (by decide) (fun c9 => absurd (by decide +kernel) c9) (fun _ => ?_)
  refine lv_aload_n hx hb dX11_restore_12 rfl (lv_at hl 0 rfl) ?_
  refine lv_iconst (v := 1) hx hb dX11_restore_13 (by decide) ?_
  refine kc_ (wc := [(h0, .inr (14, [v0, v1, v2, v3, v4, v5, .int 0, v6, v7, v8, v9, v10, v11, v12, v13, v14, v15, v16, v17, v18, v19, v20, v21, .int 0, v23]))]) (wr := []) (va_runV (As := [.int 1]) (rest := []) ⟨hx, hb, hml, hown, hts⟩ (c_X11_raises_0 l hl0 D ad H.size h0 (v0) (v1) (v2) (v3) (v4) (v5) (.int 0) (v6) (v7) (v8) (v9) (v10) (v11) (v12) (v13) (v14) (v15) (v16) (v17) (v18) (v19) (v20) (v21) (.int 0) (v23)) (cwV 1 hts gX11_restore_X11_raises rfl rfl rfl (by decide +kernel) ⟨Nat.le_of_ble_eq_true rfl, Nat.le_of_ble_eq_true rfl⟩) ⟨PC_.blind, va_recv hK hP (ci := 14) (q0 := 0) rfl rfl, PC_.pre hF hK hP hD hS hA [0] [] rfl (by decide) rfl⟩ rfl rfl hl.1 rfl (lv_room (Nat.le_of_ble_eq_true rfl)) dX11_restore_14 ⟨Nat.le_of_ble_eq_true rfl, Nat.le_of_ble_eq_true rfl⟩) hK hP hD hS hA [0] [] [] rfl rfl (by decide) (by decide) rfl (fun qa_1 ka_1 ia_1 H locs hpo hP hD hK hS => ?_)
  have hP : va_P D vwCl [(h0, .inr (14, [v0, v1, v2, v3, v4, v5, .int 0, v6, v7, v8, v9, v10, v11, v12, v13, v14, v15, v16, v17, v18, v19, v20, v21, .int 1, v23]))] H := hP
  have hD : va_D A [(h0, .inr (14, [v0, v1, v2, v3, v4, v5, .int 0, v6, v7, v8, v9, v10, v11, v12, v13, v14, v15, v16, v17, v18, v19, v20, v21, .int 1, v23]))] := hD
  have hK : va_K D vwCl [] s := hK
  refine W.eq (g2 := F0 m 17 ls [.int 0]) rfl ?_
  refine W.widen (k := 0) (n := 0) (Nat.le_of_ble_eq_true rfl) (Nat.le_of_ble_eq_true rfl) ?_
  exact W.iret (v := 0) hx hb hr (QG_.mk (fun _ => 0) (fun _ => 0) (fun _ => 0) [0] [] hP hD hK hS rfl trivial rfl (by decide) rfl) hS.2.2 dX11_restore_17
