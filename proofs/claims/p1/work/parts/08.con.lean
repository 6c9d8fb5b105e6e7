set_option maxHeartbeats 4000000 in
set_option maxRecDepth 100000 in
theorem c_X11_tries_0 (l : Launch) (hl0 : l.stackTraces = false) (D : va_G) (ad : Nat → Nat) (sz : Nat) (h0 : Nat) (h1 : Nat) (h2 : Nat) (k1 : ClassId) (k2 : ClassId) (v0 : Value) (v1 : Value) (v2 : Value) (v3 : Value) (v4 : Value) (v5 : Value) (v6 : Value) (v7 : Value) (v8 : Value) (v9 : Value) (v10 : Value) (v11 : Value) (v12 : Value) (v13 : Value) (v14 : Value) (v15 : Value) (v16 : Value) (v17 : Value) (v18 : Value) (v19 : Value) (v20 : Value) (v21 : Value) : Met l yX11_tries wsX11_tries ({ frames := 1, cells := 0, slots := 0, locals := 25 }) (PC_ D ad [(h0, .inr (14, [.ref h1, .ref h2, v0, v1, v2, v3, v4, v5, .int 0, v6, v7, v8, v9, v10, v11, v12, v13, v14, v15, v16, v17, v18, v19, v20, v21])), (h1, .inl (k1, 8277, .inl (fun _ => 0))), (h2, .inl (k2, 8277, .inl (fun _ => 0)))] [(k1, .int), (k2, .int)] sz [.ref h0]) (QG_ D (fun q i => none) (fun q i => True) (fun q k i => [(h0, .inr (14, [.ref h1, .ref h2, v0, v1, v2, v3, v4, v5, .int 0, .int 0, v7, v8, v9, v10, v11, v12, v13, v14, v15, v16, v17, v18, v19, .int 0, v21])), (h1, .inl (k1, 8277, .inl (fun _ => 0))), (h2, .inl (k2, 8277, .inl (fun _ => 0)))]) (fun q k i => [(k1, .int), (k2, .int)]) (va_A [(h0, .inr (14, [.ref h1, .ref h2, v0, v1, v2, v3, v4, v5, .int 0, v6, v7, v8, v9, v10, v11, v12, v13, v14, v15, v16, v17, v18, v19, v20, v21])), (h1, .inl (k1, 8277, .inl (fun _ => 0))), (h2, .inl (k2, 8277, .inl (fun _ => 0)))] sz)) 0 0 (va_A [(h0, .inr (14, [.ref h1, .ref h2, v0, v1, v2, v3, v4, v5, .int 0, v6, v7, v8, v9, v10, v11, v12, v13, v14, v15, v16, v17, v18, v19, v20, v21])), (h1, .inl (k1, 8277, .inl (fun _ => 0))), (h2, .inl (k2, 8277, .inl (fun _ => 0)))] sz) := by
  refine Met.ofW (cc := cX11_tries) (maxL := 1) (ret := none) (by decide) rfl ?_
  intro p e s m args below meth c s₁ B hml hv
  obtain ⟨rfl, hsz, hP, hK, hD0, hF⟩ := hv
  have hx := B.exec
  have hb := B.bytes
  have hr := B.returns
  have hts := atoms_spec (ws := wsX11_tries) B.pre
  have hown : s.vm.findClass RX11 = some m.cls := findClass_of_methodNamed B.named
  have hlocks := B.notSynchronized
  subst hsz
  have hD := hD0.self (sz := s.heap.size)
  generalize hAe : va_A [(h0, .inr (14, [.ref h1, .ref h2, v0, v1, v2, v3, v4, v5, .int 0, v6, v7, v8, v9, v10, v11, v12, v13, v14, v15, v16, v17, v18, v19, v20, v21])), (h1, .inl (k1, 8277, .inl (fun _ => 0))), (h2, .inl (k2, 8277, .inl (fun _ => 0)))] s.heap.size = A at hD hF ⊢
  have hA : ∀ q : Nat, s.heap.size ≤ q → A q := fun q h => by rw [← hAe]; exact Or.inr h
  obtain ⟨H, hHe⟩ : ∃ H : Heap, H = s.heap := ⟨_, rfl⟩
  have hS : va_S A s.heap H [] := by rw [hHe]; exact va_S.rf
  have hP : va_P D vwCl [(h0, .inr (14, [.ref h1, .ref h2, v0, v1, v2, v3, v4, v5, .int 0, v6, v7, v8, v9, v10, v11, v12, v13, v14, v15, v16, v17, v18, v19, v20, v21])), (h1, .inl (k1, 8277, .inl (fun _ => 0))), (h2, .inl (k2, 8277, .inl (fun _ => 0)))] H := by rw [hHe]; exact hP
  rw [← hHe]
  have hi_X11 : ∀ w ∈ wsX110, w ∈ wsX11_tries := by decide +kernel
  have hl := lv_entry [.ref h0] (n := 1) (Nat.le_of_ble_eq_true rfl)
  rw [lg_entry_eq]
  generalize (lg_sl [.ref h0] ++ List.replicate (1 - (lg_sl [.ref h0]).length) Slot.unset).toArray = ls at hl ⊢
  have hl : lv_has ls 1 [(0, .ref h0)] := hl
  refine lv_aload_n hx hb dX11_tries_0 rfl (lv_at hl 0 rfl) ?_
  refine lv_iconst (v := 0) hx hb dX11_tries_1 (by decide) ?_
  refine va_put (D := D) (ci := 14) (v := .int 0) (ty := .int) (own := RX11) (C := RX11) (T := TX11) (N := 25) hx hb hts hi_X11 tyX11 tyX11_ok nmX11 hown hK hP hD hS 0 rfl rfl 23 (by decide) (hts (.fieldLink RX11 47 "CanalMapsModel" "thrown" "I") (List.mem_of_getElem? (i := 1) (by decide +kernel))) (fun _ h9 => h9) rfl (by decide +kernel) rfl rfl (Nat.le_of_ble_eq_true rfl) dX11_tries_2 (fun H locs hP hD hS => ?_)
  have hP : va_P D vwCl [(h0, .inr (14, [.ref h1, .ref h2, v0, v1, v2, v3, v4, v5, .int 0, v6, v7, v8, v9, v10, v11, v12, v13, v14, v15, v16, v17, v18, v19, .int 0, v21])), (h1, .inl (k1, 8277, .inl (fun _ => 0))), (h2, .inl (k2, 8277, .inl (fun _ => 0)))] H := hP
  have hD : va_D A [(h0, .inr (14, [.ref h1, .ref h2, v0, v1, v2, v3, v4, v5, .int 0, v6, v7, v8, v9, v10, v11, v12, v13, v14, v15, v16, v17, v18, v19, .int 0, v21])), (h1, .inl (k1, 8277, .inl (fun _ => 0))), (h2, .inl (k2, 8277, .inl (fun _ => 0)))] := hD
  refine lv_aload_n hx hb dX11_tries_5 rfl (lv_at hl 0 rfl) ?_
  refine va_get (D := D) (ci := 14) (v := .ref h1) (own := RX11) (C := RX11) (T := TX11) (N := 25) hx hb hts hi_X11 hown hK hP 0 rfl rfl 0 (by decide) (hts (.fieldLink RX11 9 "CanalMapsModel" "now" "[I") (List.mem_of_getElem? (i := 2) (by decide +kernel))) (fun _ h9 => h9) rfl dX11_tries_6 ?_
  refine lv_aload_n hx hb dX11_tries_9 rfl (lv_at hl 0 rfl) ?_
  refine va_get (D := D) (ci := 14) (v := .ref h2) (own := RX11) (C := RX11) (T := TX11) (N := 25) hx hb hts hi_X11 hown hK hP 0 rfl rfl 1 (by decide) (hts (.fieldLink RX11 13 "CanalMapsModel" "tried" "[I") (List.mem_of_getElem? (i := 3) (by decide +kernel))) (fun _ h9 => h9) rfl dX11_tries_10 ?_
  refine kc_ (wc := [(h1, .inl (k1, 8277, .inl (fun _ => 0))), (h2, .inl (k2, 8277, .inl (fun _ => 0)))]) (wr := [(h0, .inr (14, [.ref h1, .ref h2, v0, v1, v2, v3, v4, v5, .int 0, v6, v7, v8, v9, v10, v11, v12, v13, v14, v15, v16, v17, v18, v19, .int 0, v21]))]) (va_runS (As := [.ref h1, .ref h2]) (rest := []) ⟨hx, hb, hml, hown, hts⟩ (c_X11_copies_0 l hl0 D ad H.size h1 h2 k1 k2) (va_cwS 2 hts gX11_tries_X11_copies rfl rfl rfl (by decide +kernel) ⟨Nat.le_of_ble_eq_true rfl, Nat.le_of_ble_eq_true rfl⟩) ⟨PC_.blind, PC_.pre hF hK hP hD hS hA [1, 2] [0, 1] rfl (by decide) rfl⟩ rfl rfl hl.1 rfl (lv_room (Nat.le_of_ble_eq_true rfl)) dX11_tries_13 ⟨Nat.le_of_ble_eq_true rfl, Nat.le_of_ble_eq_true rfl⟩) hK hP hD hS hA [1, 2] [0] [] rfl rfl (by decide) (by decide) rfl (fun qa_1 ka_1 ia_1 H locs hpo hP hD hK hS => ?_)
  have hP : va_P D vwCl [(h0, .inr (14, [.ref h1, .ref h2, v0, v1, v2, v3, v4, v5, .int 0, v6, v7, v8, v9, v10, v11, v12, v13, v14, v15, v16, v17, v18, v19, .int 0, v21])), (h1, .inl (k1, 8277, .inl (fun _ => 0))), (h2, .inl (k2, 8277, .inl (fun _ => 0)))] H := hP
  have hD : va_D A [(h0, .inr (14, [.ref h1, .ref h2, v0, v1, v2, v3, v4, v5, .int 0, v6, v7, v8, v9, v10, v11, v12, v13, v14, v15, v16, v17, v18, v19, .int 0, v21])), (h1, .inl (k1, 8277, .inl (fun _ => 0))), (h2, .inl (k2, 8277, .inl (fun _ => 0)))] := hD
  have hK : va_K D vwCl [(k1, .int), (k2, .int)] s := hK
  refine W.eq (g2 := F0 m 16 ls []) rfl ?_
  refine lv_aload_n hx hb dX11_tries_16 rfl (lv_at hl 0 rfl) ?_
  refine lv_aload_n hx hb dX11_tries_17 rfl (lv_at hl 0 rfl) ?_
  refine va_get (D := D) (ci := 14) (v := .int 0) (own := RX11) (C := RX11) (T := TX11) (N := 25) hx hb hts hi_X11 hown hK hP 0 rfl rfl 8 (by decide) (hts (.fieldLink RX11 54 "CanalMapsModel" "pageCount" "I") (List.mem_of_getElem? (i := 4) (by decide +kernel))) (fun _ h9 => h9) rfl dX11_tries_18 ?_
  refine va_put (D := D) (ci := 14) (v := .int 0) (ty := .int) (own := RX11) (C := RX11) (T := TX11) (N := 25) hx hb hts hi_X11 tyX11 tyX11_ok nmX11 hown hK hP hD hS 0 rfl rfl 9 (by decide) (hts (.fieldLink RX11 57 "CanalMapsModel" "triedPages" "I") (List.mem_of_getElem? (i := 5) (by decide +kernel))) (fun _ h9 => h9) rfl (by decide +kernel) rfl rfl (Nat.le_of_ble_eq_true rfl) dX11_tries_21 (fun H locs hP hD hS => ?_)
  have hP : va_P D vwCl [(h0, .inr (14, [.ref h1, .ref h2, v0, v1, v2, v3, v4, v5, .int 0, .int 0, v7, v8, v9, v10, v11, v12, v13, v14, v15, v16, v17, v18, v19, .int 0, v21])), (h1, .inl (k1, 8277, .inl (fun _ => 0))), (h2, .inl (k2, 8277, .inl (fun _ => 0)))] H := hP
  have hD : va_D A [(h0, .inr (14, [.ref h1, .ref h2, v0, v1, v2, v3, v4, v5, .int 0, .int 0, v7, v8, v9, v10, v11, v12, v13, v14, v15, v16, v17, v18, v19, .int 0, v21])), (h1, .inl (k1, 8277, .inl (fun _ => 0))), (h2, .inl (k2, 8277, .inl (fun _ => 0)))] := hD
  refine W.widen (k := 0) (n := 0) (Nat.le_of_ble_eq_true rfl) (Nat.le_of_ble_eq_true rfl) ?_
  exact W.vret hx hb hr (QG_.mk (fun _ => 0) (fun _ => 0) (fun _ => 0) [0, 1, 2] [0, 1] hP hD hK hS rfl trivial rfl (by decide) rfl) hS.2.2 dX11_tries_24
set_option maxHeartbeats 4000000 in
set_option maxRecDepth 100000 in
theorem c_X11_map_0 (l : Launch) (hl0 : l.stackTraces = false) (D : va_G) (ad : Nat → Nat) (sz : Nat) (h0 : Nat) (h1 : Nat) (k1 : ClassId) (v0 : Value) (v1 : Value) (v2 : Value) (v3 : Value) (v4 : Value) (v5 : Value) (v6 : Value) (v7 : Value) (v8 : Value) (v9 : Value) (v10 : Value) (v11 : Value) (v12 : Value) (v13 : Value) (v14 : Value) (v15 : Value) (v16 : Value) (v17 : Value) (v18 : Value) (v19 : Value) (v20 : Value) (v21 : Value) (v22 : Value) (v23 : Value) : Met l yX11_map wsX11_map ({ frames := 0, cells := 0, slots := 0, locals := 0 }) (PC_ D ad [(h0, .inr (14, [.ref h1, v0, v1, v2, v3, v4, v5, v6, v7, v8, v9, v10, v11, v12, v13, v14, v15, v16, v17, v18, v19, v20, v21, v22, v23])), (h1, .inl (k1, 8277, .inl (upd (fun _ => 0) 0 1)))] [(k1, .int)] sz [.ref h0, .int 0, .int 0]) (QG_ D (fun q i => some (.int (-1))) (fun q i => True) (fun q k i => [(h0, .inr (14, [.ref h1, v0, v1, v2, v3, v4, v5, v6, v7, v8, v9, v10, v11, v12, v13, v14, v15, v16, v17, v18, v19, v20, v21, v22, v23])), (h1, .inl (k1, 8277, .inl (upd (fun _ => 0) 0 1)))]) (fun q k i => [(k1, .int)]) (va_A [(h0, .inr (14, [.ref h1, v0, v1, v2, v3, v4, v5, v6, v7, v8, v9, v10, v11, v12, v13, v14, v15, v16, v17, v18, v19, v20, v21, v22, v23])), (h1, .inl (k1, 8277, .inl (upd (fun _ => 0) 0 1)))] sz)) 0 0 (va_A [(h0, .inr (14, [.ref h1, v0, v1, v2, v3, v4, v5, v6, v7, v8, v9, v10, v11, v12, v13, v14, v15, v16, v17, v18, v19, v20, v21, v22, v23])), (h1, .inl (k1, 8277, .inl (upd (fun _ => 0) 0 1)))] sz) := by
  refine Met.ofW (cc := cX11_map) (maxL := 3) (ret := (some .int)) (by decide) rfl ?_
  intro p e s m args below meth c s₁ B hml hv
  obtain ⟨rfl, hsz, hP, hK, hD0, hF⟩ := hv
  have hx := B.exec
  have hb := B.bytes
  have hr := B.returns
  have hts := atoms_spec (ws := wsX11_map) B.pre
  have hown : s.vm.findClass RX11 = some m.cls := findClass_of_methodNamed B.named
  have hlocks := B.notSynchronized
  subst hsz
  have hD := hD0.self (sz := s.heap.size)
  generalize hAe : va_A [(h0, .inr (14, [.ref h1, v0, v1, v2, v3, v4, v5, v6, v7, v8, v9, v10, v11, v12, v13, v14, v15, v16, v17, v18, v19, v20, v21, v22, v23])), (h1, .inl (k1, 8277, .inl (upd (fun _ => 0) 0 1)))] s.heap.size = A at hD hF ⊢
  have hA : ∀ q : Nat, s.heap.size ≤ q → A q := fun q h => by rw [← hAe]; exact Or.inr h
  obtain ⟨H, hHe⟩ : ∃ H : Heap, H = s.heap := ⟨_, rfl⟩
  have hS : va_S A s.heap H [] := by rw [hHe]; exact va_S.rf
  have hP : va_P D vwCl [(h0, .inr (14, [.ref h1, v0, v1, v2, v3, v4, v5, v6, v7, v8, v9, v10, v11, v12, v13, v14, v15, v16, v17, v18, v19, v20, v21, v22, v23])), (h1, .inl (k1, 8277, .inl (upd (fun _ => 0) 0 1)))] H := by rw [hHe]; exact hP
  rw [← hHe]
  have hi_X11 : ∀ w ∈ wsX110, w ∈ wsX11_map := by decide +kernel
  have hl := lv_entry [.ref h0, .int 0, .int 0] (n := 3) (Nat.le_of_ble_eq_true rfl)
  rw [lg_entry_eq]
  generalize (lg_sl [.ref h0, .int 0, .int 0] ++ List.replicate (3 - (lg_sl [.ref h0, .int 0, .int 0]).length) Slot.unset).toArray = ls at hl ⊢
  have hl : lv_has ls 3 [(0, .ref h0), (1, .int 0), (2, .int 0)] := hl
  refine lv_aload_n hx hb dX11_map_0 rfl (lv_at hl 0 rfl) ?_
  refine va_get (D := D) (ci := 14) (v := .ref h1) (own := RX11) (C := RX11) (T := TX11) (N := 25) hx hb hts hi_X11 hown hK hP 0 rfl rfl 0 (by decide) (hts (.fieldLink RX11 9 "CanalMapsModel" "now" "[I") (List.mem_of_getElem? (i := 1) (by decide +kernel))) (fun _ h9 => h9) rfl dX11_map_1 ?_
  refine lv_bipush (v := 48) hx hb dX11_map_4 (by decide) ?_
  refine lv_bipush (v := 6) hx hb dX11_map_6 (by decide) ?_
  refine lv_iload_n hx hb dX11_map_8 rfl (lv_at hl 1 rfl) ?_
  refine lv_imul hx hb dX11_map_9 ?_
  refine kt_ (v := 0) (by decide +kernel) ?_
  refine lv_iadd hx hb dX11_map_10 ?_
  refine kt_ (v := 48) (by decide +kernel) ?_
  refine lv_iload_n hx hb dX11_map_11 rfl (lv_at hl 2 rfl) ?_
  refine lv_iadd hx hb dX11_map_12 ?_
  refine kt_ (v := 48) (by decide +kernel) ?_
  refine va_iald hx hb hK hP 1 0 rfl rfl (vin_ (by decide +kernel)) dX11_map_13 ?_
  refine kt_ (v := 0) (by decide +kernel) ?_
  refine lv_iconst (v := 1) hx hb dX11_map_14 (by decide) ?_
  refine lv_isub hx hb dX11_map_15 ?_
  refine kt_ (v := (-1)) (by decide +kernel) ?_
  refine W.widen (k := 0) (n := 0) (Nat.le_of_ble_eq_true rfl) (Nat.le_of_ble_eq_true rfl) ?_
  exact W.iret (v := (-1)) hx hb hr (QG_.mk (fun _ => 0) (fun _ => 0) (fun _ => 0) [0, 1] [0] hP hD hK hS rfl trivial rfl (by decide) rfl) hS.2.2 dX11_map_16
set_option maxHeartbeats 4000000 in
set_option maxRecDepth 100000 in
theorem c_X11_areNear_0 (l : Launch) (hl0 : l.stackTraces = false) (D : va_G) (ad : Nat → Nat) (sz : Nat) (r0 : Nat) : Met l yX11_areNear wsX11_areNear ({ frames := 0, cells := 0, slots := 0, locals := 0 }) (PC_ D ad [] [] sz [.ref r0, .int 0, .int 0]) (QG_ D (fun q i => some (.int 0)) (fun q i => True) (fun q k i => []) (fun q k i => []) (va_A [] sz)) 0 0 (va_A [] sz) := by
  refine Met.ofW (cc := cX11_areNear) (maxL := 3) (ret := (some .boolean)) (by decide) rfl ?_
  intro p e s m args below meth c s₁ B hml hv
  obtain ⟨rfl, hsz, hP, hK, hD0, hF⟩ := hv
  have hx := B.exec
  have hb := B.bytes
  have hr := B.returns
  have hts := atoms_spec (ws := wsX11_areNear) B.pre
  have hown : s.vm.findClass RX11 = some m.cls := findClass_of_methodNamed B.named
  have hlocks := B.notSynchronized
  subst hsz
  have hD := hD0.self (sz := s.heap.size)
  generalize hAe : va_A [] s.heap.size = A at hD hF ⊢
  have hA : ∀ q : Nat, s.heap.size ≤ q → A q := fun q h => by rw [← hAe]; exact Or.inr h
  obtain ⟨H, hHe⟩ : ∃ H : Heap, H = s.heap := ⟨_, rfl⟩
  have hS : va_S A s.heap H [] := by rw [hHe]; exact va_S.rf
  have hP : va_P D vwCl [] H := by rw [hHe]; exact hP
  rw [← hHe]
  have hl := lv_entry [.ref r0, .int 0, .int 0] (n := 3) (Nat.le_of_ble_eq_true rfl)
  rw [lg_entry_eq]
  generalize (lg_sl [.ref r0, .int 0, .int 0] ++ List.replicate (3 - (lg_sl [.ref r0, .int 0, .int 0]).length) Slot.unset).toArray = ls at hl ⊢
  have hl : lv_has ls 3 [(0, .ref r0), (1, .int 0), (2, .int 0)] := hl
  refine lv_iload_n hx hb dX11_areNear_0 rfl (lv_at hl 1 rfl) ?_
  refine lv_iload_n hx hb dX11_areNear_1 rfl (lv_at hl 2 rfl) ?_
  refine lv_icmp_eq (tgt := 31) hx hb dX11_areNear_2 (by decide) (fun _ => ?_) (fun c9 => absurd (by decide +kernel) c9)
  refine lv_iconst (v := 0) hx hb dX11_areNear_31 (by decide) ?_
  refine W.widen (k := 0) (n := 0) (Nat.le_of_ble_eq_true rfl) (Nat.le_of_ble_eq_true rfl) ?_
  exact W.zret (v := 0) hx hb hr rfl (QG_.mk (fun _ => 0) (fun _ => 0) (fun _ => 0) [] [] hP hD hK hS rfl trivial rfl (by decide) rfl) hS.2.2 dX11_areNear_32
set_option maxHeartbeats 4000000 in
set_option maxRecDepth 100000 in
theorem c_X11_floods_0 (l : Launch) (hl0 : l.stackTraces = false) (D : va_G) (ad : Nat → Nat) (sz : Nat) (h0 : Nat) (h1 : Nat) (k1 : ClassId) (v0 : Value) (v1 : Value) (v2 : Value) (v3 : Value) (v4 : Value) (v5 : Value) (v6 : Value) (v7 : Value) (v8 : Value) (v9 : Value) (v10 : Value) (v11 : Value) (v12 : Value) (v13 : Value) (v14 : Value) (v15 : Value) (v16 : Value) (v17 : Value) (v18 : Value) (v19 : Value) (v20 : Value) (v21 : Value) (v22 : Value) (v23 : Value) : Met l yX11_floods wsX11_floods ({ frames := 1, cells := 0, slots := 0, locals := 24 }) (PC_ D ad [(h0, .inr (14, [.ref h1, v0, v1, v2, v3, v4, v5, v6, v7, v8, v9, v10, v11, v12, v13, v14, v15, v16, v17, v18, v19, v20, v21, v22, v23])), (h1, .inl (k1, 8277, .inl (upd (upd (upd (fun _ => 0) 0 1) 48 1) 5 1)))] [(k1, .int)] sz [.ref h0, .int 0, .int (-1), .int 0]) (QG_ D (fun q i => none) (fun q i => True) (fun q k i => [(h0, .inr (14, [.ref h1, v0, v1, v2, v3, v4, v5, v6, v7, v8, v9, v10, v11, v12, v13, v14, v15, v16, v17, v18, v19, v20, v21, v22, v23])), (h1, .inl (k1, 8277, .inl (upd (upd (upd (fun _ => 0) 0 1) 48 1) 5 1)))]) (fun q k i => [(k1, .int)]) (va_A [(h0, .inr (14, [.ref h1, v0, v1, v2, v3, v4, v5, v6, v7, v8, v9, v10, v11, v12, v13, v14, v15, v16, v17, v18, v19, v20, v21, v22, v23])), (h1, .inl (k1, 8277, .inl (upd (upd (upd (fun _ => 0) 0 1) 48 1) 5 1)))] sz)) 0 0 (va_A [(h0, .inr (14, [.ref h1, v0, v1, v2, v3, v4, v5, v6, v7, v8, v9, v10, v11, v12, v13, v14, v15, v16, v17, v18, v19, v20, v21, v22, v23])), (h1, .inl (k1, 8277, .inl (upd (upd (upd (fun _ => 0) 0 1) 48 1) 5 1)))] sz) := by
  refine Met.ofW (cc := cX11_floods) (maxL := 5) (ret := none) (by decide) rfl ?_
  intro p e s m args below meth c s₁ B hml hv
  obtain ⟨rfl, hsz, hP, hK, hD0, hF⟩ := hv
  have hx := B.exec
  have hb := B.bytes
  have hr := B.returns
  have hts := atoms_spec (ws := wsX11_floods) B.pre
  have hown : s.vm.findClass RX11 = some m.cls := findClass_of_methodNamed B.named
  have hlocks := B.notSynchronized
  subst hsz
  have hD := hD0.self (sz := s.heap.size)
  generalize hAe : va_A [(h0, .inr (14, [.ref h1, v0, v1, v2, v3, v4, v5, v6, v7, v8, v9, v10, v11, v12, v13, v14, v15, v16, v17, v18, v19, v20, v21, v22, v23])), (h1, .inl (k1, 8277, .inl (upd (upd (upd (fun _ => 0) 0 1) 48 1) 5 1)))] s.heap.size = A at hD hF ⊢
  have hA : ∀ q : Nat, s.heap.size ≤ q → A q := fun q h => by rw [← hAe]; exact Or.inr h
  obtain ⟨H, hHe⟩ : ∃ H : Heap, H = s.heap := ⟨_, rfl⟩
  have hS : va_S A s.heap H [] := by rw [hHe]; exact va_S.rf
  have hP : va_P D vwCl [(h0, .inr (14, [.ref h1, v0, v1, v2, v3, v4, v5, v6, v7, v8, v9, v10, v11, v12, v13, v14, v15, v16, v17, v18, v19, v20, v21, v22, v23])), (h1, .inl (k1, 8277, .inl (upd (upd (upd (fun _ => 0) 0 1) 48 1) 5 1)))] H := by rw [hHe]; exact hP
  rw [← hHe]
  have hi_X11 : ∀ w ∈ wsX110, w ∈ wsX11_floods := by decide +kernel
  have hl := lv_entry [.ref h0, .int 0, .int (-1), .int 0] (n := 5) (Nat.le_of_ble_eq_true rfl)
  rw [lg_entry_eq]
  generalize (lg_sl [.ref h0, .int 0, .int (-1), .int 0] ++ List.replicate (5 - (lg_sl [.ref h0, .int 0, .int (-1), .int 0]).length) Slot.unset).toArray = ls at hl ⊢
  have hl : lv_has ls 5 [(0, .ref h0), (1, .int 0), (2, .int (-1)), (3, .int 0)] := hl
  refine lv_iconst (v := 0) hx hb dX11_floods_0 (by decide) ?_
  refine lv_istore (lv' := [(4, .int 0), (0, .ref h0), (1, .int 0), (2, .int (-1)), (3, .int 0)]) hx hb dX11_floods_1 hl (by decide) rfl (fun ls hl => ?_)
  refine lv_iload hx hb dX11_floods_3 (lv_at hl 0 rfl) ?_
  refine lv_aload_n hx hb dX11_floods_5 rfl (lv_at hl 1 rfl) ?_
  refine va_get (D := D) (ci := 14) (v := .ref h1) (own := RX11) (C := RX11) (T := TX11) (N := 25) hx hb hts hi_X11 hown hK hP 0 rfl rfl 0 (by decide) (hts (.fieldLink RX11 9 "CanalMapsModel" "now" "[I") (List.mem_of_getElem? (i := 1) (by decide +kernel))) (fun _ h9 => h9) rfl dX11_floods_6 ?_
  refine lv_iconst (v := 0) hx hb dX11_floods_9 (by decide) ?_
  refine va_iald hx hb hK hP 1 0 rfl rfl (vin_ (by decide +kernel)) dX11_floods_10 ?_
  refine kt_ (v := 1) (by decide +kernel) ?_
  refine lv_icmp_ge (tgt := 44) hx hb dX11_floods_11 (by decide) (fun c9 => absurd c9 (by decide +kernel)) (fun _ => ?_)
  refine lv_iload hx hb dX11_floods_14 (lv_at hl 0 rfl) ?_
  refine lv_iload_n hx hb dX11_floods_16 rfl (lv_at hl 3 rfl) ?_
  refine lv_icmp_eq (tgt := 38) hx hb dX11_floods_17 (by decide) (fun c9 => absurd c9 (by decide +kernel)) (fun _ => ?_)
  refine lv_aload_n hx hb dX11_floods_20 rfl (lv_at hl 1 rfl) ?_
  refine lv_iload_n hx hb dX11_floods_21 rfl (lv_at hl 2 rfl) ?_
  refine lv_iload hx hb dX11_floods_22 (lv_at hl 0 rfl) ?_
  refine kc_ (wc := []) (wr := [(h0, .inr (14, [.ref h1, v0, v1, v2, v3, v4, v5, v6, v7, v8, v9, v10, v11, v12, v13, v14, v15, v16, v17, v18, v19, v20, v21, v22, v23])), (h1, .inl (k1, 8277, .inl (upd (upd (upd (fun _ => 0) 0 1) 48 1) 5 1)))]) (va_runV (As := [.int 0, .int 0]) (rest := []) ⟨hx, hb, hml, hown, hts⟩ (c_X11_areNear_0 l hl0 D ad H.size h0) (cwV 2 hts gX11_floods_X11_areNear rfl rfl rfl (by decide +kernel) ⟨Nat.le_of_ble_eq_true rfl, Nat.le_of_ble_eq_true rfl⟩) ⟨PC_.blind, va_recv hK hP (ci := 14) (q0 := 0) rfl rfl, PC_.pre hF hK hP hD hS hA [] [] rfl (by decide) rfl⟩ rfl rfl hl.1 rfl (lv_room (Nat.le_of_ble_eq_true rfl)) dX11_floods_24 ⟨Nat.le_of_ble_eq_true rfl, Nat.le_of_ble_eq_true rfl⟩) hK hP hD hS hA [] [0, 1] [0] rfl rfl (by decide) (by decide) rfl (fun qa_1 ka_1 ia_1 H locs hpo hP hD hK hS => ?_)
  have hP : va_P D vwCl [(h0, .inr (14, [.ref h1, v0, v1, v2, v3, v4, v5, v6, v7, v8, v9, v10, v11, v12, v13, v14, v15, v16, v17, v18, v19, v20, v21, v22, v23])), (h1, .inl (k1, 8277, .inl (upd (upd (upd (fun _ => 0) 0 1) 48 1) 5 1)))] H := hP
  have hD : va_D A [(h0, .inr (14, [.ref h1, v0, v1, v2, v3, v4, v5, v6, v7, v8, v9, v10, v11, v12, v13, v14, v15, v16, v17, v18, v19, v20, v21, v22, v23])), (h1, .inl (k1, 8277, .inl (upd (upd (upd (fun _ => 0) 0 1) 48 1) 5 1)))] := hD
  have hK : va_K D vwCl [(k1, .int)] s := hK
  refine W.eq (g2 := F0 m 27 ls [.int 0]) rfl ?_
  refine lv_if_eq (tgt := 38) hx hb dX11_floods_27 (by decide) (fun _ => ?_) (fun c9 => absurd (by decide +kernel) c9)
  refine lv_iinc (v := 1) (lv' := [(4, .int 1), (0, .ref h0), (1, .int 0), (2, .int (-1)), (3, .int 0)]) hx hb dX11_floods_38 hl (k := 0) rfl (by decide +kernel) (by decide) rfl (fun ls hl => ?_)
  refine lv_goto (tgt := 3) hx hb dX11_floods_41 (by decide) ?_
  refine lv_iload hx hb dX11_floods_3 (lv_at hl 0 rfl) ?_
  refine lv_aload_n hx hb dX11_floods_5 rfl (lv_at hl 1 rfl) ?_
  refine va_get (D := D) (ci := 14) (v := .ref h1) (own := RX11) (C := RX11) (T := TX11) (N := 25) hx hb hts hi_X11 hown hK hP 0 rfl rfl 0 (by decide) (hts (.fieldLink RX11 9 "CanalMapsModel" "now" "[I") (List.mem_of_getElem? (i := 1) (by decide +kernel))) (fun _ h9 => h9) rfl dX11_floods_6 ?_
  refine lv_iconst (v := 0) hx hb dX11_floods_9 (by decide) ?_
  refine va_iald hx hb hK hP 1 0 rfl rfl (vin_ (by decide +kernel)) dX11_floods_10 ?_
  refine kt_ (v := 1) (by decide +kernel) ?_
  refine lv_icmp_ge (tgt := 44) hx hb dX11_floods_11 (by decide) (fun _ => ?_) (fun c9 => absurd (by decide +kernel) c9)
  refine W.widen (k := 0) (n := 0) (Nat.le_of_ble_eq_true rfl) (Nat.le_of_ble_eq_true rfl) ?_
  exact W.vret hx hb hr (QG_.mk (fun _ => 0) (fun _ => 0) (fun _ => 0) [0, 1] [0] hP hD hK hS rfl trivial rfl (by decide) rfl) hS.2.2 dX11_floods_44
set_option maxHeartbeats 4000000 in
set_option maxRecDepth 100000 in
theorem c_X11_renews_0 (l : Launch) (hl0 : l.stackTraces = false) (D : va_G) (ad : Nat → Nat) (sz : Nat) (h0 : Nat) (h1 : Nat) (h2 : Nat) (k1 : ClassId) (k2 : ClassId) (v0 : Value) (v1 : Value) (v2 : Value) (v3 : Value) (v4 : Value) (v5 : Value) (v6 : Value) (v7 : Value) (v8 : Value) (v9 : Value) (v10 : Value) (v11 : Value) (v12 : Value) (v13 : Value) (v14 : Value) (v15 : Value) (v16 : Value) (v17 : Value) (v18 : Value) (v19 : Value) (v20 : Value) (v21 : Value) : Met l yX11_renews wsX11_renews ({ frames := 2, cells := 0, slots := 0, locals := 50 }) (PC_ D ad [(h0, .inr (14, [.ref h2, v0, v1, v2, v3, v4, v5, .ref h1, .int 0, v6, v7, v8, v9, v10, v11, v12, v13, v14, v15, v16, v17, v18, v19, v20, v21])), (h1, .inl (k1, 147456, .inl (fun _ => 0))), (h2, .inl (k2, 8277, .inl (upd (fun _ => 0) 0 1)))] [(k1, .int), (k2, .int)] sz [.ref h0, .int 0]) (QG_ D (fun q i => none) (fun q i => True) (fun q k i => [(h0, .inr (14, [.ref h2, v0, v1, v2, v3, v4, v5, .ref h1, .int 1, v6, v7, v8, v9, v10, v11, v12, v13, v14, v15, v16, v17, v18, v19, v20, v21])), (h1, .inl (k1, 147456, .inl (upd (fun _ => 0) 1 1))), (h2, .inl (k2, 8277, .inl (upd (upd (upd (fun _ => 0) 0 1) 48 1) 5 1)))]) (fun q k i => [(k1, .int), (k2, .int)]) (va_A [(h0, .inr (14, [.ref h2, v0, v1, v2, v3, v4, v5, .ref h1, .int 0, v6, v7, v8, v9, v10, v11, v12, v13, v14, v15, v16, v17, v18, v19, v20, v21])), (h1, .inl (k1, 147456, .inl (fun _ => 0))), (h2, .inl (k2, 8277, .inl (upd (fun _ => 0) 0 1)))] sz)) 0 0 (va_A [(h0, .inr (14, [.ref h2, v0, v1, v2, v3, v4, v5, .ref h1, .int 0, v6, v7, v8, v9, v10, v11, v12, v13, v14, v15, v16, v17, v18, v19, v20, v21])), (h1, .inl (k1, 147456, .inl (fun _ => 0))), (h2, .inl (k2, 8277, .inl (upd (fun _ => 0) 0 1)))] sz) := by
  refine Met.ofW (cc := cX11_renews) (maxL := 4) (ret := none) (by decide) rfl ?_
  intro p e s m args below meth c s₁ B hml hv
  obtain ⟨rfl, hsz, hP, hK, hD0, hF⟩ := hv
  have hx := B.exec
  have hb := B.bytes
  have hr := B.returns
  have hts := atoms_spec (ws := wsX11_renews) B.pre
  have hown : s.vm.findClass RX11 = some m.cls := findClass_of_methodNamed B.named
  have hlocks := B.notSynchronized
  subst hsz
  have hD := hD0.self (sz := s.heap.size)
  generalize hAe : va_A [(h0, .inr (14, [.ref h2, v0, v1, v2, v3, v4, v5, .ref h1, .int 0, v6, v7, v8, v9, v10, v11, v12, v13, v14, v15, v16, v17, v18, v19, v20, v21])), (h1, .inl (k1, 147456, .inl (fun _ => 0))), (h2, .inl (k2, 8277, .inl (upd (fun _ => 0) 0 1)))] s.heap.size = A at hD hF ⊢
  have hA : ∀ q : Nat, s.heap.size ≤ q → A q := fun q h => by rw [← hAe]; exact Or.inr h
  obtain ⟨H, hHe⟩ : ∃ H : Heap, H = s.heap := ⟨_, rfl⟩
  have hS : va_S A s.heap H [] := by rw [hHe]; exact va_S.rf
  have hP : va_P D vwCl [(h0, .inr (14, [.ref h2, v0, v1, v2, v3, v4, v5, .ref h1, .int 0, v6, v7, v8, v9, v10, v11, v12, v13, v14, v15, v16, v17, v18, v19, v20, v21])), (h1, .inl (k1, 147456, .inl (fun _ => 0))), (h2, .inl (k2, 8277, .inl (upd (fun _ => 0) 0 1)))] H := by rw [hHe]; exact hP
  rw [← hHe]
  have hi_X11 : ∀ w ∈ wsX110, w ∈ wsX11_renews := by decide +kernel
  have hl := lv_entry [.ref h0, .int 0] (n := 4) (Nat.le_of_ble_eq_true rfl)
  rw [lg_entry_eq]
  generalize (lg_sl [.ref h0, .int 0] ++ List.replicate (4 - (lg_sl [.ref h0, .int 0]).length) Slot.unset).toArray = ls at hl ⊢
  have hl : lv_has ls 4 [(0, .ref h0), (1, .int 0)] := hl
  refine lv_aload_n hx hb dX11_renews_0 rfl (lv_at hl 0 rfl) ?_
  refine lv_dup hx hb dX11_renews_1 rfl ?_
  refine va_get (D := D) (ci := 14) (v := .int 0) (own := RX11) (C := RX11) (T := TX11) (N := 25) hx hb hts hi_X11 hown hK hP 0 rfl rfl 8 (by decide) (hts (.fieldLink RX11 54 "CanalMapsModel" "pageCount" "I") (List.mem_of_getElem? (i := 1) (by decide +kernel))) (fun _ h9 => h9) rfl dX11_renews_2 ?_
  refine lv_dup_x1 hx hb dX11_renews_5 rfl rfl ?_
  refine lv_iconst (v := 1) hx hb dX11_renews_6 (by decide) ?_
  refine lv_iadd hx hb dX11_renews_7 ?_
  refine kt_ (v := 1) (by decide +kernel) ?_
  refine va_put (D := D) (ci := 14) (v := .int 1) (ty := .int) (own := RX11) (C := RX11) (T := TX11) (N := 25) hx hb hts hi_X11 tyX11 tyX11_ok nmX11 hown hK hP hD hS 0 rfl rfl 8 (by decide) (hts (.fieldLink RX11 54 "CanalMapsModel" "pageCount" "I") (List.mem_of_getElem? (i := 1) (by decide +kernel))) (fun _ h9 => h9) rfl (by decide +kernel) rfl rfl (Nat.le_of_ble_eq_true rfl) dX11_renews_8 (fun H locs hP hD hS => ?_)
  have hP : va_P D vwCl [(h0, .inr (14, [.ref h2, v0, v1, v2, v3, v4, v5, .ref h1, .int 1, v6, v7, v8, v9, v10, v11, v12, v13, v14, v15, v16, v17, v18, v19, v20, v21])), (h1, .inl (k1, 147456, .inl (fun _ => 0))), (h2, .inl (k2, 8277, .inl (upd (fun _ => 0) 0 1)))] H := hP
  have hD : va_D A [(h0, .inr (14, [.ref h2, v0, v1, v2, v3, v4, v5, .ref h1, .int 1, v6, v7, v8, v9, v10, v11, v12, v13, v14, v15, v16, v17, v18, v19, v20, v21])), (h1, .inl (k1, 147456, .inl (fun _ => 0))), (h2, .inl (k2, 8277, .inl (upd (fun _ => 0) 0 1)))] := hD
  refine lv_istore_n (lv' := [(2, .int 0), (0, .ref h0), (1, .int 0)]) hx hb dX11_renews_11 rfl hl (by decide) rfl (fun ls hl => ?_)
  refine lv_aload_n hx hb dX11_renews_12 rfl (lv_at hl 1 rfl) ?_
  refine va_get (D := D) (ci := 14) (v := .ref h1) (own := RX11) (C := RX11) (T := TX11) (N := 25) hx hb hts hi_X11 hown hK hP 0 rfl rfl 7 (by decide) (hts (.fieldLink RX11 27 "CanalMapsModel" "pages" "[I") (List.mem_of_getElem? (i := 2) (by decide +kernel))) (fun _ h9 => h9) rfl dX11_renews_13 ?_
  refine lv_bipush (v := 9) hx hb dX11_renews_16 (by decide) ?_
  refine lv_iload_n hx hb dX11_renews_18 rfl (lv_at hl 0 rfl) ?_
  refine lv_imul hx hb dX11_renews_19 ?_
  refine kt_ (v := 0) (by decide +kernel) ?_
  refine lv_iload_n hx hb dX11_renews_20 rfl (lv_at hl 2 rfl) ?_
  refine ka_iast (g := (fun _ => 0)) hx hb hK hP hD hS 1 0 rfl rfl (vin_ (by decide +kernel)) (up_same (by decide +kernel)) dX11_renews_21 (fun H locs hP hD hS => ?_)
  have hP : va_P D vwCl [(h0, .inr (14, [.ref h2, v0, v1, v2, v3, v4, v5, .ref h1, .int 1, v6, v7, v8, v9, v10, v11, v12, v13, v14, v15, v16, v17, v18, v19, v20, v21])), (h1, .inl (k1, 147456, .inl (fun _ => 0))), (h2, .inl (k2, 8277, .inl (upd (fun _ => 0) 0 1)))] H := hP
  have hD : va_D A [(h0, .inr (14, [.ref h2, v0, v1, v2, v3, v4, v5, .ref h1, .int 1, v6, v7, v8, v9, v10, v11, v12, v13, v14, v15, v16, v17, v18, v19, v20, v21])), (h1, .inl (k1, 147456, .inl (fun _ => 0))), (h2, .inl (k2, 8277, .inl (upd (fun _ => 0) 0 1)))] := hD
  refine lv_aload_n hx hb dX11_renews_22 rfl (lv_at hl 1 rfl) ?_
  refine va_get (D := D) (ci := 14) (v := .ref h1) (own := RX11) (C := RX11) (T := TX11) (N := 25) hx hb hts hi_X11 hown hK hP 0 rfl rfl 7 (by decide) (hts (.fieldLink RX11 27 "CanalMapsModel" "pages" "[I") (List.mem_of_getElem? (i := 2) (by decide +kernel))) (fun _ h9 => h9) rfl dX11_renews_23 ?_
  refine lv_bipush (v := 9) hx hb dX11_renews_26 (by decide) ?_
  refine lv_iload_n hx hb dX11_renews_28 rfl (lv_at hl 0 rfl) ?_
  refine lv_imul hx hb dX11_renews_29 ?_
  refine kt_ (v := 0) (by decide +kernel) ?_
  refine lv_iconst (v := 1) hx hb dX11_renews_30 (by decide) ?_
  refine lv_iadd hx hb dX11_renews_31 ?_
  refine kt_ (v := 1) (by decide +kernel) ?_
  refine lv_aload_n hx hb dX11_renews_32 rfl (lv_at hl 1 rfl) ?_
  refine lv_iload_n hx hb dX11_renews_33 rfl (lv_at hl 2 rfl) ?_
  refine lv_iload_n hx hb dX11_renews_34 rfl (lv_at hl 2 rfl) ?_
  refine kc_ (wc := [(h0, .inr (14, [.ref h2, v0, v1, v2, v3, v4, v5, .ref h1, .int 1, v6, v7, v8, v9, v10, v11, v12, v13, v14, v15, v16, v17, v18, v19, v20, v21])), (h2, .inl (k2, 8277, .inl (upd (fun _ => 0) 0 1)))]) (wr := [(h1, .inl (k1, 147456, .inl (fun _ => 0)))]) (va_runV (As := [.int 0, .int 0]) (rest := [.int 1, .ref h1]) ⟨hx, hb, hml, hown, hts⟩ (c_X11_map_0 l hl0 D ad H.size h0 h2 k2 (v0) (v1) (v2) (v3) (v4) (v5) (.ref h1) (.int 1) (v6) (v7) (v8) (v9) (v10) (v11) (v12) (v13) (v14) (v15) (v16) (v17) (v18) (v19) (v20) (v21)) (cwV 2 hts gX11_renews_X11_map rfl rfl rfl (by decide +kernel) ⟨Nat.le_of_ble_eq_true rfl, Nat.le_of_ble_eq_true rfl⟩) ⟨PC_.blind, va_recv hK hP (ci := 14) (q0 := 0) rfl rfl, PC_.pre hF hK hP hD hS hA [0, 2] [1] rfl (by decide) rfl⟩ rfl rfl hl.1 rfl (lv_room (Nat.le_of_ble_eq_true rfl)) dX11_renews_35 ⟨Nat.le_of_ble_eq_true rfl, Nat.le_of_ble_eq_true rfl⟩) hK hP hD hS hA [0, 2] [1] [0] rfl rfl (by decide) (by decide) rfl (fun qa_1 ka_1 ia_1 H locs hpo hP hD hK hS => ?_)
  have hP : va_P D vwCl [(h1, .inl (k1, 147456, .inl (fun _ => 0))), (h0, .inr (14, [.ref h2, v0, v1, v2, v3, v4, v5, .ref h1, .int 1, v6, v7, v8, v9, v10, v11, v12, v13, v14, v15, v16, v17, v18, v19, v20, v21])), (h2, .inl (k2, 8277, .inl (upd (fun _ => 0) 0 1)))] H := hP
  have hD : va_D A [(h1, .inl (k1, 147456, .inl (fun _ => 0))), (h0, .inr (14, [.ref h2, v0, v1, v2, v3, v4, v5, .ref h1, .int 1, v6, v7, v8, v9, v10, v11, v12, v13, v14, v15, v16, v17, v18, v19, v20, v21])), (h2, .inl (k2, 8277, .inl (upd (fun _ => 0) 0 1)))] := hD
  have hK : va_K D vwCl [(k1, .int), (k2, .int)] s := hK
  refine W.eq (g2 := F0 m 38 ls [.int (-1), .int 1, .ref h1]) rfl ?_
  refine lv_if_ge (tgt := 45) hx hb dX11_renews_38 (by decide) (fun c9 => absurd c9 (by decide +kernel)) (fun _ => ?_)
  refine lv_iconst (v := 1) hx hb dX11_renews_41 (by decide) ?_
  refine lv_goto (tgt := 58) hx hb dX11_renews_42 (by decide) ?_
  refine ka_iast (g := (upd (fun _ => 0) 1 1)) hx hb hK hP hD hS 0 0 rfl rfl (vin_ (by decide +kernel)) (congrArg (fun z9 => upd _ z9 _) (by decide +kernel)) dX11_renews_58 (fun H locs hP hD hS => ?_)
  have hP : va_P D vwCl [(h1, .inl (k1, 147456, .inl (upd (fun _ => 0) 1 1))), (h0, .inr (14, [.ref h2, v0, v1, v2, v3, v4, v5, .ref h1, .int 1, v6, v7, v8, v9, v10, v11, v12, v13, v14, v15, v16, v17, v18, v19, v20, v21])), (h2, .inl (k2, 8277, .inl (upd (fun _ => 0) 0 1)))] H := hP
  have hD : va_D A [(h1, .inl (k1, 147456, .inl (upd (fun _ => 0) 1 1))), (h0, .inr (14, [.ref h2, v0, v1, v2, v3, v4, v5, .ref h1, .int 1, v6, v7, v8, v9, v10, v11, v12, v13, v14, v15, v16, v17, v18, v19, v20, v21])), (h2, .inl (k2, 8277, .inl (upd (fun _ => 0) 0 1)))] := hD
  refine lv_aload_n hx hb dX11_renews_59 rfl (lv_at hl 1 rfl) ?_
  refine va_get (D := D) (ci := 14) (v := .ref h1) (own := RX11) (C := RX11) (T := TX11) (N := 25) hx hb hts hi_X11 hown hK hP 1 rfl rfl 7 (by decide) (hts (.fieldLink RX11 27 "CanalMapsModel" "pages" "[I") (List.mem_of_getElem? (i := 2) (by decide +kernel))) (fun _ h9 => h9) rfl dX11_renews_60 ?_
  refine lv_bipush (v := 9) hx hb dX11_renews_63 (by decide) ?_
  refine lv_iload_n hx hb dX11_renews_65 rfl (lv_at hl 0 rfl) ?_
  refine lv_imul hx hb dX11_renews_66 ?_
  refine kt_ (v := 0) (by decide +kernel) ?_
  refine lv_iconst (v := 2) hx hb dX11_renews_67 (by decide) ?_
  refine lv_iadd hx hb dX11_renews_68 ?_
  refine kt_ (v := 2) (by decide +kernel) ?_
  refine lv_aload_n hx hb dX11_renews_69 rfl (lv_at hl 1 rfl) ?_
  refine va_get (D := D) (ci := 14) (v := .ref h2) (own := RX11) (C := RX11) (T := TX11) (N := 25) hx hb hts hi_X11 hown hK hP 1 rfl rfl 0 (by decide) (hts (.fieldLink RX11 9 "CanalMapsModel" "now" "[I") (List.mem_of_getElem? (i := 3) (by decide +kernel))) (fun _ h9 => h9) rfl dX11_renews_70 ?_
  refine lv_iconst (v := 1) hx hb dX11_renews_73 (by decide) ?_
  refine va_iald hx hb hK hP 2 1 rfl rfl (vin_ (by decide +kernel)) dX11_renews_74 ?_
  refine kt_ (v := 0) (by decide +kernel) ?_
  refine ka_iast (g := (upd (fun _ => 0) 1 1)) hx hb hK hP hD hS 0 0 rfl rfl (vin_ (by decide +kernel)) (up_same (by decide +kernel)) dX11_renews_75 (fun H locs hP hD hS => ?_)
  have hP : va_P D vwCl [(h1, .inl (k1, 147456, .inl (upd (fun _ => 0) 1 1))), (h0, .inr (14, [.ref h2, v0, v1, v2, v3, v4, v5, .ref h1, .int 1, v6, v7, v8, v9, v10, v11, v12, v13, v14, v15, v16, v17, v18, v19, v20, v21])), (h2, .inl (k2, 8277, .inl (upd (fun _ => 0) 0 1)))] H := hP
  have hD : va_D A [(h1, .inl (k1, 147456, .inl (upd (fun _ => 0) 1 1))), (h0, .inr (14, [.ref h2, v0, v1, v2, v3, v4, v5, .ref h1, .int 1, v6, v7, v8, v9, v10, v11, v12, v13, v14, v15, v16, v17, v18, v19, v20, v21])), (h2, .inl (k2, 8277, .inl (upd (fun _ => 0) 0 1)))] := hD
  refine lv_iconst (v := 0) hx hb dX11_renews_76 (by decide) ?_
  refine lv_istore_n (lv' := [(3, .int 0), (2, .int 0), (0, .ref h0), (1, .int 0)]) hx hb dX11_renews_77 rfl hl (by decide) rfl (fun ls hl => ?_)
  refine lv_iload_n hx hb dX11_renews_78 rfl (lv_at hl 0 rfl) ?_
  refine lv_bipush (v := 6) hx hb dX11_renews_79 (by decide) ?_
  refine lv_icmp_ge (tgt := 132) hx hb dX11_renews_81 (by decide) (fun c9 => absurd c9 (by decide +kernel)) (fun _ => ?_)
  refine lv_aload_n hx hb dX11_renews_84 rfl (lv_at hl 2 rfl) ?_
  refine va_get (D := D) (ci := 14) (v := .ref h1) (own := RX11) (C := RX11) (T := TX11) (N := 25) hx hb hts hi_X11 hown hK hP 1 rfl rfl 7 (by decide) (hts (.fieldLink RX11 27 "CanalMapsModel" "pages" "[I") (List.mem_of_getElem? (i := 2) (by decide +kernel))) (fun _ h9 => h9) rfl dX11_renews_85 ?_
  refine lv_bipush (v := 9) hx hb dX11_renews_88 (by decide) ?_
  refine lv_iload_n hx hb dX11_renews_90 rfl (lv_at hl 1 rfl) ?_
  refine lv_imul hx hb dX11_renews_91 ?_
  refine kt_ (v := 0) (by decide +kernel) ?_
  refine lv_iconst (v := 3) hx hb dX11_renews_92 (by decide) ?_
  refine lv_iadd hx hb dX11_renews_93 ?_
  refine kt_ (v := 3) (by decide +kernel) ?_
  refine lv_iload_n hx hb dX11_renews_94 rfl (lv_at hl 0 rfl) ?_
  refine lv_iadd hx hb dX11_renews_95 ?_
  refine kt_ (v := 3) (by decide +kernel) ?_
  refine lv_iload_n hx hb dX11_renews_96 rfl (lv_at hl 0 rfl) ?_
  refine lv_aload_n hx hb dX11_renews_97 rfl (lv_at hl 2 rfl) ?_
  refine va_get (D := D) (ci := 14) (v := .ref h2) (own := RX11) (C := RX11) (T := TX11) (N := 25) hx hb hts hi_X11 hown hK hP 1 rfl rfl 0 (by decide) (hts (.fieldLink RX11 9 "CanalMapsModel" "now" "[I") (List.mem_of_getElem? (i := 3) (by decide +kernel))) (fun _ h9 => h9) rfl dX11_renews_98 ?_
  refine lv_iconst (v := 0) hx hb dX11_renews_101 (by decide) ?_
  refine va_iald hx hb hK hP 2 1 rfl rfl (vin_ (by decide +kernel)) dX11_renews_102 ?_
  refine kt_ (v := 1) (by decide +kernel) ?_
  refine lv_icmp_ge (tgt := 124) hx hb dX11_renews_103 (by decide) (fun c9 => absurd c9 (by decide +kernel)) (fun _ => ?_)
  refine lv_aload_n hx hb dX11_renews_106 rfl (lv_at hl 2 rfl) ?_
  refine lv_iload_n hx hb dX11_renews_107 rfl (lv_at hl 3 rfl) ?_
  refine lv_iload_n hx hb dX11_renews_108 rfl (lv_at hl 0 rfl) ?_
  refine kc_ (wc := []) (wr := [(h1, .inl (k1, 147456, .inl (upd (fun _ => 0) 1 1))), (h0, .inr (14, [.ref h2, v0, v1, v2, v3, v4, v5, .ref h1, .int 1, v6, v7, v8, v9, v10, v11, v12, v13, v14, v15, v16, v17, v18, v19, v20, v21])), (h2, .inl (k2, 8277, .inl (upd (fun _ => 0) 0 1)))]) (va_runV (As := [.int 0, .int 0]) (rest := [.int 3, .ref h1]) ⟨hx, hb, hml, hown, hts⟩ (c_X11_areNear_0 l hl0 D ad H.size h0) (cwV 2 hts gX11_renews_X11_areNear rfl rfl rfl (by decide +kernel) ⟨Nat.le_of_ble_eq_true rfl, Nat.le_of_ble_eq_true rfl⟩) ⟨PC_.blind, va_recv hK hP (ci := 14) (q0 := 1) rfl rfl, PC_.pre hF hK hP hD hS hA [] [] rfl (by decide) rfl⟩ rfl rfl hl.1 rfl (lv_room (Nat.le_of_ble_eq_true rfl)) dX11_renews_109 ⟨Nat.le_of_ble_eq_true rfl, Nat.le_of_ble_eq_true rfl⟩) hK hP hD hS hA [] [0, 1, 2] [0, 1] rfl rfl (by decide) (by decide) rfl (fun qa_2 ka_2 ia_2 H locs hpo hP hD hK hS => ?_)
  have hP : va_P D vwCl [(h1, .inl (k1, 147456, .inl (upd (fun _ => 0) 1 1))), (h0, .inr (14, [.ref h2, v0, v1, v2, v3, v4, v5, .ref h1, .int 1, v6, v7, v8, v9, v10, v11, v12, v13, v14, v15, v16, v17, v18, v19, v20, v21])), (h2, .inl (k2, 8277, .inl (upd (fun _ => 0) 0 1)))] H := hP
  have hD : va_D A [(h1, .inl (k1, 147456, .inl (upd (fun _ => 0) 1 1))), (h0, .inr (14, [.ref h2, v0, v1, v2, v3, v4, v5, .ref h1, .int 1, v6, v7, v8, v9, v10, v11, v12, v13, v14, v15, v16, v17, v18, v19, v20, v21])), (h2, .inl (k2, 8277, .inl (upd (fun _ => 0) 0 1)))] := hD
  have hK : va_K D vwCl [(k1, .int), (k2, .int)] s := hK
  refine W.eq (g2 := F0 m 112 ls [.int 0, .int 3, .ref h1]) rfl ?_
  refine lv_if_eq (tgt := 124) hx hb dX11_renews_112 (by decide) (fun _ => ?_) (fun c9 => absurd (by decide +kernel) c9)
  refine lv_iconst (v := 0) hx hb dX11_renews_124 (by decide) ?_
  refine ka_iast (g := (upd (fun _ => 0) 1 1)) hx hb hK hP hD hS 0 0 rfl rfl (vin_ (by decide +kernel)) (up_same (by decide +kernel)) dX11_renews_125 (fun H locs hP hD hS => ?_)
  have hP : va_P D vwCl [(h1, .inl (k1, 147456, .inl (upd (fun _ => 0) 1 1))), (h0, .inr (14, [.ref h2, v0, v1, v2, v3, v4, v5, .ref h1, .int 1, v6, v7, v8, v9, v10, v11, v12, v13, v14, v15, v16, v17, v18, v19, v20, v21])), (h2, .inl (k2, 8277, .inl (upd (fun _ => 0) 0 1)))] H := hP
  have hD : va_D A [(h1, .inl (k1, 147456, .inl (upd (fun _ => 0) 1 1))), (h0, .inr (14, [.ref h2, v0, v1, v2, v3, v4, v5, .ref h1, .int 1, v6, v7, v8, v9, v10, v11, v12, v13, v14, v15, v16, v17, v18, v19, v20, v21])), (h2, .inl (k2, 8277, .inl (upd (fun _ => 0) 0 1)))] := hD
  refine lv_iinc (v := 1) (lv' := [(3, .int 1), (2, .int 0), (0, .ref h0), (1, .int 0)]) hx hb dX11_renews_126 hl (k := 0) rfl (by decide +kernel) (by decide) rfl (fun ls hl => ?_)
  refine lv_goto (tgt := 78) hx hb dX11_renews_129 (by decide) ?_
  refine lv_iload_n hx hb dX11_renews_78 rfl (lv_at hl 0 rfl) ?_
  refine lv_bipush (v := 6) hx hb dX11_renews_79 (by decide) ?_
  refine lv_icmp_ge (tgt := 132) hx hb dX11_renews_81 (by decide) (fun c9 => absurd c9 (by decide +kernel)) (fun _ => ?_)
  refine lv_aload_n hx hb dX11_renews_84 rfl (lv_at hl 2 rfl) ?_
  refine va_get (D := D) (ci := 14) (v := .ref h1) (own := RX11) (C := RX11) (T := TX11) (N := 25) hx hb hts hi_X11 hown hK hP 1 rfl rfl 7 (by decide) (hts (.fieldLink RX11 27 "CanalMapsModel" "pages" "[I") (List.mem_of_getElem? (i := 2) (by decide +kernel))) (fun _ h9 => h9) rfl dX11_renews_85 ?_
  refine lv_bipush (v := 9) hx hb dX11_renews_88 (by decide) ?_
  refine lv_iload_n hx hb dX11_renews_90 rfl (lv_at hl 1 rfl) ?_
  refine lv_imul hx hb dX11_renews_91 ?_
  refine kt_ (v := 0) (by decide +kernel) ?_
  refine lv_iconst (v := 3) hx hb dX11_renews_92 (by decide) ?_
  refine lv_iadd hx hb dX11_renews_93 ?_
  refine kt_ (v := 3) (by decide +kernel) ?_
  refine lv_iload_n hx hb dX11_renews_94 rfl (lv_at hl 0 rfl) ?_
  refine lv_iadd hx hb dX11_renews_95 ?_
  refine kt_ (v := 4) (by decide +kernel) ?_
  refine lv_iload_n hx hb dX11_renews_96 rfl (lv_at hl 0 rfl) ?_
  refine lv_aload_n hx hb dX11_renews_97 rfl (lv_at hl 2 rfl) ?_
  refine va_get (D := D) (ci := 14) (v := .ref h2) (own := RX11) (C := RX11) (T := TX11) (N := 25) hx hb hts hi_X11 hown hK hP 1 rfl rfl 0 (by decide) (hts (.fieldLink RX11 9 "CanalMapsModel" "now" "[I") (List.mem_of_getElem? (i := 3) (by decide +kernel))) (fun _ h9 => h9) rfl dX11_renews_98 ?_
  refine lv_iconst (v := 0) hx hb dX11_renews_101 (by decide) ?_
  refine va_iald hx hb hK hP 2 1 rfl rfl (vin_ (by decide +kernel)) dX11_renews_102 ?_
  refine kt_ (v := 1) (by decide +kernel) ?_
  refine lv_icmp_ge (tgt := 124) hx hb dX11_renews_103 (by decide) (fun _ => ?_) (fun c9 => absurd (by decide +kernel) c9)
  refine lv_iconst (v := 0) hx hb dX11_renews_124 (by decide) ?_
  refine ka_iast (g := (upd (fun _ => 0) 1 1)) hx hb hK hP hD hS 0 0 rfl rfl (vin_ (by decide +kernel)) (up_same (by decide +kernel)) dX11_renews_125 (fun H locs hP hD hS => ?_)
  have hP : va_P D vwCl [(h1, .inl (k1, 147456, .inl (upd (fun _ => 0) 1 1))), (h0, .inr (14, [.ref h2, v0, v1, v2, v3, v4, v5, .ref h1, .int 1, v6, v7, v8, v9, v10, v11, v12, v13, v14, v15, v16, v17, v18, v19, v20, v21])), (h2, .inl (k2, 8277, .inl (upd (fun _ => 0) 0 1)))] H := hP
  have hD : va_D A [(h1, .inl (k1, 147456, .inl (upd (fun _ => 0) 1 1))), (h0, .inr (14, [.ref h2, v0, v1, v2, v3, v4, v5, .ref h1, .int 1, v6, v7, v8, v9, v10, v11, v12, v13, v14, v15, v16, v17, v18, v19, v20, v21])), (h2, .inl (k2, 8277, .inl (upd (fun _ => 0) 0 1)))] := hD
  refine lv_iinc (v := 2) (lv' := [(3, .int 2), (2, .int 0), (0, .ref h0), (1, .int 0)]) hx hb dX11_renews_126 hl (k := 0) rfl (by decide +kernel) (by decide) rfl (fun ls hl => ?_)
  refine lv_goto (tgt := 78) hx hb dX11_renews_129 (by decide) ?_
  refine lv_iload_n hx hb dX11_renews_78 rfl (lv_at hl 0 rfl) ?_
  refine lv_bipush (v := 6) hx hb dX11_renews_79 (by decide) ?_
  refine lv_icmp_ge (tgt := 132) hx hb dX11_renews_81 (by decide) (fun c9 => absurd c9 (by decide +kernel)) (fun _ => ?_)
  refine lv_aload_n hx hb dX11_renews_84 rfl (lv_at hl 2 rfl) ?_
  refine va_get (D := D) (ci := 14) (v := .ref h1) (own := RX11) (C := RX11) (T := TX11) (N := 25) hx hb hts hi_X11 hown hK hP 1 rfl rfl 7 (by decide) (hts (.fieldLink RX11 27 "CanalMapsModel" "pages" "[I") (List.mem_of_getElem? (i := 2) (by decide +kernel))) (fun _ h9 => h9) rfl dX11_renews_85 ?_
  refine lv_bipush (v := 9) hx hb dX11_renews_88 (by decide) ?_
  refine lv_iload_n hx hb dX11_renews_90 rfl (lv_at hl 1 rfl) ?_
  refine lv_imul hx hb dX11_renews_91 ?_
  refine kt_ (v := 0) (by decide +kernel) ?_
  refine lv_iconst (v := 3) hx hb dX11_renews_92 (by decide) ?_
  refine lv_iadd hx hb dX11_renews_93 ?_
  refine kt_ (v := 3) (by decide +kernel) ?_
  refine lv_iload_n hx hb dX11_renews_94 rfl (lv_at hl 0 rfl) ?_
  refine lv_iadd hx hb dX11_renews_95 ?_
  refine kt_ (v := 5) (by decide +kernel) ?_
  refine lv_iload_n hx hb dX11_renews_96 rfl (lv_at hl 0 rfl) ?_
  refine lv_aload_n hx hb dX11_renews_97 rfl (lv_at hl 2 rfl) ?_
  refine va_get (D := D) (ci := 14) (v := .ref h2) (own := RX11) (C := RX11) (T := TX11) (N := 25) hx hb hts hi_X11 hown hK hP 1 rfl rfl 0 (by decide) (hts (.fieldLink RX11 9 "CanalMapsModel" "now" "[I") (List.mem_of_getElem? (i := 3) (by decide +kernel))) (fun _ h9 => h9) rfl dX11_renews_98 ?_
  refine lv_iconst (v := 0) hx hb dX11_renews_101 (by decide) ?_
  refine va_iald hx hb hK hP 2 1 rfl rfl (vin_ (by decide +kernel)) dX11_renews_102 ?_
  refine kt_ (v := 1) (by decide +kernel) ?_
  refine lv_icmp_ge (tgt := 124) hx hb dX11_renews_103 (by decide) (fun _ => ?_) (fun c9 => absurd (by decide +kernel) c9)
  refine lv_iconst (v := 0) hx hb dX11_renews_124 (by decide) ?_
  refine ka_iast (g := (upd (fun _ => 0) 1 1)) hx hb hK hP hD hS 0 0 rfl rfl (vin_ (by decide +kernel)) (up_same (by decide +kernel)) dX11_renews_125 (fun H locs hP hD hS => ?_)
  have hP : va_P D vwCl [(h1, .inl (k1, 147456, .inl (upd (fun _ => 0) 1 1))), (h0, .inr (14, [.ref h2, v0, v1, v2, v3, v4, v5, .ref h1, .int 1, v6, v7, v8, v9, v10, v11, v12, v13, v14, v15, v16, v17, v18, v19, v20, v21])), (h2, .inl (k2, 8277, .inl (upd (fun _ => 0) 0 1)))] H := hP
  have hD : va_D A [(h1, .inl (k1, 147456, .inl (upd (fun _ => 0) 1 1))), (h0, .inr (14, [.ref h2, v0, v1, v2, v3, v4, v5, .ref h1, .int 1, v6, v7, v8, v9, v10, v11, v12, v13, v14, v15, v16, v17, v18, v19, v20, v21])), (h2, .inl (k2, 8277, .inl (upd (fun _ => 0) 0 1)))] := hD
  refine lv_iinc (v := 3) (lv' := [(3, .int 3), (2, .int 0), (0, .ref h0), (1, .int 0)]) hx hb dX11_renews_126 hl (k := 0) rfl (by decide +kernel) (by decide) rfl (fun ls hl => ?_)
  refine lv_goto (tgt := 78) hx hb dX11_renews_129 (by decide) ?_
  refine lv_iload_n hx hb dX11_renews_78 rfl (lv_at hl 0 rfl) ?_
  refine lv_bipush (v := 6) hx hb dX11_renews_79 (by decide) ?_
  refine lv_icmp_ge (tgt := 132) hx hb dX11_renews_81 (by decide) (fun c9 => absurd c9 (by decide +kernel)) (fun _ => ?_)
  refine lv_aload_n hx hb dX11_renews_84 rfl (lv_at hl 2 rfl) ?_
  refine va_get (D := D) (ci := 14) (v := .ref h1) (own := RX11) (C := RX11) (T := TX11) (N := 25) hx hb hts hi_X11 hown hK hP 1 rfl rfl 7 (by decide) (hts (.fieldLink RX11 27 "CanalMapsModel" "pages" "[I") (List.mem_of_getElem? (i := 2) (by decide +kernel))) (fun _ h9 => h9) rfl dX11_renews_85 ?_
  refine lv_bipush (v := 9) hx hb dX11_renews_88 (by decide) ?_
  refine lv_iload_n hx hb dX11_renews_90 rfl (lv_at hl 1 rfl) ?_
  refine lv_imul hx hb dX11_renews_91 ?_
  refine kt_ (v := 0) (by decide +kernel) ?_
  refine lv_iconst (v := 3) hx hb dX11_renews_92 (by decide) ?_
  refine lv_iadd hx hb dX11_renews_93 ?_
  refine kt_ (v := 3) (by decide +kernel) ?_
  refine lv_iload_n hx hb dX11_renews_94 rfl (lv_at hl 0 rfl) ?_
  refine lv_iadd hx hb dX11_renews_95 ?_
  refine kt_ (v := 6) (by decide +kernel) ?_
  refine lv_iload_n hx hb dX11_renews_96 rfl (lv_at hl 0 rfl) ?_
  refine lv_aload_n hx hb dX11_renews_97 rfl (lv_at hl 2 rfl) ?_
  refine va_get (D := D) (ci := 14) (v := .ref h2) (own := RX11) (C := RX11) (T := TX11) (N := 25) hx hb hts hi_X11 hown hK hP 1 rfl rfl 0 (by decide) (hts (.fieldLink RX11 9 "CanalMapsModel" "now" "[I") (List.mem_of_getElem? (i := 3) (by decide +kernel))) (fun _ h9 => h9) rfl dX11_renews_98 ?_
  refine lv_iconst (v := 0) hx hb dX11_renews_101 (by decide) ?_
  refine va_iald hx hb hK hP 2 1 rfl rfl (vin_ (by decide +kernel)) dX11_renews_102 ?_
  refine kt_ (v := 1) (by decide +kernel) ?_
  refine lv_icmp_ge (tgt := 124) hx hb dX11_renews_103 (by decide) (fun _ => ?_) (fun c9 => absurd (by decide +kernel) c9)
  refine lv_iconst (v := 0) hx hb dX11_renews_124 (by decide) ?_
  refine ka_iast (g := (upd (fun _ => 0) 1 1)) hx hb hK hP hD hS 0 0 rfl rfl (vin_ (by decide +kernel)) (up_same (by decide +kernel)) dX11_renews_125 (fun H locs hP hD hS => ?_)
  have hP : va_P D vwCl [(h1, .inl (k1, 147456, .inl (upd (fun _ => 0) 1 1))), (h0, .inr (14, [.ref h2, v0, v1, v2, v3, v4, v5, .ref h1, .int 1, v6, v7, v8, v9, v10, v11, v12, v13, v14, v15, v16, v17, v18, v19, v20, v21])), (h2, .inl (k2, 8277, .inl (upd (fun _ => 0) 0 1)))] H := hP
  have hD : va_D A [(h1, .inl (k1, 147456, .inl (upd (fun _ => 0) 1 1))), (h0, .inr (14, [.ref h2, v0, v1, v2, v3, v4, v5, .ref h1, .int 1, v6, v7, v8, v9, v10, v11, v12, v13, v14, v15, v16, v17, v18, v19, v20, v21])), (h2, .inl (k2, 8277, .inl (upd (fun _ => 0) 0 1)))] := hD
  refine lv_iinc (v := 4) (lv' := [(3, .int 4), (2, .int 0), (0, .ref h0), (1, .int 0)]) hx hb dX11_renews_126 hl (k := 0) rfl (by decide +kernel) (by decide) rfl (fun ls hl => ?_)
  refine lv_goto (tgt := 78) hx hb dX11_renews_129 (by decide) ?_
  refine lv_iload_n hx hb dX11_renews_78 rfl (lv_at hl 0 rfl) ?_
  refine lv_bipush (v := 6) hx hb dX11_renews_79 (by decide) ?_
  refine lv_icmp_ge (tgt := 132) hx hb dX11_renews_81 (by decide) (fun c9 => absurd c9 (by decide +kernel)) (fun _ => ?_)
  refine lv_aload_n hx hb dX11_renews_84 rfl (lv_at hl 2 rfl) ?_
  refine va_get (D := D) (ci := 14) (v := .ref h1) (own := RX11) (C := RX11) (T := TX11) (N := 25) hx hb hts hi_X11 hown hK hP 1 rfl rfl 7 (by decide) (hts (.fieldLink RX11 27 "CanalMapsModel" "pages" "[I") (List.mem_of_getElem? (i := 2) (by decide +kernel))) (fun _ h9 => h9) rfl dX11_renews_85 ?_
  refine lv_bipush (v := 9) hx hb dX11_renews_88 (by decide) ?_
  refine lv_iload_n hx hb dX11_renews_90 rfl (lv_at hl 1 rfl) ?_
  refine lv_imul hx hb dX11_renews_91 ?_
  refine kt_ (v := 0) (by decide +kernel) ?_
  refine lv_iconst (v := 3) hx hb dX11_renews_92 (by decide) ?_
  refine lv_iadd hx hb dX11_renews_93 ?_
  refine kt_ (v := 3) (by decide +kernel) ?_
  refine lv_iload_n hx hb dX11_renews_94 rfl (lv_at hl 0 rfl) ?_
  refine lv_iadd hx hb dX11_renews_95 ?_
  refine kt_ (v := 7) (by decide +kernel) ?_
  refine lv_iload_n hx hb dX11_renews_96 rfl (lv_at hl 0 rfl) ?_
  refine lv_aload_n hx hb dX11_renews_97 rfl (lv_at hl 2 rfl) ?_
  refine va_get (D := D) (ci := 14) (v := .ref h2) (own := RX11) (C := RX11) (T := TX11) (N := 25) hx hb hts hi_X11 hown hK hP 1 rfl rfl 0 (by decide) (hts (.fieldLink RX11 9 "CanalMapsModel" "now" "[I") (List.mem_of_getElem? (i := 3) (by decide +kernel))) (fun _ h9 => h9) rfl dX11_renews_98 ?_
  refine lv_iconst (v := 0) hx hb dX11_renews_101 (by decide) ?_
  refine va_iald hx hb hK hP 2 1 rfl rfl (vin_ (by decide +kernel)) dX11_renews_102 ?_
  refine kt_ (v := 1) (by decide +kernel) ?_
  refine lv_icmp_ge (tgt := 124) hx hb dX11_renews_103 (by decide) (fun _ => ?_) (fun c9 => absurd (by decide +kernel) c9)
  refine lv_iconst (v := 0) hx hb dX11_renews_124 (by decide) ?_
  refine ka_iast (g := (upd (fun _ => 0) 1 1)) hx hb hK hP hD hS 0 0 rfl rfl (vin_ (by decide +kernel)) (up_same (by decide +kernel)) dX11_renews_125 (fun H locs hP hD hS => ?_)
  have hP : va_P D vwCl [(h1, .inl (k1, 147456, .inl (upd (fun _ => 0) 1 1))), (h0, .inr (14, [.ref h2, v0, v1, v2, v3, v4, v5, .ref h1, .int 1, v6, v7, v8, v9, v10, v11, v12, v13, v14, v15, v16, v17, v18, v19, v20, v21])), (h2, .inl (k2, 8277, .inl (upd (fun _ => 0) 0 1)))] H := hP
  have hD : va_D A [(h1, .inl (k1, 147456, .inl (upd (fun _ => 0) 1 1))), (h0, .inr (14, [.ref h2, v0, v1, v2, v3, v4, v5, .ref h1, .int 1, v6, v7, v8, v9, v10, v11, v12, v13, v14, v15, v16, v17, v18, v19, v20, v21])), (h2, .inl (k2, 8277, .inl (upd (fun _ => 0) 0 1)))] := hD
  refine lv_iinc (v := 5) (lv' := [(3, .int 5), (2, .int 0), (0, .ref h0), (1, .int 0)]) hx hb dX11_renews_126 hl (k := 0) rfl (by decide +kernel) (by decide) rfl (fun ls hl => ?_)
  refine lv_goto (tgt := 78) hx hb dX11_renews_129 (by decide) ?_
  refine lv_iload_n hx hb dX11_renews_78 rfl (lv_at hl 0 rfl) ?_
  refine lv_bipush (v := 6) hx hb dX11_renews_79 (by decide) ?_
  refine lv_icmp_ge (tgt := 132) hx hb dX11_renews_81 (by decide) (fun c9 => absurd c9 (by decide +kernel)) (fun _ => ?_)
  refine lv_aload_n hx hb dX11_renews_84 rfl (lv_at hl 2 rfl) ?_
  refine va_get (D := D) (ci := 14) (v := .ref h1) (own := RX11) (C := RX11) (T := TX11) (N := 25) hx hb hts hi_X11 hown hK hP 1 rfl rfl 7 (by decide) (hts (.fieldLink RX11 27 "CanalMapsModel" "pages" "[I") (List.mem_of_getElem? (i := 2) (by decide +kernel))) (fun _ h9 => h9) rfl dX11_renews_85 ?_
  refine lv_bipush (v := 9) hx hb dX11_renews_88 (by decide) ?_
  refine lv_iload_n hx hb dX11_renews_90 rfl (lv_at hl 1 rfl) ?_
  refine lv_imul hx hb dX11_renews_91 ?_
  refine kt_ (v := 0) (by decide +kernel) ?_
  refine lv_iconst (v := 3) hx hb dX11_renews_92 (by decide) ?_
  refine lv_iadd hx hb dX11_renews_93 ?_
  refine kt_ (v := 3) (by decide +kernel) ?_
  refine lv_iload_n hx hb dX11_renews_94 rfl (lv_at hl 0 rfl) ?_
  refine lv_iadd hx hb dX11_renews_95 ?_
  refine kt_ (v := 8) (by decide +kernel) ?_
  refine lv_iload_n hx hb dX11_renews_96 rfl (lv_at hl 0 rfl) ?_
  refine lv_aload_n hx hb dX11_renews_97 rfl (lv_at hl 2 rfl) ?_
  refine va_get (D := D) (ci := 14) (v := .ref h2) (own := RX11) (C := RX11) (T := TX11) (N := 25) hx hb hts hi_X11 hown hK hP 1 rfl rfl 0 (by decide) (hts (.fieldLink RX11 9 "CanalMapsModel" "now" "[I") (List.mem_of_getElem? (i := 3) (by decide +kernel))) (fun _ h9 => h9) rfl dX11_renews_98 ?_
  refine lv_iconst (v := 0) hx hb dX11_renews_101 (by decide) ?_
  refine va_iald hx hb hK hP 2 1 rfl rfl (vin_ (by decide +kernel)) dX11_renews_102 ?_
  refine kt_ (v := 1) (by decide +kernel) ?_
  refine lv_icmp_ge (tgt := 124) hx hb dX11_renews_103 (by decide) (fun _ => ?_) (fun c9 => absurd (by decide +kernel) c9)
  refine lv_iconst (v := 0) hx hb dX11_renews_124 (by decide) ?_
  refine ka_iast (g := (upd (fun _ => 0) 1 1)) hx hb hK hP hD hS 0 0 rfl rfl (vin_ (by decide +kernel)) (up_same (by decide +kernel)) dX11_renews_125 (fun H locs hP hD hS => ?_)
  have hP : va_P D vwCl [(h1, .inl (k1, 147456, .inl (upd (fun _ => 0) 1 1))), (h0, .inr (14, [.ref h2, v0, v1, v2, v3, v4, v5, .ref h1, .int 1, v6, v7, v8, v9, v10, v11, v12, v13, v14, v15, v16, v17, v18, v19, v20, v21])), (h2, .inl (k2, 8277, .inl (upd (fun _ => 0) 0 1)))] H := hP
  have hD : va_D A [(h1, .inl (k1, 147456, .inl (upd (fun _ => 0) 1 1))), (h0, .inr (14, [.ref h2, v0, v1, v2, v3, v4, v5, .ref h1, .int 1, v6, v7, v8, v9, v10, v11, v12, v13, v14, v15, v16, v17, v18, v19, v20, v21])), (h2, .inl (k2, 8277, .inl (upd (fun _ => 0) 0 1)))] := hD
  refine lv_iinc (v := 6) (lv' := [(3, .int 6), (2, .int 0), (0, .ref h0), (1, .int 0)]) hx hb dX11_renews_126 hl (k := 0) rfl (by decide +kernel) (by decide) rfl (fun ls hl => ?_)
  refine lv_goto (tgt := 78) hx hb dX11_renews_129 (by decide) ?_
  refine lv_iload_n hx hb dX11_renews_78 rfl (lv_at hl 0 rfl) ?_
  refine lv_bipush (v := 6) hx hb dX11_renews_79 (by decide) ?_
  refine lv_icmp_ge (tgt := 132) hx hb dX11_renews_81 (by decide) (fun _ => ?_) (fun c9 => absurd (by decide +kernel) c9)
  refine lv_aload_n hx hb dX11_renews_132 rfl (lv_at hl 2 rfl) ?_
  refine va_get (D := D) (ci := 14) (v := .ref h2) (own := RX11) (C := RX11) (T := TX11) (N := 25) hx hb hts hi_X11 hown hK hP 1 rfl rfl 0 (by decide) (hts (.fieldLink RX11 9 "CanalMapsModel" "now" "[I") (List.mem_of_getElem? (i := 3) (by decide +kernel))) (fun _ h9 => h9) rfl dX11_renews_133 ?_
  refine lv_bipush (v := 48) hx hb dX11_renews_136 (by decide) ?_
  refine lv_bipush (v := 6) hx hb dX11_renews_138 (by decide) ?_
  refine lv_iload_n hx hb dX11_renews_140 rfl (lv_at hl 3 rfl) ?_
  refine lv_imul hx hb dX11_renews_141 ?_
  refine kt_ (v := 0) (by decide +kernel) ?_
  refine lv_iadd hx hb dX11_renews_142 ?_
  refine kt_ (v := 48) (by decide +kernel) ?_
  refine lv_iload_n hx hb dX11_renews_143 rfl (lv_at hl 3 rfl) ?_
  refine lv_iadd hx hb dX11_renews_144 ?_
  refine kt_ (v := 48) (by decide +kernel) ?_
  refine lv_iload_n hx hb dX11_renews_145 rfl (lv_at hl 1 rfl) ?_
  refine lv_iconst (v := 1) hx hb dX11_renews_146 (by decide) ?_
  refine lv_iadd hx hb dX11_renews_147 ?_
  refine kt_ (v := 1) (by decide +kernel) ?_
  refine ka_iast (g := (upd (upd (fun _ => 0) 0 1) 48 1)) hx hb hK hP hD hS 2 1 rfl rfl (vin_ (by decide +kernel)) (congrArg (fun z9 => upd _ z9 _) (by decide +kernel)) dX11_renews_148 (fun H locs hP hD hS => ?_)
  have hP : va_P D vwCl [(h1, .inl (k1, 147456, .inl (upd (fun _ => 0) 1 1))), (h0, .inr (14, [.ref h2, v0, v1, v2, v3, v4, v5, .ref h1, .int 1, v6, v7, v8, v9, v10, v11, v12, v13, v14, v15, v16, v17, v18, v19, v20, v21])), (h2, .inl (k2, 8277, .inl (upd (upd (fun _ => 0) 0 1) 48 1)))] H := hP
  have hD : va_D A [(h1, .inl (k1, 147456, .inl (upd (fun _ => 0) 1 1))), (h0, .inr (14, [.ref h2, v0, v1, v2, v3, v4, v5, .ref h1, .int 1, v6, v7, v8, v9, v10, v11, v12, v13, v14, v15, v16, v17, v18, v19, v20, v21])), (h2, .inl (k2, 8277, .inl (upd (upd (fun _ => 0) 0 1) 48 1)))] := hD
  refine lv_aload_n hx hb dX11_renews_149 rfl (lv_at hl 2 rfl) ?_
  refine va_get (D := D) (ci := 14) (v := .ref h2) (own := RX11) (C := RX11) (T := TX11) (N := 25) hx hb hts hi_X11 hown hK hP 1 rfl rfl 0 (by decide) (hts (.fieldLink RX11 9 "CanalMapsModel" "now" "[I") (List.mem_of_getElem? (i := 3) (by decide +kernel))) (fun _ h9 => h9) rfl dX11_renews_150 ?_
  refine lv_iconst (v := 5) hx hb dX11_renews_153 (by decide) ?_
  refine lv_dup2_11 hx hb dX11_renews_154 rfl rfl ?_
  refine va_iald hx hb hK hP 2 1 rfl rfl (vin_ (by decide +kernel)) dX11_renews_155 ?_
  refine kt_ (v := 0) (by decide +kernel) ?_
  refine lv_iconst (v := 1) hx hb dX11_renews_156 (by decide) ?_
  refine lv_iadd hx hb dX11_renews_157 ?_
  refine kt_ (v := 1) (by decide +kernel) ?_
  refine ka_iast (g := (upd (upd (upd (fun _ => 0) 0 1) 48 1) 5 1)) hx hb hK hP hD hS 2 1 rfl rfl (vin_ (by decide +kernel)) (congrArg (fun z9 => upd _ z9 _) (by decide +kernel)) dX11_renews_158 (fun H locs hP hD hS => ?_)
  have hP : va_P D vwCl [(h1, .inl (k1, 147456, .inl (upd (fun _ => 0) 1 1))), (h0, .inr (14, [.ref h2, v0, v1, v2, v3, v4, v5, .ref h1, .int 1, v6, v7, v8, v9, v10, v11, v12, v13, v14, v15, v16, v17, v18, v19, v20, v21])), (h2, .inl (k2, 8277, .inl (upd (upd (upd (fun _ => 0) 0 1) 48 1) 5 1)))] H := hP
  have hD : va_D A [(h1, .inl (k1, 147456, .inl (upd (fun _ => 0) 1 1))), (h0, .inr (14, [.ref h2, v0, v1, v2, v3, v4, v5, .ref h1, .int 1, v6, v7, v8, v9, v10, v11, v12, v13, v14, v15, v16, v17, v18, v19, v20, v21])), (h2, .inl (k2, 8277, .inl (upd (upd (upd (fun _ => 0) 0 1) 48 1) 5 1)))] := hD
  refine lv_aload_n hx hb dX11_renews_159 rfl (lv_at hl 2 rfl) ?_
  refine lv_iload_n hx hb dX11_renews_160 rfl (lv_at hl 3 rfl) ?_
  refine lv_iconst (v := (-1)) hx hb dX11_renews_161 (by decide) ?_
  refine lv_iload_n hx hb dX11_renews_162 rfl (lv_at hl 1 rfl) ?_
  refine kc_ (wc := [(h0, .inr (14, [.ref h2, v0, v1, v2, v3, v4, v5, .ref h1, .int 1, v6, v7, v8, v9, v10, v11, v12, v13, v14, v15, v16, v17, v18, v19, v20, v21])), (h2, .inl (k2, 8277, .inl (upd (upd (upd (fun _ => 0) 0 1) 48 1) 5 1)))]) (wr := [(h1, .inl (k1, 147456, .inl (upd (fun _ => 0) 1 1)))]) (va_runV (As := [.int 0, .int (-1), .int 0]) (rest := []) ⟨hx, hb, hml, hown, hts⟩ (c_X11_floods_0 l hl0 D ad H.size h0 h2 k2 (v0) (v1) (v2) (v3) (v4) (v5) (.ref h1) (.int 1) (v6) (v7) (v8) (v9) (v10) (v11) (v12) (v13) (v14) (v15) (v16) (v17) (v18) (v19) (v20) (v21)) (cwV 3 hts gX11_renews_X11_floods rfl rfl rfl (by decide +kernel) ⟨Nat.le_of_ble_eq_true rfl, Nat.le_of_ble_eq_true rfl⟩) ⟨PC_.blind, va_recv hK hP (ci := 14) (q0 := 1) rfl rfl, PC_.pre hF hK hP hD hS hA [1, 2] [1] rfl (by decide) rfl⟩ rfl rfl hl.1 rfl (lv_room (Nat.le_of_ble_eq_true rfl)) dX11_renews_163 ⟨Nat.le_of_ble_eq_true rfl, Nat.le_of_ble_eq_true rfl⟩) hK hP hD hS hA [1, 2] [0] [0] rfl rfl (by decide) (by decide) rfl (fun qa_3 ka_3 ia_3 H locs hpo hP hD hK hS => ?_)
  have hP : va_P D vwCl [(h1, .inl (k1, 147456, .inl (upd (fun _ => 0) 1 1))), (h0, .inr (14, [.ref h2, v0, v1, v2, v3, v4, v5, .ref h1, .int 1, v6, v7, v8, v9, v10, v11, v12, v13, v14, v15, v16, v17, v18, v19, v20, v21])), (h2, .inl (k2, 8277, .inl (upd (upd (upd (fun _ => 0) 0 1) 48 1) 5 1)))] H := hP
  have hD : va_D A [(h1, .inl (k1, 147456, .inl (upd (fun _ => 0) 1 1))), (h0, .inr (14, [.ref h2, v0, v1, v2, v3, v4, v5, .ref h1, .int 1, v6, v7, v8, v9, v10, v11, v12, v13, v14, v15, v16, v17, v18, v19, v20, v21])), (h2, .inl (k2, 8277, .inl (upd (upd (upd (fun _ => 0) 0 1) 48 1) 5 1)))] := hD
  have hK : va_K D vwCl [(k1, .int), (k2, .int)] s := hK
  refine W.eq (g2 := F0 m 166 ls []) rfl ?_
  refine W.widen (k := 0) (n := 0) (Nat.le_of_ble_eq_true rfl) (Nat.le_of_ble_eq_true rfl) ?_
  exact W.vret hx hb hr (QG_.mk (fun _ => 0) (fun _ => 0) (fun _ => 0) [1, 0, 2] [0, 1] hP hD hK hS rfl trivial rfl (by decide) rfl) hS.2.2 dX11_renews_166
set_option maxHeartbeats 4000000 in
set_option maxRecDepth 100000 in
theorem c_X11_does_0 (l : Launch) (hl0 : l.stackTraces = false) (D : va_G) (ad : Nat → Nat) (sz : Nat) (h0 : Nat) (v0 : Value) (v1 : Value) (v2 : Value) (v3 : Value) (v4 : Value) (v5 : Value) (v6 : Value) (v7 : Value) (v8 : Value) (v9 : Value) (v10 : Value) (v11 : Value) (v12 : Value) (v13 : Value) (v14 : Value) (v15 : Value) (v16 : Value) (v17 : Value) (v18 : Value) (v19 : Value) (v20 : Value) (v21 : Value) (v22 : Value) (v23 : Value) (v24 : Value) : Met l yX11_does wsX11_does ({ frames := 0, cells := 0, slots := 0, locals := 0 }) (PC_ D ad [(h0, .inr (14, [v0, v1, v2, v3, v4, v5, v6, v7, v8, v9, v10, v11, v12, v13, v14, v15, v16, v17, v18, v19, v20, v21, v22, v23, v24]))] [] sz [.ref h0, .int 0]) (QG_ D (fun q i => some (.int 1)) (fun q i => True) (fun q k i => [(h0, .inr (14, [v0, v1, v2, v3, v4, v5, v6, v7, v8, v9, v10, v11, v12, v13, v14, v15, v16, v17, v18, v19, v20, v21, .int 0, v23, v24]))]) (fun q k i => []) (va_A [(h0, .inr (14, [v0, v1, v2, v3, v4, v5, v6, v7, v8, v9, v10, v11, v12, v13, v14, v15, v16, v17, v18, v19, v20, v21, v22, v23, v24]))] sz)) 0 0 (va_A [(h0, .inr (14, [v0, v1, v2, v3, v4, v5, v6, v7, v8, v9, v10, v11, v12, v13, v14, v15, v16, v17, v18, v19, v20, v21, v22, v23, v24]))] sz) := by
  refine Met.ofW (cc := cX11_does) (maxL := 2) (ret := (some .boolean)) (by decide) rfl ?_
  intro p e s m args below meth c s₁ B hml hv
  obtain ⟨rfl, hsz, hP, hK, hD0, hF⟩ := hv
  have hx := B.exec
  have hb := B.bytes
  have hr := B.returns
  have hts := atoms_spec (ws := wsX11_does) B.pre
  have hown : s.vm.findClass RX11 = some m.cls := findClass_of_methodNamed B.named
  have hlocks := B.notSynchronized
  subst hsz
  have hD := hD0.self (sz := s.heap.size)
  generalize hAe : va_A [(h0, .inr (14, [v0, v1, v2, v3, v4, v5, v6, v7, v8, v9, v10, v11, v12, v13, v14, v15, v16, v17, v18, v19, v20, v21, v22, v23, v24]))] s.heap.size = A at hD hF ⊢
  have hA : ∀ q : Nat, s.heap.size ≤ q → A q := fun q h => by rw [← hAe]; exact Or.inr h
  obtain ⟨H, hHe⟩ : ∃ H : Heap, H = s.heap := ⟨_, rfl⟩
  have hS : va_S A s.heap H [] := by rw [hHe]; exact va_S.rf
  have hP : va_P D vwCl [(h0, .inr (14, [v0, v1, v2, v3, v4, v5, v6, v7, v8, v9, v10, v11, v12, v13, v14, v15, v16, v17, v18, v19, v20, v21, v22, v23, v24]))] H := by rw [hHe]; exact hP
  rw [← hHe]
  have hi_X11 : ∀ w ∈ wsX110, w ∈ wsX11_does := by decide +kernel
  have hl := lv_entry [.ref h0, .int 0] (n := 2) (Nat.le_of_ble_eq_true rfl)
  rw [lg_entry_eq]
  generalize (lg_sl [.ref h0, .int 0] ++ List.replicate (2 - (lg_sl [.ref h0, .int 0]).length) Slot.unset).toArray = ls at hl ⊢
  have hl : lv_has ls 2 [(0, .ref h0), (1, .int 0)] := hl
  refine lv_aload_n hx hb dX11_does_0 rfl (lv_at hl 0 rfl) ?_
  refine lv_iload_n hx hb dX11_does_1 rfl (lv_at hl 1 rfl) ?_
  refine va_put (D := D) (ci := 14) (v := .int 0) (ty := .int) (own := RX11) (C := RX11) (T := TX11) (N := 25) hx hb hts hi_X11 tyX11 tyX11_ok nmX11 hown hK hP hD hS 0 rfl rfl 22 (by decide) (hts (.fieldLink RX11 64 "CanalMapsModel" "answer" "I") (List.mem_of_getElem? (i := 1) (by decide +kernel))) (fun _ h9 => h9) rfl (by decide +kernel) rfl rfl (Nat.le_of_ble_eq_true rfl) dX11_does_2 (fun H locs hP hD hS => ?_)
  have hP : va_P D vwCl [(h0, .inr (14, [v0, v1, v2, v3, v4, v5, v6, v7, v8, v9, v10, v11, v12, v13, v14, v15, v16, v17, v18, v19, v20, v21, .int 0, v23, v24]))] H := hP
  have hD : va_D A [(h0, .inr (14, [v0, v1, v2, v3, v4, v5, v6, v7, v8, v9, v10, v11, v12, v13, v14, v15, v16, v17, v18, v19, v20, v21, .int 0, v23, v24]))] := hD
  refine lv_iconst (v := 1) hx hb dX11_does_5 (by decide) ?_
  refine W.widen (k := 0) (n := 0) (Nat.le_of_ble_eq_true rfl) (Nat.le_of_ble_eq_true rfl) ?_
  exact W.zret (v := 1) hx hb hr rfl (QG_.mk (fun _ => 0) (fun _ => 0) (fun _ => 0) [0] [] hP hD hK hS rfl trivial rfl (by decide) rfl) hS.2.2 dX11_does_6
