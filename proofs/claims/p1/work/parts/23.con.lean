set_option maxHeartbeats 4000000 in
set_option maxRecDepth 100000 in
theorem c_L_account_6 (l : Launch) (hl0 : l.stackTraces = false) (D : va_G) (ad : Nat → Nat) (sz : Nat) (h0 : Nat) (h1 : Nat) (h2 : Nat) (k2 : ClassId) (v0 : Value) (v1 : Value) (v2 : Value) (v3 : Value) (v4 : Value) (v5 : Value) (v6 : Value) (v7 : Value) (v8 : Value) (v9 : Value) (v10 : Value) (v11 : Value) (v12 : Value) (v13 : Value) (v14 : Value) (v15 : Value) (v16 : Value) (v17 : Value) (f0 : Nat → Int64) : Met l yL_account wsL_account ({ frames := 1, cells := 0, slots := 0, locals := 23 }) (PC_ D ad [(h0, .inr (13, [.ref h1, v0, v1, v2, v3, v4, v5, v6, v7, v8])), (h1, .inr (11, [v9, v10, v11, v12, v13, v14, v15, v16, .int 0, v17])), (h2, .inl (k2, 1, .inr (.inl f0)))] [(k2, .long)] sz [.ref h0, .int 6, .ref h2]) (QG_ D (fun q i => some (.int 0)) (fun q i => True) (fun q k i => [(h0, .inr (13, [.ref h1, v0, v1, v2, v3, v4, v5, v6, v7, v8])), (h1, .inr (11, [v9, v10, v11, v12, v13, v14, v15, v16, .int 0, v17])), (h2, .inl (k2, 1, .inr (.inl (vp_updL f0 0 0))))]) (fun q k i => [(k2, .long)]) (va_A [(h0, .inr (13, [.ref h1, v0, v1, v2, v3, v4, v5, v6, v7, v8])), (h1, .inr (11, [v9, v10, v11, v12, v13, v14, v15, v16, .int 0, v17])), (h2, .inl (k2, 1, .inr (.inl f0)))] sz)) 0 0 (va_A [(h0, .inr (13, [.ref h1, v0, v1, v2, v3, v4, v5, v6, v7, v8])), (h1, .inr (11, [v9, v10, v11, v12, v13, v14, v15, v16, .int 0, v17])), (h2, .inl (k2, 1, .inr (.inl f0)))] sz) := by
  refine va_MetW (cc := cL_account) (maxL := 4) (ret := (some .int)) (by decide) rfl ?_
  intro p e s m args below meth c s₁ B hml hv
  obtain ⟨rfl, hsz, hP, hK, hD0, hF⟩ := hv
  have hx := B.exec
  have hb := B.bytes
  have hr := B.returns
  have hts := atoms_spec (ws := wsL_account) B.pre
  have hown : s.vm.findClass RL = some m.cls := findClass_of_methodNamed B.named
  have hlocks := B.notSynchronized
  have htb := vx_table B (hts _ (List.mem_cons_self))
  subst hsz
  have hD := hD0.self (sz := s.heap.size)
  generalize hAe : va_A [(h0, .inr (13, [.ref h1, v0, v1, v2, v3, v4, v5, v6, v7, v8])), (h1, .inr (11, [v9, v10, v11, v12, v13, v14, v15, v16, .int 0, v17])), (h2, .inl (k2, 1, .inr (.inl f0)))] s.heap.size = A at hD hF ⊢
  have hA : ∀ q : Nat, s.heap.size ≤ q → A q := fun q h => by rw [← hAe]; exact Or.inr h
  obtain ⟨H, hHe⟩ : ∃ H : Heap, H = s.heap := ⟨_, rfl⟩
  have hS : va_S A s.heap H [] := by rw [hHe]; exact va_S.rf
  have hP : va_P D vwCl [(h0, .inr (13, [.ref h1, v0, v1, v2, v3, v4, v5, v6, v7, v8])), (h1, .inr (11, [v9, v10, v11, v12, v13, v14, v15, v16, .int 0, v17])), (h2, .inl (k2, 1, .inr (.inl f0)))] H := by rw [hHe]; exact hP
  rw [← hHe]
  have hi_X10 : ∀ w ∈ wsX100, w ∈ wsL_account := by decide +kernel
  have hi_X8 : ∀ w ∈ wsX80, w ∈ wsL_account := by decide +kernel
  have hl := lv_entry [.ref h0, .int 6, .ref h2] (n := 4) (Nat.le_of_ble_eq_true rfl)
  rw [lg_entry_eq]
  generalize (lg_sl [.ref h0, .int 6, .ref h2] ++ List.replicate (4 - (lg_sl [.ref h0, .int 6, .ref h2]).length) Slot.unset).toArray = ls at hl ⊢
  have hl : lv_has ls 4 [(0, .ref h0), (1, .int 6), (2, .ref h2)] := hl
  refine lv_aload_n hx hb dL_account_0 rfl (lv_at hl 2 rfl) ?_
  refine lv_iconst (v := 0) hx hb dL_account_1 (by decide) ?_
  refine lv_aload_n hx hb dL_account_2 rfl (lv_at hl 0 rfl) ?_
  refine lv_iload_n hx hb dL_account_3 rfl (lv_at hl 1 rfl) ?_
  refine kc_ (wc := [(h0, .inr (13, [.ref h1, v0, v1, v2, v3, v4, v5, v6, v7, v8])), (h1, .inr (11, [v9, v10, v11, v12, v13, v14, v15, v16, .int 0, v17]))]) (wr := [(h2, .inl (k2, 1, .inr (.inl f0)))]) (va_runV (As := [.int 6]) (rest := [.int 0, .ref h2]) ⟨hx, hb, hml, hown, hts⟩ (c_X10_account_6 l hl0 D ad H.size h0 h1 (v0) (v1) (v2) (v3) (v4) (v5) (v6) (v7) (v8) (v9) (v10) (v11) (v12) (v13) (v14) (v15) (v16) (v17)) (cwV 1 hts gL_account_X10_account rfl rfl rfl (by decide +kernel) ⟨Nat.le_of_ble_eq_true rfl, Nat.le_of_ble_eq_true rfl⟩) ⟨PC_.blind, va_recv hK hP (ci := 13) (q0 := 0) rfl rfl, PC_.pre hF hK hP hD hS hA [0, 1] [] rfl (by decide) rfl⟩ rfl rfl hl.1 rfl (lv_room (Nat.le_of_ble_eq_true rfl)) dL_account_4 ⟨Nat.le_of_ble_eq_true rfl, Nat.le_of_ble_eq_true rfl⟩) hK hP hD hS hA [0, 1] [2] [0] rfl rfl (by decide) (by decide) rfl (fun qa_1 ka_1 ia_1 H locs hpo hP hD hK hS => ?_)
  have hP : va_P D vwCl [(h2, .inl (k2, 1, .inr (.inl f0))), (h0, .inr (13, [.ref h1, v0, v1, v2, v3, v4, v5, v6, v7, v8])), (h1, .inr (11, [v9, v10, v11, v12, v13, v14, v15, v16, .int 0, v17]))] H := hP
  have hD : va_D A [(h2, .inl (k2, 1, .inr (.inl f0))), (h0, .inr (13, [.ref h1, v0, v1, v2, v3, v4, v5, v6, v7, v8])), (h1, .inr (11, [v9, v10, v11, v12, v13, v14, v15, v16, .int 0, v17]))] := hD
  have hK : va_K D vwCl [(k2, .long)] s := hK
  refine W.eq (g2 := F0 m 7 ls [.int 0, .int 0, .ref h2]) rfl ?_
  refine lv_i2l (v := 0) hx hb dL_account_7 (by decide +kernel) ?_
  refine ka_last (g := (vp_updL f0 0 0)) hx hb hK hP hD hS 0 0 rfl rfl (vin_ (by decide +kernel)) (congrArg (fun z9 => vp_updL _ z9 _) (by decide +kernel)) dL_account_8 (fun H locs hP hD hS => ?_)
  have hP : va_P D vwCl [(h2, .inl (k2, 1, .inr (.inl (vp_updL f0 0 0)))), (h0, .inr (13, [.ref h1, v0, v1, v2, v3, v4, v5, v6, v7, v8])), (h1, .inr (11, [v9, v10, v11, v12, v13, v14, v15, v16, .int 0, v17]))] H := hP
  have hD : va_D A [(h2, .inl (k2, 1, .inr (.inl (vp_updL f0 0 0)))), (h0, .inr (13, [.ref h1, v0, v1, v2, v3, v4, v5, v6, v7, v8])), (h1, .inr (11, [v9, v10, v11, v12, v13, v14, v15, v16, .int 0, v17]))] := hD
  refine lv_goto (tgt := 15) hx hb dL_account_9 (by decide) ?_
  refine lv_iconst (v := 0) hx hb dL_account_15 (by decide) ?_
  refine W.widen (k := 0) (n := 0) (Nat.le_of_ble_eq_true rfl) (Nat.le_of_ble_eq_true rfl) ?_
  exact W.iret (v := 0) hx hb hr (QG_.mk (fun _ => 0) (fun _ => 0) (fun _ => 0) [1, 2, 0] [0] hP hD hK hS rfl trivial rfl (by decide) rfl) hS.2.2 dL_account_16
set_option maxHeartbeats 4000000 in
set_option maxRecDepth 100000 in
theorem c_X11_account_6 (l : Launch) (hl0 : l.stackTraces = false) (D : va_G) (ad : Nat → Nat) (sz : Nat) (h0 : Nat) (h1 : Nat) (k1 : ClassId) (v0 : Value) (v1 : Value) (v2 : Value) (v3 : Value) (v4 : Value) (v5 : Value) (v6 : Value) (v7 : Value) (v8 : Value) (v9 : Value) (v10 : Value) (v11 : Value) (v12 : Value) (v13 : Value) (v14 : Value) (v15 : Value) (v16 : Value) (v17 : Value) (v18 : Value) (v19 : Value) (v20 : Value) (v21 : Value) (v22 : Value) (v23 : Value) : Met l yX11_account wsX11_account ({ frames := 0, cells := 0, slots := 0, locals := 0 }) (PC_ D ad [(h0, .inr (14, [.ref h1, v0, v1, v2, v3, v4, v5, v6, v7, v8, v9, v10, v11, v12, v13, v14, v15, v16, v17, v18, v19, v20, v21, v22, v23])), (h1, .inl (k1, 8277, .inl (fun _ => 0)))] [(k1, .int)] sz [.ref h0, .int 6]) (QG_ D (fun q i => some (.int 0)) (fun q i => True) (fun q k i => [(h0, .inr (14, [.ref h1, v0, v1, v2, v3, v4, v5, v6, v7, v8, v9, v10, v11, v12, v13, v14, v15, v16, v17, v18, v19, v20, v21, .int 0, v23])), (h1, .inl (k1, 8277, .inl (fun _ => 0)))]) (fun q k i => [(k1, .int)]) (va_A [(h0, .inr (14, [.ref h1, v0, v1, v2, v3, v4, v5, v6, v7, v8, v9, v10, v11, v12, v13, v14, v15, v16, v17, v18, v19, v20, v21, v22, v23])), (h1, .inl (k1, 8277, .inl (fun _ => 0)))] sz)) 0 0 (va_A [(h0, .inr (14, [.ref h1, v0, v1, v2, v3, v4, v5, v6, v7, v8, v9, v10, v11, v12, v13, v14, v15, v16, v17, v18, v19, v20, v21, v22, v23])), (h1, .inl (k1, 8277, .inl (fun _ => 0)))] sz) := by
  refine Met.ofW (cc := cX11_account) (maxL := 4) (ret := (some .int)) (by decide) rfl ?_
  intro p e s m args below meth c s₁ B hml hv
  obtain ⟨rfl, hsz, hP, hK, hD0, hF⟩ := hv
  have hx := B.exec
  have hb := B.bytes
  have hr := B.returns
  have hts := atoms_spec (ws := wsX11_account) B.pre
  have hown : s.vm.findClass RX11 = some m.cls := findClass_of_methodNamed B.named
  have hlocks := B.notSynchronized
  subst hsz
  have hD := hD0.self (sz := s.heap.size)
  generalize hAe : va_A [(h0, .inr (14, [.ref h1, v0, v1, v2, v3, v4, v5, v6, v7, v8, v9, v10, v11, v12, v13, v14, v15, v16, v17, v18, v19, v20, v21, v22, v23])), (h1, .inl (k1, 8277, .inl (fun _ => 0)))] s.heap.size = A at hD hF ⊢
  have hA : ∀ q : Nat, s.heap.size ≤ q → A q := fun q h => by rw [← hAe]; exact Or.inr h
  obtain ⟨H, hHe⟩ : ∃ H : Heap, H = s.heap := ⟨_, rfl⟩
  have hS : va_S A s.heap H [] := by rw [hHe]; exact va_S.rf
  have hP : va_P D vwCl [(h0, .inr (14, [.ref h1, v0, v1, v2, v3, v4, v5, v6, v7, v8, v9, v10, v11, v12, v13, v14, v15, v16, v17, v18, v19, v20, v21, v22, v23])), (h1, .inl (k1, 8277, .inl (fun _ => 0)))] H := by rw [hHe]; exact hP
  rw [← hHe]
  have hi_X11 : ∀ w ∈ wsX110, w ∈ wsX11_account := by decide +kernel
  have hl := lv_entry [.ref h0, .int 6] (n := 4) (Nat.le_of_ble_eq_true rfl)
  rw [lg_entry_eq]
  generalize (lg_sl [.ref h0, .int 6] ++ List.replicate (4 - (lg_sl [.ref h0, .int 6]).length) Slot.unset).toArray = ls at hl ⊢
  have hl : lv_has ls 4 [(0, .ref h0), (1, .int 6)] := hl
  refine lv_aload_n hx hb dX11_account_0 rfl (lv_at hl 0 rfl) ?_
  refine lv_iconst (v := 0) hx hb dX11_account_1 (by decide) ?_
  refine va_put (D := D) (ci := 14) (v := .int 0) (ty := .int) (own := RX11) (C := RX11) (T := TX11) (N := 25) hx hb hts hi_X11 tyX11 tyX11_ok nmX11 hown hK hP hD hS 0 rfl rfl 23 (by decide) (hts (.fieldLink RX11 47 "CanalMapsModel" "thrown" "I") (List.mem_of_getElem? (i := 1) (by decide +kernel))) (fun _ h9 => h9) rfl (by decide +kernel) rfl rfl (Nat.le_of_ble_eq_true rfl) dX11_account_2 (fun H locs hP hD hS => ?_)
  have hP : va_P D vwCl [(h0, .inr (14, [.ref h1, v0, v1, v2, v3, v4, v5, v6, v7, v8, v9, v10, v11, v12, v13, v14, v15, v16, v17, v18, v19, v20, v21, .int 0, v23])), (h1, .inl (k1, 8277, .inl (fun _ => 0)))] H := hP
  have hD : va_D A [(h0, .inr (14, [.ref h1, v0, v1, v2, v3, v4, v5, v6, v7, v8, v9, v10, v11, v12, v13, v14, v15, v16, v17, v18, v19, v20, v21, .int 0, v23])), (h1, .inl (k1, 8277, .inl (fun _ => 0)))] := hD
  refine lv_iconst (v := 0) hx hb dX11_account_5 (by decide) ?_
  refine lv_istore_n (lv' := [(2, .int 0), (0, .ref h0), (1, .int 6)]) hx hb dX11_account_6 rfl hl (by decide) rfl (fun ls hl => ?_)
  refine lv_iload_n hx hb dX11_account_7 rfl (lv_at hl 2 rfl) ?_
  refine lv_tableIn (tgt := 110) (off := 102) hx hb dX11_account_8 (by decide +kernel) (by decide +kernel) (by decide +kernel) (by decide) ?_
  refine lv_aload_n hx hb dX11_account_110 rfl (lv_at hl 1 rfl) ?_
  refine va_get (D := D) (ci := 14) (v := .ref h1) (own := RX11) (C := RX11) (T := TX11) (N := 25) hx hb hts hi_X11 hown hK hP 0 rfl rfl 0 (by decide) (hts (.fieldLink RX11 9 "CanalMapsModel" "now" "[I") (List.mem_of_getElem? (i := 2) (by decide +kernel))) (fun _ h9 => h9) rfl dX11_account_111 ?_
  refine lv_iconst (v := 4) hx hb dX11_account_114 (by decide) ?_
  refine va_iald hx hb hK hP 1 0 rfl rfl (vin_ (by decide +kernel)) dX11_account_115 ?_
  refine kt_ (v := 0) (by decide +kernel) ?_
  refine W.widen (k := 0) (n := 0) (Nat.le_of_ble_eq_true rfl) (Nat.le_of_ble_eq_true rfl) ?_
  exact W.iret (v := 0) hx hb hr (QG_.mk (fun _ => 0) (fun _ => 0) (fun _ => 0) [0, 1] [0] hP hD hK hS rfl trivial rfl (by decide) rfl) hS.2.2 dX11_account_116
set_option maxHeartbeats 4000000 in
set_option maxRecDepth 100000 in
theorem c_X10_account_7 (l : Launch) (hl0 : l.stackTraces = false) (D : va_G) (ad : Nat → Nat) (sz : Nat) (h0 : Nat) (h1 : Nat) (v0 : Value) (v1 : Value) (v2 : Value) (v3 : Value) (v4 : Value) (v5 : Value) (v6 : Value) (v7 : Value) (v8 : Value) (v9 : Value) (v10 : Value) (v11 : Value) (v12 : Value) (v13 : Value) (v14 : Value) (v15 : Value) (v16 : Value) (v17 : Value) : Met l yX10_account wsX10_account ({ frames := 0, cells := 0, slots := 0, locals := 0 }) (PC_ D ad [(h0, .inr (13, [.ref h1, v0, v1, v2, v3, v4, v5, v6, v7, v8])), (h1, .inr (11, [v9, v10, v11, v12, v13, v14, v15, v16, v17, .int 0]))] [] sz [.ref h0, .int 7]) (QG_ D (fun q i => some (.int 0)) (fun q i => True) (fun q k i => [(h0, .inr (13, [.ref h1, v0, v1, v2, v3, v4, v5, v6, v7, v8])), (h1, .inr (11, [v9, v10, v11, v12, v13, v14, v15, v16, v17, .int 0]))]) (fun q k i => []) (va_A [(h0, .inr (13, [.ref h1, v0, v1, v2, v3, v4, v5, v6, v7, v8])), (h1, .inr (11, [v9, v10, v11, v12, v13, v14, v15, v16, v17, .int 0]))] sz)) 0 0 (va_A [(h0, .inr (13, [.ref h1, v0, v1, v2, v3, v4, v5, v6, v7, v8])), (h1, .inr (11, [v9, v10, v11, v12, v13, v14, v15, v16, v17, .int 0]))] sz) := by
  refine Met.ofW (cc := cX10_account) (maxL := 2) (ret := (some .int)) (by decide) rfl ?_
  intro p e s m args below meth c s₁ B hml hv
  obtain ⟨rfl, hsz, hP, hK, hD0, hF⟩ := hv
  have hx := B.exec
  have hb := B.bytes
  have hr := B.returns
  have hts := atoms_spec (ws := wsX10_account) B.pre
  have hown : s.vm.findClass RX10 = some m.cls := findClass_of_methodNamed B.named
  have hlocks := B.notSynchronized
  subst hsz
  have hD := hD0.self (sz := s.heap.size)
  generalize hAe : va_A [(h0, .inr (13, [.ref h1, v0, v1, v2, v3, v4, v5, v6, v7, v8])), (h1, .inr (11, [v9, v10, v11, v12, v13, v14, v15, v16, v17, .int 0]))] s.heap.size = A at hD hF ⊢
  have hA : ∀ q : Nat, s.heap.size ≤ q → A q := fun q h => by rw [← hAe]; exact Or.inr h
  obtain ⟨H, hHe⟩ : ∃ H : Heap, H = s.heap := ⟨_, rfl⟩
  have hS : va_S A s.heap H [] := by rw [hHe]; exact va_S.rf
  have hP : va_P D vwCl [(h0, .inr (13, [.ref h1, v0, v1, v2, v3, v4, v5, v6, v7, v8])), (h1, .inr (11, [v9, v10, v11, v12, v13, v14, v15, v16, v17, .int 0]))] H := by rw [hHe]; exact hP
  rw [← hHe]
  have hi_X10 : ∀ w ∈ wsX100, w ∈ wsX10_account := by decide +kernel
  have hi_X8 : ∀ w ∈ wsX80, w ∈ wsX10_account := by decide +kernel
  have hl := lv_entry [.ref h0, .int 7] (n := 2) (Nat.le_of_ble_eq_true rfl)
  rw [lg_entry_eq]
  generalize (lg_sl [.ref h0, .int 7] ++ List.replicate (2 - (lg_sl [.ref h0, .int 7]).length) Slot.unset).toArray = ls at hl ⊢
  have hl : lv_has ls 2 [(0, .ref h0), (1, .int 7)] := hl
  refine lv_iload_n hx hb dX10_account_0 rfl (lv_at hl 1 rfl) ?_
  refine lv_tableIn (tgt := 122) (off := 121) hx hb dX10_account_1 (by decide +kernel) (by decide +kernel) (by decide +kernel) (by decide) ?_
  refine lv_aload_n hx hb dX10_account_122 rfl (lv_at hl 0 rfl) ?_
  refine va_get (D := D) (ci := 13) (v := .ref h1) (own := RX10) (C := RX10) (T := TX10) (N := 10) hx hb hts hi_X10 hown hK hP 0 rfl rfl 0 (by decide) (hts (.fieldLink RX10 50 "CanalMaps" "now" "LCanalMaps$Survey;") (List.mem_of_getElem? (i := 3) (by decide +kernel))) (fun _ h9 => h9) rfl dX10_account_123 ?_
  refine va_getN (D := D) (ci := 11) (v := .int 0) (own := RX10) (C := RX8) (T := TX8) (N := 10) hx hb hts hi_X8 hown hK hP 1 rfl rfl 9 (by decide) (fxn_ hF (RX10, 375, "CanalMaps$Survey", "made", "I")) (fun _ h9 => h9) rfl dX10_account_126 ?_
  refine W.widen (k := 0) (n := 0) (Nat.le_of_ble_eq_true rfl) (Nat.le_of_ble_eq_true rfl) ?_
  exact W.iret (v := 0) hx hb hr (QG_.mk (fun _ => 0) (fun _ => 0) (fun _ => 0) [0, 1] [] hP hD hK hS rfl trivial rfl (by decide) rfl) hS.2.2 dX10_account_129
set_option maxHeartbeats 4000000 in
set_option maxRecDepth 100000 in
theorem c_L_account_7 (l : Launch) (hl0 : l.stackTraces = false) (D : va_G) (ad : Nat → Nat) (sz : Nat) (h0 : Nat) (h1 : Nat) (h2 : Nat) (k2 : ClassId) (v0 : Value) (v1 : Value) (v2 : Value) (v3 : Value) (v4 : Value) (v5 : Value) (v6 : Value) (v7 : Value) (v8 : Value) (v9 : Value) (v10 : Value) (v11 : Value) (v12 : Value) (v13 : Value) (v14 : Value) (v15 : Value) (v16 : Value) (v17 : Value) (f0 : Nat → Int64) : Met l yL_account wsL_account ({ frames := 1, cells := 0, slots := 0, locals := 23 }) (PC_ D ad [(h0, .inr (13, [.ref h1, v0, v1, v2, v3, v4, v5, v6, v7, v8])), (h1, .inr (11, [v9, v10, v11, v12, v13, v14, v15, v16, v17, .int 0])), (h2, .inl (k2, 1, .inr (.inl f0)))] [(k2, .long)] sz [.ref h0, .int 7, .ref h2]) (QG_ D (fun q i => some (.int 0)) (fun q i => True) (fun q k i => [(h0, .inr (13, [.ref h1, v0, v1, v2, v3, v4, v5, v6, v7, v8])), (h1, .inr (11, [v9, v10, v11, v12, v13, v14, v15, v16, v17, .int 0])), (h2, .inl (k2, 1, .inr (.inl (vp_updL f0 0 0))))]) (fun q k i => [(k2, .long)]) (va_A [(h0, .inr (13, [.ref h1, v0, v1, v2, v3, v4, v5, v6, v7, v8])), (h1, .inr (11, [v9, v10, v11, v12, v13, v14, v15, v16, v17, .int 0])), (h2, .inl (k2, 1, .inr (.inl f0)))] sz)) 0 0 (va_A [(h0, .inr (13, [.ref h1, v0, v1, v2, v3, v4, v5, v6, v7, v8])), (h1, .inr (11, [v9, v10, v11, v12, v13, v14, v15, v16, v17, .int 0])), (h2, .inl (k2, 1, .inr (.inl f0)))] sz) := by
  refine va_MetW (cc := cL_account) (maxL := 4) (ret := (some .int)) (by decide) rfl ?_
  intro p e s m args below meth c s₁ B hml hv
  obtain ⟨rfl, hsz, hP, hK, hD0, hF⟩ := hv
  have hx := B.exec
  have hb := B.bytes
  have hr := B.returns
  have hts := atoms_spec (ws := wsL_account) B.pre
  have hown : s.vm.findClass RL = some m.cls := findClass_of_methodNamed B.named
  have hlocks := B.notSynchronized
  have htb := vx_table B (hts _ (List.mem_cons_self))
  subst hsz
  have hD := hD0.self (sz := s.heap.size)
  generalize hAe : va_A [(h0, .inr (13, [.ref h1, v0, v1, v2, v3, v4, v5, v6, v7, v8])), (h1, .inr (11, [v9, v10, v11, v12, v13, v14, v15, v16, v17, .int 0])), (h2, .inl (k2, 1, .inr (.inl f0)))] s.heap.size = A at hD hF ⊢
  have hA : ∀ q : Nat, s.heap.size ≤ q → A q := fun q h => by rw [← hAe]; exact Or.inr h
  obtain ⟨H, hHe⟩ : ∃ H : Heap, H = s.heap := ⟨_, rfl⟩
  have hS : va_S A s.heap H [] := by rw [hHe]; exact va_S.rf
  have hP : va_P D vwCl [(h0, .inr (13, [.ref h1, v0, v1, v2, v3, v4, v5, v6, v7, v8])), (h1, .inr (11, [v9, v10, v11, v12, v13, v14, v15, v16, v17, .int 0])), (h2, .inl (k2, 1, .inr (.inl f0)))] H := by rw [hHe]; exact hP
  rw [← hHe]
  have hi_X10 : ∀ w ∈ wsX100, w ∈ wsL_account := by decide +kernel
  have hi_X8 : ∀ w ∈ wsX80, w ∈ wsL_account := by decide +kernel
  have hl := lv_entry [.ref h0, .int 7, .ref h2] (n := 4) (Nat.le_of_ble_eq_true rfl)
  rw [lg_entry_eq]
  generalize (lg_sl [.ref h0, .int 7, .ref h2] ++ List.replicate (4 - (lg_sl [.ref h0, .int 7, .ref h2]).length) Slot.unset).toArray = ls at hl ⊢
  have hl : lv_has ls 4 [(0, .ref h0), (1, .int 7), (2, .ref h2)] := hl
  refine lv_aload_n hx hb dL_account_0 rfl (lv_at hl 2 rfl) ?_
  refine lv_iconst (v := 0) hx hb dL_account_1 (by decide) ?_
  refine lv_aload_n hx hb dL_account_2 rfl (lv_at hl 0 rfl) ?_
  refine lv_iload_n hx hb dL_account_3 rfl (lv_at hl 1 rfl) ?_
  refine kc_ (wc := [(h0, .inr (13, [.ref h1, v0, v1, v2, v3, v4, v5, v6, v7, v8])), (h1, .inr (11, [v9, v10, v11, v12, v13, v14, v15, v16, v17, .int 0]))]) (wr := [(h2, .inl (k2, 1, .inr (.inl f0)))]) (va_runV (As := [.int 7]) (rest := [.int 0, .ref h2]) ⟨hx, hb, hml, hown, hts⟩ (c_X10_account_7 l hl0 D ad H.size h0 h1 (v0) (v1) (v2) (v3) (v4) (v5) (v6) (v7) (v8) (v9) (v10) (v11) (v12) (v13) (v14) (v15) (v16) (v17)) (cwV 1 hts gL_account_X10_account rfl rfl rfl (by decide +kernel) ⟨Nat.le_of_ble_eq_true rfl, Nat.le_of_ble_eq_true rfl⟩) ⟨PC_.blind, va_recv hK hP (ci := 13) (q0 := 0) rfl rfl, PC_.pre hF hK hP hD hS hA [0, 1] [] rfl (by decide) rfl⟩ rfl rfl hl.1 rfl (lv_room (Nat.le_of_ble_eq_true rfl)) dL_account_4 ⟨Nat.le_of_ble_eq_true rfl, Nat.le_of_ble_eq_true rfl⟩) hK hP hD hS hA [0, 1] [2] [0] rfl rfl (by decide) (by decide) rfl (fun qa_1 ka_1 ia_1 H locs hpo hP hD hK hS => ?_)
  have hP : va_P D vwCl [(h2, .inl (k2, 1, .inr (.inl f0))), (h0, .inr (13, [.ref h1, v0, v1, v2, v3, v4, v5, v6, v7, v8])), (h1, .inr (11, [v9, v10, v11, v12, v13, v14, v15, v16, v17, .int 0]))] H := hP
  have hD : va_D A [(h2, .inl (k2, 1, .inr (.inl f0))), (h0, .inr (13, [.ref h1, v0, v1, v2, v3, v4, v5, v6, v7, v8])), (h1, .inr (11, [v9, v10, v11, v12, v13, v14, v15, v16, v17, .int 0]))] := hD
  have hK : va_K D vwCl [(k2, .long)] s := hK
  refine W.eq (g2 := F0 m 7 ls [.int 0, .int 0, .ref h2]) rfl ?_
  refine lv_i2l (v := 0) hx hb dL_account_7 (by decide +kernel) ?_
  refine ka_last (g := (vp_updL f0 0 0)) hx hb hK hP hD hS 0 0 rfl rfl (vin_ (by decide +kernel)) (congrArg (fun z9 => vp_updL _ z9 _) (by decide +kernel)) dL_account_8 (fun H locs hP hD hS => ?_)
  have hP : va_P D vwCl [(h2, .inl (k2, 1, .inr (.inl (vp_updL f0 0 0)))), (h0, .inr (13, [.ref h1, v0, v1, v2, v3, v4, v5, v6, v7, v8])), (h1, .inr (11, [v9, v10, v11, v12, v13, v14, v15, v16, v17, .int 0]))] H := hP
  have hD : va_D A [(h2, .inl (k2, 1, .inr (.inl (vp_updL f0 0 0)))), (h0, .inr (13, [.ref h1, v0, v1, v2, v3, v4, v5, v6, v7, v8])), (h1, .inr (11, [v9, v10, v11, v12, v13, v14, v15, v16, v17, .int 0]))] := hD
  refine lv_goto (tgt := 15) hx hb dL_account_9 (by decide) ?_
  refine lv_iconst (v := 0) hx hb dL_account_15 (by decide) ?_
  refine W.widen (k := 0) (n := 0) (Nat.le_of_ble_eq_true rfl) (Nat.le_of_ble_eq_true rfl) ?_
  exact W.iret (v := 0) hx hb hr (QG_.mk (fun _ => 0) (fun _ => 0) (fun _ => 0) [1, 2, 0] [0] hP hD hK hS rfl trivial rfl (by decide) rfl) hS.2.2 dL_account_16
set_option maxHeartbeats 4000000 in
set_option maxRecDepth 100000 in
theorem c_X11_account_7 (l : Launch) (hl0 : l.stackTraces = false) (D : va_G) (ad : Nat → Nat) (sz : Nat) (h0 : Nat) (h1 : Nat) (k1 : ClassId) (v0 : Value) (v1 : Value) (v2 : Value) (v3 : Value) (v4 : Value) (v5 : Value) (v6 : Value) (v7 : Value) (v8 : Value) (v9 : Value) (v10 : Value) (v11 : Value) (v12 : Value) (v13 : Value) (v14 : Value) (v15 : Value) (v16 : Value) (v17 : Value) (v18 : Value) (v19 : Value) (v20 : Value) (v21 : Value) (v22 : Value) (v23 : Value) : Met l yX11_account wsX11_account ({ frames := 0, cells := 0, slots := 0, locals := 0 }) (PC_ D ad [(h0, .inr (14, [.ref h1, v0, v1, v2, v3, v4, v5, v6, v7, v8, v9, v10, v11, v12, v13, v14, v15, v16, v17, v18, v19, v20, v21, v22, v23])), (h1, .inl (k1, 8277, .inl (fun _ => 0)))] [(k1, .int)] sz [.ref h0, .int 7]) (QG_ D (fun q i => some (.int 0)) (fun q i => True) (fun q k i => [(h0, .inr (14, [.ref h1, v0, v1, v2, v3, v4, v5, v6, v7, v8, v9, v10, v11, v12, v13, v14, v15, v16, v17, v18, v19, v20, v21, .int 0, v23])), (h1, .inl (k1, 8277, .inl (fun _ => 0)))]) (fun q k i => [(k1, .int)]) (va_A [(h0, .inr (14, [.ref h1, v0, v1, v2, v3, v4, v5, v6, v7, v8, v9, v10, v11, v12, v13, v14, v15, v16, v17, v18, v19, v20, v21, v22, v23])), (h1, .inl (k1, 8277, .inl (fun _ => 0)))] sz)) 0 0 (va_A [(h0, .inr (14, [.ref h1, v0, v1, v2, v3, v4, v5, v6, v7, v8, v9, v10, v11, v12, v13, v14, v15, v16, v17, v18, v19, v20, v21, v22, v23])), (h1, .inl (k1, 8277, .inl (fun _ => 0)))] sz) := by
  refine Met.ofW (cc := cX11_account) (maxL := 4) (ret := (some .int)) (by decide) rfl ?_
  intro p e s m args below meth c s₁ B hml hv
  obtain ⟨rfl, hsz, hP, hK, hD0, hF⟩ := hv
  have hx := B.exec
  have hb := B.bytes
  have hr := B.returns
  have hts := atoms_spec (ws := wsX11_account) B.pre
  have hown : s.vm.findClass RX11 = some m.cls := findClass_of_methodNamed B.named
  have hlocks := B.notSynchronized
  subst hsz
  have hD := hD0.self (sz := s.heap.size)
  generalize hAe : va_A [(h0, .inr (14, [.ref h1, v0, v1, v2, v3, v4, v5, v6, v7, v8, v9, v10, v11, v12, v13, v14, v15, v16, v17, v18, v19, v20, v21, v22, v23])), (h1, .inl (k1, 8277, .inl (fun _ => 0)))] s.heap.size = A at hD hF ⊢
  have hA : ∀ q : Nat, s.heap.size ≤ q → A q := fun q h => by rw [← hAe]; exact Or.inr h
  obtain ⟨H, hHe⟩ : ∃ H : Heap, H = s.heap := ⟨_, rfl⟩
  have hS : va_S A s.heap H [] := by rw [hHe]; exact va_S.rf
  have hP : va_P D vwCl [(h0, .inr (14, [.ref h1, v0, v1, v2, v3, v4, v5, v6, v7, v8, v9, v10, v11, v12, v13, v14, v15, v16, v17, v18, v19, v20, v21, v22, v23])), (h1, .inl (k1, 8277, .inl (fun _ => 0)))] H := by rw [hHe]; exact hP
  rw [← hHe]
  have hi_X11 : ∀ w ∈ wsX110, w ∈ wsX11_account := by decide +kernel
  have hl := lv_entry [.ref h0, .int 7] (n := 4) (Nat.le_of_ble_eq_true rfl)
  rw [lg_entry_eq]
  generalize (lg_sl [.ref h0, .int 7] ++ List.replicate (4 - (lg_sl [.ref h0, .int 7]).length) Slot.unset).toArray = ls at hl ⊢
  have hl : lv_has ls 4 [(0, .ref h0), (1, .int 7)] := hl
  refine lv_aload_n hx hb dX11_account_0 rfl (lv_at hl 0 rfl) ?_
  refine lv_iconst (v := 0) hx hb dX11_account_1 (by decide) ?_
  refine va_put (D := D) (ci := 14) (v := .int 0) (ty := .int) (own := RX11) (C := RX11) (T := TX11) (N := 25) hx hb hts hi_X11 tyX11 tyX11_ok nmX11 hown hK hP hD hS 0 rfl rfl 23 (by decide) (hts (.fieldLink RX11 47 "CanalMapsModel" "thrown" "I") (List.mem_of_getElem? (i := 1) (by decide +kernel))) (fun _ h9 => h9) rfl (by decide +kernel) rfl rfl (Nat.le_of_ble_eq_true rfl) dX11_account_2 (fun H locs hP hD hS => ?_)
  have hP : va_P D vwCl [(h0, .inr (14, [.ref h1, v0, v1, v2, v3, v4, v5, v6, v7, v8, v9, v10, v11, v12, v13, v14, v15, v16, v17, v18, v19, v20, v21, .int 0, v23])), (h1, .inl (k1, 8277, .inl (fun _ => 0)))] H := hP
  have hD : va_D A [(h0, .inr (14, [.ref h1, v0, v1, v2, v3, v4, v5, v6, v7, v8, v9, v10, v11, v12, v13, v14, v15, v16, v17, v18, v19, v20, v21, .int 0, v23])), (h1, .inl (k1, 8277, .inl (fun _ => 0)))] := hD
  refine lv_iconst (v := 0) hx hb dX11_account_5 (by decide) ?_
  refine lv_istore_n (lv' := [(2, .int 0), (0, .ref h0), (1, .int 7)]) hx hb dX11_account_6 rfl hl (by decide) rfl (fun ls hl => ?_)
  refine lv_iload_n hx hb dX11_account_7 rfl (lv_at hl 2 rfl) ?_
  refine lv_tableIn (tgt := 117) (off := 109) hx hb dX11_account_8 (by decide +kernel) (by decide +kernel) (by decide +kernel) (by decide) ?_
  refine lv_aload_n hx hb dX11_account_117 rfl (lv_at hl 1 rfl) ?_
  refine va_get (D := D) (ci := 14) (v := .ref h1) (own := RX11) (C := RX11) (T := TX11) (N := 25) hx hb hts hi_X11 hown hK hP 0 rfl rfl 0 (by decide) (hts (.fieldLink RX11 9 "CanalMapsModel" "now" "[I") (List.mem_of_getElem? (i := 2) (by decide +kernel))) (fun _ h9 => h9) rfl dX11_account_118 ?_
  refine lv_iconst (v := 5) hx hb dX11_account_121 (by decide) ?_
  refine va_iald hx hb hK hP 1 0 rfl rfl (vin_ (by decide +kernel)) dX11_account_122 ?_
  refine kt_ (v := 0) (by decide +kernel) ?_
  refine W.widen (k := 0) (n := 0) (Nat.le_of_ble_eq_true rfl) (Nat.le_of_ble_eq_true rfl) ?_
  exact W.iret (v := 0) hx hb hr (QG_.mk (fun _ => 0) (fun _ => 0) (fun _ => 0) [0, 1] [0] hP hD hK hS rfl trivial rfl (by decide) rfl) hS.2.2 dX11_account_123
set_option maxHeartbeats 4000000 in
set_option maxRecDepth 100000 in
theorem c_X8_countPages_0 (l : Launch) (hl0 : l.stackTraces = false) (D : va_G) (ad : Nat → Nat) (sz : Nat) (h0 : Nat) (v0 : Value) (v1 : Value) (v2 : Value) (v3 : Value) (v4 : Value) (v5 : Value) (v6 : Value) (v7 : Value) (v8 : Value) : Met l yX8_countPages wsX8_countPages ({ frames := 0, cells := 0, slots := 0, locals := 0 }) (PC_ D ad [(h0, .inr (11, [v0, v1, v2, v3, v4, .int 0, v5, v6, v7, v8]))] [] sz [.ref h0]) (QG_ D (fun q i => some (.int 0)) (fun q i => True) (fun q k i => [(h0, .inr (11, [v0, v1, v2, v3, v4, .int 0, v5, v6, v7, v8]))]) (fun q k i => []) (va_A [(h0, .inr (11, [v0, v1, v2, v3, v4, .int 0, v5, v6, v7, v8]))] sz)) 0 0 (va_A [(h0, .inr (11, [v0, v1, v2, v3, v4, .int 0, v5, v6, v7, v8]))] sz) := by
  refine Met.ofW (cc := cX8_countPages) (maxL := 3) (ret := (some .int)) (by decide) rfl ?_
  intro p e s m args below meth c s₁ B hml hv
  obtain ⟨rfl, hsz, hP, hK, hD0, hF⟩ := hv
  have hx := B.exec
  have hb := B.bytes
  have hr := B.returns
  have hts := atoms_spec (ws := wsX8_countPages) B.pre
  have hown : s.vm.findClass RX8 = some m.cls := findClass_of_methodNamed B.named
  have hlocks := B.notSynchronized
  subst hsz
  have hD := hD0.self (sz := s.heap.size)
  generalize hAe : va_A [(h0, .inr (11, [v0, v1, v2, v3, v4, .int 0, v5, v6, v7, v8]))] s.heap.size = A at hD hF ⊢
  have hA : ∀ q : Nat, s.heap.size ≤ q → A q := fun q h => by rw [← hAe]; exact Or.inr h
  obtain ⟨H, hHe⟩ : ∃ H : Heap, H = s.heap := ⟨_, rfl⟩
  have hS : va_S A s.heap H [] := by rw [hHe]; exact va_S.rf
  have hP : va_P D vwCl [(h0, .inr (11, [v0, v1, v2, v3, v4, .int 0, v5, v6, v7, v8]))] H := by rw [hHe]; exact hP
  rw [← hHe]
  have hi_X8 : ∀ w ∈ wsX80, w ∈ wsX8_countPages := by decide +kernel
  have hl := lv_entry [.ref h0] (n := 3) (Nat.le_of_ble_eq_true rfl)
  rw [lg_entry_eq]
  generalize (lg_sl [.ref h0] ++ List.replicate (3 - (lg_sl [.ref h0]).length) Slot.unset).toArray = ls at hl ⊢
  have hl : lv_has ls 3 [(0, .ref h0)] := hl
  refine lv_iconst (v := 0) hx hb dX8_countPages_0 (by decide) ?_
  refine lv_istore_n (lv' := [(1, .int 0), (0, .ref h0)]) hx hb dX8_countPages_1 rfl hl (by decide) rfl (fun ls hl => ?_)
  refine lv_iconst (v := 0) hx hb dX8_countPages_2 (by decide) ?_
  refine lv_istore_n (lv' := [(2, .int 0), (1, .int 0), (0, .ref h0)]) hx hb dX8_countPages_3 rfl hl (by decide) rfl (fun ls hl => ?_)
  refine lv_iload_n hx hb dX8_countPages_4 rfl (lv_at hl 0 rfl) ?_
  refine lv_aload_n hx hb dX8_countPages_5 rfl (lv_at hl 2 rfl) ?_
  refine va_get (D := D) (ci := 11) (v := .int 0) (own := RX8) (C := RX8) (T := TX8) (N := 10) hx hb hts hi_X8 hown hK hP 0 rfl rfl 5 (by decide) (hts (.fieldLink RX8 28 "CanalMaps$Survey" "surveyors" "I") (List.mem_of_getElem? (i := 1) (by decide +kernel))) (fun _ h9 => h9) rfl dX8_countPages_6 ?_
  refine lv_icmp_ge (tgt := 26) hx hb dX8_countPages_9 (by decide) (fun _ => ?_) (fun c9 => absurd (by decide +kernel) c9)
  refine lv_iload_n hx hb dX8_countPages_26 rfl (lv_at hl 1 rfl) ?_
  refine W.widen (k := 0) (n := 0) (Nat.le_of_ble_eq_true rfl) (Nat.le_of_ble_eq_true rfl) ?_
  exact W.iret (v := 0) hx hb hr (QG_.mk (fun _ => 0) (fun _ => 0) (fun _ => 0) [0] [] hP hD hK hS rfl trivial rfl (by decide) rfl) hS.2.2 dX8_countPages_27
set_option maxHeartbeats 4000000 in
set_option maxRecDepth 100000 in
theorem c_X10_account_8 (l : Launch) (hl0 : l.stackTraces = false) (D : va_G) (ad : Nat → Nat) (sz : Nat) (h0 : Nat) (h1 : Nat) (v0 : Value) (v1 : Value) (v2 : Value) (v3 : Value) (v4 : Value) (v5 : Value) (v6 : Value) (v7 : Value) (v8 : Value) (v9 : Value) (v10 : Value) (v11 : Value) (v12 : Value) (v13 : Value) (v14 : Value) (v15 : Value) (v16 : Value) (v17 : Value) : Met l yX10_account wsX10_account ({ frames := 1, cells := 0, slots := 0, locals := 24 }) (PC_ D ad [(h0, .inr (13, [.ref h1, v0, v1, v2, v3, v4, v5, v6, v7, v8])), (h1, .inr (11, [v9, v10, v11, v12, v13, .int 0, v14, v15, v16, v17]))] [] sz [.ref h0, .int 8]) (QG_ D (fun q i => some (.int 0)) (fun q i => True) (fun q k i => [(h0, .inr (13, [.ref h1, v0, v1, v2, v3, v4, v5, v6, v7, v8])), (h1, .inr (11, [v9, v10, v11, v12, v13, .int 0, v14, v15, v16, v17]))]) (fun q k i => []) (va_A [(h0, .inr (13, [.ref h1, v0, v1, v2, v3, v4, v5, v6, v7, v8])), (h1, .inr (11, [v9, v10, v11, v12, v13, .int 0, v14, v15, v16, v17]))] sz)) 0 0 (va_A [(h0, .inr (13, [.ref h1, v0, v1, v2, v3, v4, v5, v6, v7, v8])), (h1, .inr (11, [v9, v10, v11, v12, v13, .int 0, v14, v15, v16, v17]))] sz) := by
  refine Met.ofW (cc := cX10_account) (maxL := 2) (ret := (some .int)) (by decide) rfl ?_
  intro p e s m args below meth c s₁ B hml hv
  obtain ⟨rfl, hsz, hP, hK, hD0, hF⟩ := hv
  have hx := B.exec
  have hb := B.bytes
  have hr := B.returns
  have hts := atoms_spec (ws := wsX10_account) B.pre
  have hown : s.vm.findClass RX10 = some m.cls := findClass_of_methodNamed B.named
  have hlocks := B.notSynchronized
  subst hsz
  have hD := hD0.self (sz := s.heap.size)
  generalize hAe : va_A [(h0, .inr (13, [.ref h1, v0, v1, v2, v3, v4, v5, v6, v7, v8])), (h1, .inr (11, [v9, v10, v11, v12, v13, .int 0, v14, v15, v16, v17]))] s.heap.size = A at hD hF ⊢
  have hA : ∀ q : Nat, s.heap.size ≤ q → A q := fun q h => by rw [← hAe]; exact Or.inr h
  obtain ⟨H, hHe⟩ : ∃ H : Heap, H = s.heap := ⟨_, rfl⟩
  have hS : va_S A s.heap H [] := by rw [hHe]; exact va_S.rf
  have hP : va_P D vwCl [(h0, .inr (13, [.ref h1, v0, v1, v2, v3, v4, v5, v6, v7, v8])), (h1, .inr (11, [v9, v10, v11, v12, v13, .int 0, v14, v15, v16, v17]))] H := by rw [hHe]; exact hP
  rw [← hHe]
  have hi_X10 : ∀ w ∈ wsX100, w ∈ wsX10_account := by decide +kernel
  have hi_X8 : ∀ w ∈ wsX80, w ∈ wsX10_account := by decide +kernel
  have hl := lv_entry [.ref h0, .int 8] (n := 2) (Nat.le_of_ble_eq_true rfl)
  rw [lg_entry_eq]
  generalize (lg_sl [.ref h0, .int 8] ++ List.replicate (2 - (lg_sl [.ref h0, .int 8]).length) Slot.unset).toArray = ls at hl ⊢
  have hl : lv_has ls 2 [(0, .ref h0), (1, .int 8)] := hl
  refine lv_iload_n hx hb dX10_account_0 rfl (lv_at hl 1 rfl) ?_
  refine lv_tableIn (tgt := 130) (off := 129) hx hb dX10_account_1 (by decide +kernel) (by decide +kernel) (by decide +kernel) (by decide) ?_
  refine lv_aload_n hx hb dX10_account_130 rfl (lv_at hl 0 rfl) ?_
  refine va_get (D := D) (ci := 13) (v := .ref h1) (own := RX10) (C := RX10) (T := TX10) (N := 10) hx hb hts hi_X10 hown hK hP 0 rfl rfl 0 (by decide) (hts (.fieldLink RX10 50 "CanalMaps" "now" "LCanalMaps$Survey;") (List.mem_of_getElem? (i := 3) (by decide +kernel))) (fun _ h9 => h9) rfl dX10_account_131 ?_
  refine kc_ (wc := [(h1, .inr (11, [v9, v10, v11, v12, v13, .int 0, v14, v15, v16, v17]))]) (wr := [(h0, .inr (13, [.ref h1, v0, v1, v2, v3, v4, v5, v6, v7, v8]))]) (va_runV (As := []) (rest := []) ⟨hx, hb, hml, hown, hts⟩ (c_X8_countPages_0 l hl0 D ad H.size h1 (v9) (v10) (v11) (v12) (v13) (v14) (v15) (v16) (v17)) (cwV 0 hts gX10_account_X8_countPages rfl rfl rfl (by decide +kernel) ⟨Nat.le_of_ble_eq_true rfl, Nat.le_of_ble_eq_true rfl⟩) ⟨PC_.blind, va_recv hK hP (ci := 11) (q0 := 1) rfl rfl, PC_.pre hF hK hP hD hS hA [1] [] rfl (by decide) rfl⟩ rfl rfl hl.1 rfl (lv_room (Nat.le_of_ble_eq_true rfl)) dX10_account_134 ⟨Nat.le_of_ble_eq_true rfl, Nat.le_of_ble_eq_true rfl⟩) hK hP hD hS hA [1] [0] [] rfl rfl (by decide) (by decide) rfl (fun qa_1 ka_1 ia_1 H locs hpo hP hD hK hS => ?_)
  have hP : va_P D vwCl [(h0, .inr (13, [.ref h1, v0, v1, v2, v3, v4, v5, v6, v7, v8])), (h1, .inr (11, [v9, v10, v11, v12, v13, .int 0, v14, v15, v16, v17]))] H := hP
  have hD : va_D A [(h0, .inr (13, [.ref h1, v0, v1, v2, v3, v4, v5, v6, v7, v8])), (h1, .inr (11, [v9, v10, v11, v12, v13, .int 0, v14, v15, v16, v17]))] := hD
  have hK : va_K D vwCl [] s := hK
  refine W.eq (g2 := F0 m 137 ls [.int 0]) rfl ?_
  refine W.widen (k := 0) (n := 0) (Nat.le_of_ble_eq_true rfl) (Nat.le_of_ble_eq_true rfl) ?_
  exact W.iret (v := 0) hx hb hr (QG_.mk (fun _ => 0) (fun _ => 0) (fun _ => 0) [0, 1] [] hP hD hK hS rfl trivial rfl (by decide) rfl) hS.2.2 dX10_account_137
set_option maxHeartbeats 4000000 in
set_option maxRecDepth 100000 in
theorem c_L_account_8 (l : Launch) (hl0 : l.stackTraces = false) (D : va_G) (ad : Nat → Nat) (sz : Nat) (h0 : Nat) (h1 : Nat) (h2 : Nat) (k2 : ClassId) (v0 : Value) (v1 : Value) (v2 : Value) (v3 : Value) (v4 : Value) (v5 : Value) (v6 : Value) (v7 : Value) (v8 : Value) (v9 : Value) (v10 : Value) (v11 : Value) (v12 : Value) (v13 : Value) (v14 : Value) (v15 : Value) (v16 : Value) (v17 : Value) (f0 : Nat → Int64) : Met l yL_account wsL_account ({ frames := 2, cells := 0, slots := 0, locals := 47 }) (PC_ D ad [(h0, .inr (13, [.ref h1, v0, v1, v2, v3, v4, v5, v6, v7, v8])), (h1, .inr (11, [v9, v10, v11, v12, v13, .int 0, v14, v15, v16, v17])), (h2, .inl (k2, 1, .inr (.inl f0)))] [(k2, .long)] sz [.ref h0, .int 8, .ref h2]) (QG_ D (fun q i => some (.int 0)) (fun q i => True) (fun q k i => [(h0, .inr (13, [.ref h1, v0, v1, v2, v3, v4, v5, v6, v7, v8])), (h1, .inr (11, [v9, v10, v11, v12, v13, .int 0, v14, v15, v16, v17])), (h2, .inl (k2, 1, .inr (.inl (vp_updL f0 0 0))))]) (fun q k i => [(k2, .long)]) (va_A [(h0, .inr (13, [.ref h1, v0, v1, v2, v3, v4, v5, v6, v7, v8])), (h1, .inr (11, [v9, v10, v11, v12, v13, .int 0, v14, v15, v16, v17])), (h2, .inl (k2, 1, .inr (.inl f0)))] sz)) 0 0 (va_A [(h0, .inr (13, [.ref h1, v0, v1, v2, v3, v4, v5, v6, v7, v8])), (h1, .inr (11, [v9, v10, v11, v12, v13, .int 0, v14, v15, v16, v17])), (h2, .inl (k2, 1, .inr (.inl f0)))] sz) := by
  refine va_MetW (cc := cL_account) (maxL := 4) (ret := (some .int)) (by decide) rfl ?_
  intro p e s m args below meth c s₁ B hml hv
  obtain ⟨rfl, hsz, hP, hK, hD0, hF⟩ := hv
  have hx := B.exec
  have hb := B.bytes
  have hr := B.returns
  have hts := atoms_spec (ws := wsL_account) B.pre
  have hown : s.vm.findClass RL = some m.cls := findClass_of_methodNamed B.named
  have hlocks := B.notSynchronized
  have htb := vx_table B (hts _ (List.mem_cons_self))
  subst hsz
  have hD := hD0.self (sz := s.heap.size)
  generalize hAe : va_A [(h0, .inr (13, [.ref h1, v0, v1, v2, v3, v4, v5, v6, v7, v8])), (h1, .inr (11, [v9, v10, v11, v12, v13, .int 0, v14, v15, v16, v17])), (h2, .inl (k2, 1, .inr (.inl f0)))] s.heap.size = A at hD hF ⊢
  have hA : ∀ q : Nat, s.heap.size ≤ q → A q := fun q h => by rw [← hAe]; exact Or.inr h
  obtain ⟨H, hHe⟩ : ∃ H : Heap, H = s.heap := ⟨_, rfl⟩
  have hS : va_S A s.heap H [] := by rw [hHe]; exact va_S.rf
  have hP : va_P D vwCl [(h0, .inr (13, [.ref h1, v0, v1, v2, v3, v4, v5, v6, v7, v8])), (h1, .inr (11, [v9, v10, v11, v12, v13, .int 0, v14, v15, v16, v17])), (h2, .inl (k2, 1, .inr (.inl f0)))] H := by rw [hHe]; exact hP
  rw [← hHe]
  have hi_X10 : ∀ w ∈ wsX100, w ∈ wsL_account := by decide +kernel
  have hi_X8 : ∀ w ∈ wsX80, w ∈ wsL_account := by decide +kernel
  have hl := lv_entry [.ref h0, .int 8, .ref h2] (n := 4) (Nat.le_of_ble_eq_true rfl)
  rw [lg_entry_eq]
  generalize (lg_sl [.ref h0, .int 8, .ref h2] ++ List.replicate (4 - (lg_sl [.ref h0, .int 8, .ref h2]).length) Slot.unset).toArray = ls at hl ⊢
  have hl : lv_has ls 4 [(0, .ref h0), (1, .int 8), (2, .ref h2)] := hl
  refine lv_aload_n hx hb dL_account_0 rfl (lv_at hl 2 rfl) ?_
  refine lv_iconst (v := 0) hx hb dL_account_1 (by decide) ?_
  refine lv_aload_n hx hb dL_account_2 rfl (lv_at hl 0 rfl) ?_
  refine lv_iload_n hx hb dL_account_3 rfl (lv_at hl 1 rfl) ?_
  refine kc_ (wc := [(h0, .inr (13, [.ref h1, v0, v1, v2, v3, v4, v5, v6, v7, v8])), (h1, .inr (11, [v9, v10, v11, v12, v13, .int 0, v14, v15, v16, v17]))]) (wr := [(h2, .inl (k2, 1, .inr (.inl f0)))]) (va_runV (As := [.int 8]) (rest := [.int 0, .ref h2]) ⟨hx, hb, hml, hown, hts⟩ (c_X10_account_8 l hl0 D ad H.size h0 h1 (v0) (v1) (v2) (v3) (v4) (v5) (v6) (v7) (v8) (v9) (v10) (v11) (v12) (v13) (v14) (v15) (v16) (v17)) (cwV 1 hts gL_account_X10_account rfl rfl rfl (by decide +kernel) ⟨Nat.le_of_ble_eq_true rfl, Nat.le_of_ble_eq_true rfl⟩) ⟨PC_.blind, va_recv hK hP (ci := 13) (q0 := 0) rfl rfl, PC_.pre hF hK hP hD hS hA [0, 1] [] rfl (by decide) rfl⟩ rfl rfl hl.1 rfl (lv_room (Nat.le_of_ble_eq_true rfl)) dL_account_4 ⟨Nat.le_of_ble_eq_true rfl, Nat.le_of_ble_eq_true rfl⟩) hK hP hD hS hA [0, 1] [2] [0] rfl rfl (by decide) (by decide) rfl (fun qa_1 ka_1 ia_1 H locs hpo hP hD hK hS => ?_)
  have hP : va_P D vwCl [(h2, .inl (k2, 1, .inr (.inl f0))), (h0, .inr (13, [.ref h1, v0, v1, v2, v3, v4, v5, v6, v7, v8])), (h1, .inr (11, [v9, v10, v11, v12, v13, .int 0, v14, v15, v16, v17]))] H := hP
  have hD : va_D A [(h2, .inl (k2, 1, .inr (.inl f0))), (h0, .inr (13, [.ref h1, v0, v1, v2, v3, v4, v5, v6, v7, v8])), (h1, .inr (11, [v9, v10, v11, v12, v13, .int 0, v14, v15, v16, v17]))] := hD
  have hK : va_K D vwCl [(k2, .long)] s := hK
  refine W.eq (g2 := F0 m 7 ls [.int 0, .int 0, .ref h2]) rfl ?_
  refine lv_i2l (v := 0) hx hb dL_account_7 (by decide +kernel) ?_
  refine ka_last (g := (vp_updL f0 0 0)) hx hb hK hP hD hS 0 0 rfl rfl (vin_ (by decide +kernel)) (congrArg (fun z9 => vp_updL _ z9 _) (by decide +kernel)) dL_account_8 (fun H locs hP hD hS => ?_)
  have hP : va_P D vwCl [(h2, .inl (k2, 1, .inr (.inl (vp_updL f0 0 0)))), (h0, .inr (13, [.ref h1, v0, v1, v2, v3, v4, v5, v6, v7, v8])), (h1, .inr (11, [v9, v10, v11, v12, v13, .int 0, v14, v15, v16, v17]))] H := hP
  have hD : va_D A [(h2, .inl (k2, 1, .inr (.inl (vp_updL f0 0 0)))), (h0, .inr (13, [.ref h1, v0, v1, v2, v3, v4, v5, v6, v7, v8])), (h1, .inr (11, [v9, v10, v11, v12, v13, .int 0, v14, v15, v16, v17]))] := hD
  refine lv_goto (tgt := 15) hx hb dL_account_9 (by decide) ?_
  refine lv_iconst (v := 0) hx hb dL_account_15 (by decide) ?_
  refine W.widen (k := 0) (n := 0) (Nat.le_of_ble_eq_true rfl) (Nat.le_of_ble_eq_true rfl) ?_
  exact W.iret (v := 0) hx hb hr (QG_.mk (fun _ => 0) (fun _ => 0) (fun _ => 0) [1, 2, 0] [0] hP hD hK hS rfl trivial rfl (by decide) rfl) hS.2.2 dL_account_16
set_option maxHeartbeats 4000000 in
set_option maxRecDepth 100000 in
theorem c_X11_account_8 (l : Launch) (hl0 : l.stackTraces = false) (D : va_G) (ad : Nat → Nat) (sz : Nat) (h0 : Nat) (h1 : Nat) (k1 : ClassId) (v0 : Value) (v1 : Value) (v2 : Value) (v3 : Value) (v4 : Value) (v5 : Value) (v6 : Value) (v7 : Value) (v8 : Value) (v9 : Value) (v10 : Value) (v11 : Value) (v12 : Value) (v13 : Value) (v14 : Value) (v15 : Value) (v16 : Value) (v17 : Value) (v18 : Value) (v19 : Value) (v20 : Value) (v21 : Value) (v22 : Value) (v23 : Value) : Met l yX11_account wsX11_account ({ frames := 0, cells := 0, slots := 0, locals := 0 }) (PC_ D ad [(h0, .inr (14, [.ref h1, v0, v1, v2, v3, v4, v5, v6, v7, v8, v9, v10, v11, v12, v13, v14, v15, v16, v17, v18, v19, v20, v21, v22, v23])), (h1, .inl (k1, 8277, .inl (fun _ => 0)))] [(k1, .int)] sz [.ref h0, .int 8]) (QG_ D (fun q i => some (.int 0)) (fun q i => True) (fun q k i => [(h0, .inr (14, [.ref h1, v0, v1, v2, v3, v4, v5, v6, v7, v8, v9, v10, v11, v12, v13, v14, v15, v16, v17, v18, v19, v20, v21, .int 0, v23])), (h1, .inl (k1, 8277, .inl (fun _ => 0)))]) (fun q k i => [(k1, .int)]) (va_A [(h0, .inr (14, [.ref h1, v0, v1, v2, v3, v4, v5, v6, v7, v8, v9, v10, v11, v12, v13, v14, v15, v16, v17, v18, v19, v20, v21, v22, v23])), (h1, .inl (k1, 8277, .inl (fun _ => 0)))] sz)) 0 0 (va_A [(h0, .inr (14, [.ref h1, v0, v1, v2, v3, v4, v5, v6, v7, v8, v9, v10, v11, v12, v13, v14, v15, v16, v17, v18, v19, v20, v21, v22, v23])), (h1, .inl (k1, 8277, .inl (fun _ => 0)))] sz) := by
  refine Met.ofW (cc := cX11_account) (maxL := 4) (ret := (some .int)) (by decide) rfl ?_
  intro p e s m args below meth c s₁ B hml hv
  obtain ⟨rfl, hsz, hP, hK, hD0, hF⟩ := hv
  have hx := B.exec
  have hb := B.bytes
  have hr := B.returns
  have hts := atoms_spec (ws := wsX11_account) B.pre
  have hown : s.vm.findClass RX11 = some m.cls := findClass_of_methodNamed B.named
  have hlocks := B.notSynchronized
  subst hsz
  have hD := hD0.self (sz := s.heap.size)
  generalize hAe : va_A [(h0, .inr (14, [.ref h1, v0, v1, v2, v3, v4, v5, v6, v7, v8, v9, v10, v11, v12, v13, v14, v15, v16, v17, v18, v19, v20, v21, v22, v23])), (h1, .inl (k1, 8277, .inl (fun _ => 0)))] s.heap.size = A at hD hF ⊢
  have hA : ∀ q : Nat, s.heap.size ≤ q → A q := fun q h => by rw [← hAe]; exact Or.inr h
  obtain ⟨H, hHe⟩ : ∃ H : Heap, H = s.heap := ⟨_, rfl⟩
  have hS : va_S A s.heap H [] := by rw [hHe]; exact va_S.rf
  have hP : va_P D vwCl [(h0, .inr (14, [.ref h1, v0, v1, v2, v3, v4, v5, v6, v7, v8, v9, v10, v11, v12, v13, v14, v15, v16, v17, v18, v19, v20, v21, v22, v23])), (h1, .inl (k1, 8277, .inl (fun _ => 0)))] H := by rw [hHe]; exact hP
  rw [← hHe]
  have hi_X11 : ∀ w ∈ wsX110, w ∈ wsX11_account := by decide +kernel
  have hl := lv_entry [.ref h0, .int 8] (n := 4) (Nat.le_of_ble_eq_true rfl)
  rw [lg_entry_eq]
  generalize (lg_sl [.ref h0, .int 8] ++ List.replicate (4 - (lg_sl [.ref h0, .int 8]).length) Slot.unset).toArray = ls at hl ⊢
  have hl : lv_has ls 4 [(0, .ref h0), (1, .int 8)] := hl
  refine lv_aload_n hx hb dX11_account_0 rfl (lv_at hl 0 rfl) ?_
  refine lv_iconst (v := 0) hx hb dX11_account_1 (by decide) ?_
  refine va_put (D := D) (ci := 14) (v := .int 0) (ty := .int) (own := RX11) (C := RX11) (T := TX11) (N := 25) hx hb hts hi_X11 tyX11 tyX11_ok nmX11 hown hK hP hD hS 0 rfl rfl 23 (by decide) (hts (.fieldLink RX11 47 "CanalMapsModel" "thrown" "I") (List.mem_of_getElem? (i := 1) (by decide +kernel))) (fun _ h9 => h9) rfl (by decide +kernel) rfl rfl (Nat.le_of_ble_eq_true rfl) dX11_account_2 (fun H locs hP hD hS => ?_)
  have hP : va_P D vwCl [(h0, .inr (14, [.ref h1, v0, v1, v2, v3, v4, v5, v6, v7, v8, v9, v10, v11, v12, v13, v14, v15, v16, v17, v18, v19, v20, v21, .int 0, v23])), (h1, .inl (k1, 8277, .inl (fun _ => 0)))] H := hP
  have hD : va_D A [(h0, .inr (14, [.ref h1, v0, v1, v2, v3, v4, v5, v6, v7, v8, v9, v10, v11, v12, v13, v14, v15, v16, v17, v18, v19, v20, v21, .int 0, v23])), (h1, .inl (k1, 8277, .inl (fun _ => 0)))] := hD
  refine lv_iconst (v := 0) hx hb dX11_account_5 (by decide) ?_
  refine lv_istore_n (lv' := [(2, .int 0), (0, .ref h0), (1, .int 8)]) hx hb dX11_account_6 rfl hl (by decide) rfl (fun ls hl => ?_)
  refine lv_iload_n hx hb dX11_account_7 rfl (lv_at hl 2 rfl) ?_
  refine lv_tableIn (tgt := 124) (off := 116) hx hb dX11_account_8 (by decide +kernel) (by decide +kernel) (by decide +kernel) (by decide) ?_
  refine lv_iconst (v := 0) hx hb dX11_account_124 (by decide) ?_
  refine lv_istore_n (lv' := [(3, .int 0), (2, .int 0), (0, .ref h0), (1, .int 8)]) hx hb dX11_account_125 rfl hl (by decide) rfl (fun ls hl => ?_)
  refine lv_iload_n hx hb dX11_account_126 rfl (lv_at hl 0 rfl) ?_
  refine lv_aload_n hx hb dX11_account_127 rfl (lv_at hl 2 rfl) ?_
  refine va_get (D := D) (ci := 14) (v := .ref h1) (own := RX11) (C := RX11) (T := TX11) (N := 25) hx hb hts hi_X11 hown hK hP 0 rfl rfl 0 (by decide) (hts (.fieldLink RX11 9 "CanalMapsModel" "now" "[I") (List.mem_of_getElem? (i := 2) (by decide +kernel))) (fun _ h9 => h9) rfl dX11_account_128 ?_
  refine lv_iconst (v := 0) hx hb dX11_account_131 (by decide) ?_
  refine va_iald hx hb hK hP 1 0 rfl rfl (vin_ (by decide +kernel)) dX11_account_132 ?_
  refine kt_ (v := 0) (by decide +kernel) ?_
  refine lv_icmp_ge (tgt := 150) hx hb dX11_account_133 (by decide) (fun _ => ?_) (fun c9 => absurd (by decide +kernel) c9)
  refine lv_iload_n hx hb dX11_account_150 rfl (lv_at hl 1 rfl) ?_
  refine W.widen (k := 0) (n := 0) (Nat.le_of_ble_eq_true rfl) (Nat.le_of_ble_eq_true rfl) ?_
  exact W.iret (v := 0) hx hb hr (QG_.mk (fun _ => 0) (fun _ => 0) (fun _ => 0) [0, 1] [0] hP hD hK hS rfl trivial rfl (by decide) rfl) hS.2.2 dX11_account_151
set_option maxHeartbeats 4000000 in
set_option maxRecDepth 100000 in
theorem c_X10_account_9 (l : Launch) (hl0 : l.stackTraces = false) (D : va_G) (ad : Nat → Nat) (sz : Nat) (h0 : Nat) (h1 : Nat) (v0 : Value) (v1 : Value) (v2 : Value) (v3 : Value) (v4 : Value) (v5 : Value) (v6 : Value) (v7 : Value) (v8 : Value) (v9 : Value) (v10 : Value) : Met l yX10_account wsX10_account ({ frames := 0, cells := 0, slots := 0, locals := 0 }) (PC_ D ad [(h0, .inr (13, [v0, v1, v2, .ref h1, v3, v4, v5, v6, v7, v8])), (h1, .inr (7, [v9, v10, .int 0]))] [] sz [.ref h0, .int 9]) (QG_ D (fun q i => some (.int 0)) (fun q i => True) (fun q k i => [(h0, .inr (13, [v0, v1, v2, .ref h1, v3, v4, v5, v6, v7, v8])), (h1, .inr (7, [v9, v10, .int 0]))]) (fun q k i => []) (va_A [(h0, .inr (13, [v0, v1, v2, .ref h1, v3, v4, v5, v6, v7, v8])), (h1, .inr (7, [v9, v10, .int 0]))] sz)) 0 0 (va_A [(h0, .inr (13, [v0, v1, v2, .ref h1, v3, v4, v5, v6, v7, v8])), (h1, .inr (7, [v9, v10, .int 0]))] sz) := by
  refine Met.ofW (cc := cX10_account) (maxL := 2) (ret := (some .int)) (by decide) rfl ?_
  intro p e s m args below meth c s₁ B hml hv
  obtain ⟨rfl, hsz, hP, hK, hD0, hF⟩ := hv
  have hx := B.exec
  have hb := B.bytes
  have hr := B.returns
  have hts := atoms_spec (ws := wsX10_account) B.pre
  have hown : s.vm.findClass RX10 = some m.cls := findClass_of_methodNamed B.named
  have hlocks := B.notSynchronized
  subst hsz
  have hD := hD0.self (sz := s.heap.size)
  generalize hAe : va_A [(h0, .inr (13, [v0, v1, v2, .ref h1, v3, v4, v5, v6, v7, v8])), (h1, .inr (7, [v9, v10, .int 0]))] s.heap.size = A at hD hF ⊢
  have hA : ∀ q : Nat, s.heap.size ≤ q → A q := fun q h => by rw [← hAe]; exact Or.inr h
  obtain ⟨H, hHe⟩ : ∃ H : Heap, H = s.heap := ⟨_, rfl⟩
  have hS : va_S A s.heap H [] := by rw [hHe]; exact va_S.rf
  have hP : va_P D vwCl [(h0, .inr (13, [v0, v1, v2, .ref h1, v3, v4, v5, v6, v7, v8])), (h1, .inr (7, [v9, v10, .int 0]))] H := by rw [hHe]; exact hP
  rw [← hHe]
  have hi_X10 : ∀ w ∈ wsX100, w ∈ wsX10_account := by decide +kernel
  have hi_X4 : ∀ w ∈ wsX40, w ∈ wsX10_account := by decide +kernel
  have hl := lv_entry [.ref h0, .int 9] (n := 2) (Nat.le_of_ble_eq_true rfl)
  rw [lg_entry_eq]
  generalize (lg_sl [.ref h0, .int 9] ++ List.replicate (2 - (lg_sl [.ref h0, .int 9]).length) Slot.unset).toArray = ls at hl ⊢
  have hl : lv_has ls 2 [(0, .ref h0), (1, .int 9)] := hl
  refine lv_iload_n hx hb dX10_account_0 rfl (lv_at hl 1 rfl) ?_
  refine lv_tableIn (tgt := 138) (off := 137) hx hb dX10_account_1 (by decide +kernel) (by decide +kernel) (by decide +kernel) (by decide) ?_
  refine lv_aload_n hx hb dX10_account_138 rfl (lv_at hl 0 rfl) ?_
  refine va_get (D := D) (ci := 13) (v := .ref h1) (own := RX10) (C := RX10) (T := TX10) (N := 10) hx hb hts hi_X10 hown hK hP 0 rfl rfl 3 (by decide) (hts (.fieldLink RX10 63 "CanalMaps" "history" "LCanalMaps$History;") (List.mem_of_getElem? (i := 4) (by decide +kernel))) (fun _ h9 => h9) rfl dX10_account_139 ?_
  refine va_getN (D := D) (ci := 7) (v := .int 0) (own := RX10) (C := RX4) (T := TX4) (N := 3) hx hb hts hi_X4 hown hK hP 1 rfl rfl 2 (by decide) (fxn_ hF (RX10, 381, "CanalMaps$History", "count", "I")) (fun _ h9 => h9) rfl dX10_account_142 ?_
  refine W.widen (k := 0) (n := 0) (Nat.le_of_ble_eq_true rfl) (Nat.le_of_ble_eq_true rfl) ?_
  exact W.iret (v := 0) hx hb hr (QG_.mk (fun _ => 0) (fun _ => 0) (fun _ => 0) [0, 1] [] hP hD hK hS rfl trivial rfl (by decide) rfl) hS.2.2 dX10_account_145
set_option maxHeartbeats 4000000 in
set_option maxRecDepth 100000 in
theorem c_L_account_9 (l : Launch) (hl0 : l.stackTraces = false) (D : va_G) (ad : Nat → Nat) (sz : Nat) (h0 : Nat) (h1 : Nat) (h2 : Nat) (k2 : ClassId) (v0 : Value) (v1 : Value) (v2 : Value) (v3 : Value) (v4 : Value) (v5 : Value) (v6 : Value) (v7 : Value) (v8 : Value) (v9 : Value) (v10 : Value) (f0 : Nat → Int64) : Met l yL_account wsL_account ({ frames := 1, cells := 0, slots := 0, locals := 23 }) (PC_ D ad [(h0, .inr (13, [v0, v1, v2, .ref h1, v3, v4, v5, v6, v7, v8])), (h1, .inr (7, [v9, v10, .int 0])), (h2, .inl (k2, 1, .inr (.inl f0)))] [(k2, .long)] sz [.ref h0, .int 9, .ref h2]) (QG_ D (fun q i => some (.int 0)) (fun q i => True) (fun q k i => [(h0, .inr (13, [v0, v1, v2, .ref h1, v3, v4, v5, v6, v7, v8])), (h1, .inr (7, [v9, v10, .int 0])), (h2, .inl (k2, 1, .inr (.inl (vp_updL f0 0 0))))]) (fun q k i => [(k2, .long)]) (va_A [(h0, .inr (13, [v0, v1, v2, .ref h1, v3, v4, v5, v6, v7, v8])), (h1, .inr (7, [v9, v10, .int 0])), (h2, .inl (k2, 1, .inr (.inl f0)))] sz)) 0 0 (va_A [(h0, .inr (13, [v0, v1, v2, .ref h1, v3, v4, v5, v6, v7, v8])), (h1, .inr (7, [v9, v10, .int 0])), (h2, .inl (k2, 1, .inr (.inl f0)))] sz) := by
  refine va_MetW (cc := cL_account) (maxL := 4) (ret := (some .int)) (by decide) rfl ?_
  intro p e s m args below meth c s₁ B hml hv
  obtain ⟨rfl, hsz, hP, hK, hD0, hF⟩ := hv
  have hx := B.exec
  have hb := B.bytes
  have hr := B.returns
  have hts := atoms_spec (ws := wsL_account) B.pre
  have hown : s.vm.findClass RL = some m.cls := findClass_of_methodNamed B.named
  have hlocks := B.notSynchronized
  have htb := vx_table B (hts _ (List.mem_cons_self))
  subst hsz
  have hD := hD0.self (sz := s.heap.size)
  generalize hAe : va_A [(h0, .inr (13, [v0, v1, v2, .ref h1, v3, v4, v5, v6, v7, v8])), (h1, .inr (7, [v9, v10, .int 0])), (h2, .inl (k2, 1, .inr (.inl f0)))] s.heap.size = A at hD hF ⊢
  have hA : ∀ q : Nat, s.heap.size ≤ q → A q := fun q h => by rw [← hAe]; exact Or.inr h
  obtain ⟨H, hHe⟩ : ∃ H : Heap, H = s.heap := ⟨_, rfl⟩
  have hS : va_S A s.heap H [] := by rw [hHe]; exact va_S.rf
  have hP : va_P D vwCl [(h0, .inr (13, [v0, v1, v2, .ref h1, v3, v4, v5, v6, v7, v8])), (h1, .inr (7, [v9, v10, .int 0])), (h2, .inl (k2, 1, .inr (.inl f0)))] H := by rw [hHe]; exact hP
  rw [← hHe]
  have hi_X10 : ∀ w ∈ wsX100, w ∈ wsL_account := by decide +kernel
  have hi_X4 : ∀ w ∈ wsX40, w ∈ wsL_account := by decide +kernel
  have hl := lv_entry [.ref h0, .int 9, .ref h2] (n := 4) (Nat.le_of_ble_eq_true rfl)
  rw [lg_entry_eq]
  generalize (lg_sl [.ref h0, .int 9, .ref h2] ++ List.replicate (4 - (lg_sl [.ref h0, .int 9, .ref h2]).length) Slot.unset).toArray = ls at hl ⊢
  have hl : lv_has ls 4 [(0, .ref h0), (1, .int 9), (2, .ref h2)] := hl
  refine lv_aload_n hx hb dL_account_0 rfl (lv_at hl 2 rfl) ?_
  refine lv_iconst (v := 0) hx hb dL_account_1 (by decide) ?_
  refine lv_aload_n hx hb dL_account_2 rfl (lv_at hl 0 rfl) ?_
  refine lv_iload_n hx hb dL_account_3 rfl (lv_at hl 1 rfl) ?_
  refine kc_ (wc := [(h0, .inr (13, [v0, v1, v2, .ref h1, v3, v4, v5, v6, v7, v8])), (h1, .inr (7, [v9, v10, .int 0]))]) (wr := [(h2, .inl (k2, 1, .inr (.inl f0)))]) (va_runV (As := [.int 9]) (rest := [.int 0, .ref h2]) ⟨hx, hb, hml, hown, hts⟩ (c_X10_account_9 l hl0 D ad H.size h0 h1 (v0) (v1) (v2) (v3) (v4) (v5) (v6) (v7) (v8) (v9) (v10)) (cwV 1 hts gL_account_X10_account rfl rfl rfl (by decide +kernel) ⟨Nat.le_of_ble_eq_true rfl, Nat.le_of_ble_eq_true rfl⟩) ⟨PC_.blind, va_recv hK hP (ci := 13) (q0 := 0) rfl rfl, PC_.pre hF hK hP hD hS hA [0, 1] [] rfl (by decide) rfl⟩ rfl rfl hl.1 rfl (lv_room (Nat.le_of_ble_eq_true rfl)) dL_account_4 ⟨Nat.le_of_ble_eq_true rfl, Nat.le_of_ble_eq_true rfl⟩) hK hP hD hS hA [0, 1] [2] [0] rfl rfl (by decide) (by decide) rfl (fun qa_1 ka_1 ia_1 H locs hpo hP hD hK hS => ?_)
  have hP : va_P D vwCl [(h2, .inl (k2, 1, .inr (.inl f0))), (h0, .inr (13, [v0, v1, v2, .ref h1, v3, v4, v5, v6, v7, v8])), (h1, .inr (7, [v9, v10, .int 0]))] H := hP
  have hD : va_D A [(h2, .inl (k2, 1, .inr (.inl f0))), (h0, .inr (13, [v0, v1, v2, .ref h1, v3, v4, v5, v6, v7, v8])), (h1, .inr (7, [v9, v10, .int 0]))] := hD
  have hK : va_K D vwCl [(k2, .long)] s := hK
  refine W.eq (g2 := F0 m 7 ls [.int 0, .int 0, .ref h2]) rfl ?_
  refine lv_i2l (v := 0) hx hb dL_account_7 (by decide +kernel) ?_
  refine ka_last (g := (vp_updL f0 0 0)) hx hb hK hP hD hS 0 0 rfl rfl (vin_ (by decide +kernel)) (congrArg (fun z9 => vp_updL _ z9 _) (by decide +kernel)) dL_account_8 (fun H locs hP hD hS => ?_)
  have hP : va_P D vwCl [(h2, .inl (k2, 1, .inr (.inl (vp_updL f0 0 0)))), (h0, .inr (13, [v0, v1, v2, .ref h1, v3, v4, v5, v6, v7, v8])), (h1, .inr (7, [v9, v10, .int 0]))] H := hP
  have hD : va_D A [(h2, .inl (k2, 1, .inr (.inl (vp_updL f0 0 0)))), (h0, .inr (13, [v0, v1, v2, .ref h1, v3, v4, v5, v6, v7, v8])), (h1, .inr (7, [v9, v10, .int 0]))] := hD
  refine lv_goto (tgt := 15) hx hb dL_account_9 (by decide) ?_
  refine lv_iconst (v := 0) hx hb dL_account_15 (by decide) ?_
  refine W.widen (k := 0) (n := 0) (Nat.le_of_ble_eq_true rfl) (Nat.le_of_ble_eq_true rfl) ?_
  exact W.iret (v := 0) hx hb hr (QG_.mk (fun _ => 0) (fun _ => 0) (fun _ => 0) [1, 2, 0] [0] hP hD hK hS rfl trivial rfl (by decide) rfl) hS.2.2 dL_account_16
set_option maxHeartbeats 4000000 in
set_option maxRecDepth 100000 in
theorem c_X11_account_9 (l : Launch) (hl0 : l.stackTraces = false) (D : va_G) (ad : Nat → Nat) (sz : Nat) (h0 : Nat) (v0 : Value) (v1 : Value) (v2 : Value) (v3 : Value) (v4 : Value) (v5 : Value) (v6 : Value) (v7 : Value) (v8 : Value) (v9 : Value) (v10 : Value) (v11 : Value) (v12 : Value) (v13 : Value) (v14 : Value) (v15 : Value) (v16 : Value) (v17 : Value) (v18 : Value) (v19 : Value) (v20 : Value) (v21 : Value) (v22 : Value) (v23 : Value) : Met l yX11_account wsX11_account ({ frames := 0, cells := 0, slots := 0, locals := 0 }) (PC_ D ad [(h0, .inr (14, [v0, v1, v2, v3, .int 0, v4, v5, v6, v7, v8, v9, v10, v11, v12, v13, v14, v15, v16, v17, v18, v19, v20, v21, v22, v23]))] [] sz [.ref h0, .int 9]) (QG_ D (fun q i => some (.int 0)) (fun q i => True) (fun q k i => [(h0, .inr (14, [v0, v1, v2, v3, .int 0, v4, v5, v6, v7, v8, v9, v10, v11, v12, v13, v14, v15, v16, v17, v18, v19, v20, v21, .int 0, v23]))]) (fun q k i => []) (va_A [(h0, .inr (14, [v0, v1, v2, v3, .int 0, v4, v5, v6, v7, v8, v9, v10, v11, v12, v13, v14, v15, v16, v17, v18, v19, v20, v21, v22, v23]))] sz)) 0 0 (va_A [(h0, .inr (14, [v0, v1, v2, v3, .int 0, v4, v5, v6, v7, v8, v9, v10, v11, v12, v13, v14, v15, v16, v17, v18, v19, v20, v21, v22, v23]))] sz) := by
  refine Met.ofW (cc := cX11_account) (maxL := 4) (ret := (some .int)) (by decide) rfl ?_
  intro p e s m args below meth c s₁ B hml hv
  obtain ⟨rfl, hsz, hP, hK, hD0, hF⟩ := hv
  have hx := B.exec
  have hb := B.bytes
  have hr := B.returns
  have hts := atoms_spec (ws := wsX11_account) B.pre
  have hown : s.vm.findClass RX11 = some m.cls := findClass_of_methodNamed B.named
  have hlocks := B.notSynchronized
  subst hsz
  have hD := hD0.self (sz := s.heap.size)
  generalize hAe : va_A [(h0, .inr (14, [v0, v1, v2, v3, .int 0, v4, v5, v6, v7, v8, v9, v10, v11, v12, v13, v14, v15, v16, v17, v18, v19, v20, v21, v22, v23]))] s.heap.size = A at hD hF ⊢
  have hA : ∀ q : Nat, s.heap.size ≤ q → A q := fun q h => by rw [← hAe]; exact Or.inr h
  obtain ⟨H, hHe⟩ : ∃ H : Heap, H = s.heap := ⟨_, rfl⟩
  have hS : va_S A s.heap H [] := by rw [hHe]; exact va_S.rf
  have hP : va_P D vwCl [(h0, .inr (14, [v0, v1, v2, v3, .int 0, v4, v5, v6, v7, v8, v9, v10, v11, v12, v13, v14, v15, v16, v17, v18, v19, v20, v21, v22, v23]))] H := by rw [hHe]; exact hP
  rw [← hHe]
  have hi_X11 : ∀ w ∈ wsX110, w ∈ wsX11_account := by decide +kernel
  have hl := lv_entry [.ref h0, .int 9] (n := 4) (Nat.le_of_ble_eq_true rfl)
  rw [lg_entry_eq]
  generalize (lg_sl [.ref h0, .int 9] ++ List.replicate (4 - (lg_sl [.ref h0, .int 9]).length) Slot.unset).toArray = ls at hl ⊢
  have hl : lv_has ls 4 [(0, .ref h0), (1, .int 9)] := hl
  refine lv_aload_n hx hb dX11_account_0 rfl (lv_at hl 0 rfl) ?_
  refine lv_iconst (v := 0) hx hb dX11_account_1 (by decide) ?_
  refine va_put (D := D) (ci := 14) (v := .int 0) (ty := .int) (own := RX11) (C := RX11) (T := TX11) (N := 25) hx hb hts hi_X11 tyX11 tyX11_ok nmX11 hown hK hP hD hS 0 rfl rfl 23 (by decide) (hts (.fieldLink RX11 47 "CanalMapsModel" "thrown" "I") (List.mem_of_getElem? (i := 1) (by decide +kernel))) (fun _ h9 => h9) rfl (by decide +kernel) rfl rfl (Nat.le_of_ble_eq_true rfl) dX11_account_2 (fun H locs hP hD hS => ?_)
  have hP : va_P D vwCl [(h0, .inr (14, [v0, v1, v2, v3, .int 0, v4, v5, v6, v7, v8, v9, v10, v11, v12, v13, v14, v15, v16, v17, v18, v19, v20, v21, .int 0, v23]))] H := hP
  have hD : va_D A [(h0, .inr (14, [v0, v1, v2, v3, .int 0, v4, v5, v6, v7, v8, v9, v10, v11, v12, v13, v14, v15, v16, v17, v18, v19, v20, v21, .int 0, v23]))] := hD
  refine lv_iconst (v := 0) hx hb dX11_account_5 (by decide) ?_
  refine lv_istore_n (lv' := [(2, .int 0), (0, .ref h0), (1, .int 9)]) hx hb dX11_account_6 rfl hl (by decide) rfl (fun ls hl => ?_)
  refine lv_iload_n hx hb dX11_account_7 rfl (lv_at hl 2 rfl) ?_
  refine lv_tableIn (tgt := 152) (off := 144) hx hb dX11_account_8 (by decide +kernel) (by decide +kernel) (by decide +kernel) (by decide) ?_
  refine lv_aload_n hx hb dX11_account_152 rfl (lv_at hl 1 rfl) ?_
  refine va_get (D := D) (ci := 14) (v := .int 0) (own := RX11) (C := RX11) (T := TX11) (N := 25) hx hb hts hi_X11 hown hK hP 0 rfl rfl 4 (by decide) (hts (.fieldLink RX11 60 "CanalMapsModel" "undos" "I") (List.mem_of_getElem? (i := 3) (by decide +kernel))) (fun _ h9 => h9) rfl dX11_account_153 ?_
  refine W.widen (k := 0) (n := 0) (Nat.le_of_ble_eq_true rfl) (Nat.le_of_ble_eq_true rfl) ?_
  exact W.iret (v := 0) hx hb hr (QG_.mk (fun _ => 0) (fun _ => 0) (fun _ => 0) [0] [] hP hD hK hS rfl trivial rfl (by decide) rfl) hS.2.2 dX11_account_156
set_option maxHeartbeats 4000000 in
set_option maxRecDepth 100000 in
theorem c_X10_account_10 (l : Launch) (hl0 : l.stackTraces = false) (D : va_G) (ad : Nat → Nat) (sz : Nat) (h0 : Nat) (h1 : Nat) (v0 : Value) (v1 : Value) (v2 : Value) (v3 : Value) (v4 : Value) (v5 : Value) (v6 : Value) (v7 : Value) (v8 : Value) (v9 : Value) (v10 : Value) (v11 : Value) (v12 : Value) : Met l yX10_account wsX10_account ({ frames := 0, cells := 0, slots := 0, locals := 0 }) (PC_ D ad [(h0, .inr (13, [v0, v1, v2, v3, v4, .ref h1, v5, v6, v7, v8])), (h1, .inr (6, [v9, .int 0, v10, v11, v12]))] [] sz [.ref h0, .int 10]) (QG_ D (fun q i => some (.int 0)) (fun q i => True) (fun q k i => [(h0, .inr (13, [v0, v1, v2, v3, v4, .ref h1, v5, v6, v7, v8])), (h1, .inr (6, [v9, .int 0, v10, v11, v12]))]) (fun q k i => []) (va_A [(h0, .inr (13, [v0, v1, v2, v3, v4, .ref h1, v5, v6, v7, v8])), (h1, .inr (6, [v9, .int 0, v10, v11, v12]))] sz)) 0 0 (va_A [(h0, .inr (13, [v0, v1, v2, v3, v4, .ref h1, v5, v6, v7, v8])), (h1, .inr (6, [v9, .int 0, v10, v11, v12]))] sz) := by
  refine Met.ofW (cc := cX10_account) (maxL := 2) (ret := (some .int)) (by decide) rfl ?_
  intro p e s m args below meth c s₁ B hml hv
  obtain ⟨rfl, hsz, hP, hK, hD0, hF⟩ := hv
  have hx := B.exec
  have hb := B.bytes
  have hr := B.returns
  have hts := atoms_spec (ws := wsX10_account) B.pre
  have hown : s.vm.findClass RX10 = some m.cls := findClass_of_methodNamed B.named
  have hlocks := B.notSynchronized
  subst hsz
  have hD := hD0.self (sz := s.heap.size)
  generalize hAe : va_A [(h0, .inr (13, [v0, v1, v2, v3, v4, .ref h1, v5, v6, v7, v8])), (h1, .inr (6, [v9, .int 0, v10, v11, v12]))] s.heap.size = A at hD hF ⊢
  have hA : ∀ q : Nat, s.heap.size ≤ q → A q := fun q h => by rw [← hAe]; exact Or.inr h
  obtain ⟨H, hHe⟩ : ∃ H : Heap, H = s.heap := ⟨_, rfl⟩
  have hS : va_S A s.heap H [] := by rw [hHe]; exact va_S.rf
  have hP : va_P D vwCl [(h0, .inr (13, [v0, v1, v2, v3, v4, .ref h1, v5, v6, v7, v8])), (h1, .inr (6, [v9, .int 0, v10, v11, v12]))] H := by rw [hHe]; exact hP
  rw [← hHe]
  have hi_X10 : ∀ w ∈ wsX100, w ∈ wsX10_account := by decide +kernel
  have hi_X3 : ∀ w ∈ wsX30, w ∈ wsX10_account := by decide +kernel
  have hl := lv_entry [.ref h0, .int 10] (n := 2) (Nat.le_of_ble_eq_true rfl)
  rw [lg_entry_eq]
  generalize (lg_sl [.ref h0, .int 10] ++ List.replicate (2 - (lg_sl [.ref h0, .int 10]).length) Slot.unset).toArray = ls at hl ⊢
  have hl : lv_has ls 2 [(0, .ref h0), (1, .int 10)] := hl
  refine lv_iload_n hx hb dX10_account_0 rfl (lv_at hl 1 rfl) ?_
  refine lv_tableIn (tgt := 146) (off := 145) hx hb dX10_account_1 (by decide +kernel) (by decide +kernel) (by decide +kernel) (by decide) ?_
  refine lv_aload_n hx hb dX10_account_146 rfl (lv_at hl 0 rfl) ?_
  refine va_get (D := D) (ci := 13) (v := .ref h1) (own := RX10) (C := RX10) (T := TX10) (N := 10) hx hb hts hi_X10 hown hK hP 0 rfl rfl 5 (by decide) (hts (.fieldLink RX10 19 "CanalMaps" "text" "LCanalMaps$CommandText;") (List.mem_of_getElem? (i := 5) (by decide +kernel))) (fun _ h9 => h9) rfl dX10_account_147 ?_
  refine va_getN (D := D) (ci := 6) (v := .int 0) (own := RX10) (C := RX3) (T := TX3) (N := 5) hx hb hts hi_X3 hown hK hP 1 rfl rfl 1 (by decide) (fxn_ hF (RX10, 277, "CanalMaps$CommandText", "length", "I")) (fun _ h9 => h9) rfl dX10_account_150 ?_
  refine W.widen (k := 0) (n := 0) (Nat.le_of_ble_eq_true rfl) (Nat.le_of_ble_eq_true rfl) ?_
  exact W.iret (v := 0) hx hb hr (QG_.mk (fun _ => 0) (fun _ => 0) (fun _ => 0) [0, 1] [] hP hD hK hS rfl trivial rfl (by decide) rfl) hS.2.2 dX10_account_153
set_option maxHeartbeats 4000000 in
set_option maxRecDepth 100000 in
theorem c_L_account_10 (l : Launch) (hl0 : l.stackTraces = false) (D : va_G) (ad : Nat → Nat) (sz : Nat) (h0 : Nat) (h1 : Nat) (h2 : Nat) (k2 : ClassId) (v0 : Value) (v1 : Value) (v2 : Value) (v3 : Value) (v4 : Value) (v5 : Value) (v6 : Value) (v7 : Value) (v8 : Value) (v9 : Value) (v10 : Value) (v11 : Value) (v12 : Value) (f0 : Nat → Int64) : Met l yL_account wsL_account ({ frames := 1, cells := 0, slots := 0, locals := 23 }) (PC_ D ad [(h0, .inr (13, [v0, v1, v2, v3, v4, .ref h1, v5, v6, v7, v8])), (h1, .inr (6, [v9, .int 0, v10, v11, v12])), (h2, .inl (k2, 1, .inr (.inl f0)))] [(k2, .long)] sz [.ref h0, .int 10, .ref h2]) (QG_ D (fun q i => some (.int 0)) (fun q i => True) (fun q k i => [(h0, .inr (13, [v0, v1, v2, v3, v4, .ref h1, v5, v6, v7, v8])), (h1, .inr (6, [v9, .int 0, v10, v11, v12])), (h2, .inl (k2, 1, .inr (.inl (vp_updL f0 0 0))))]) (fun q k i => [(k2, .long)]) (va_A [(h0, .inr (13, [v0, v1, v2, v3, v4, .ref h1, v5, v6, v7, v8])), (h1, .inr (6, [v9, .int 0, v10, v11, v12])), (h2, .inl (k2, 1, .inr (.inl f0)))] sz)) 0 0 (va_A [(h0, .inr (13, [v0, v1, v2, v3, v4, .ref h1, v5, v6, v7, v8])), (h1, .inr (6, [v9, .int 0, v10, v11, v12])), (h2, .inl (k2, 1, .inr (.inl f0)))] sz) := by
  refine va_MetW (cc := cL_account) (maxL := 4) (ret := (some .int)) (by decide) rfl ?_
  intro p e s m args below meth c s₁ B hml hv
  obtain ⟨rfl, hsz, hP, hK, hD0, hF⟩ := hv
  have hx := B.exec
  have hb := B.bytes
  have hr := B.returns
  have hts := atoms_spec (ws := wsL_account) B.pre
  have hown : s.vm.findClass RL = some m.cls := findClass_of_methodNamed B.named
  have hlocks := B.notSynchronized
  have htb := vx_table B (hts _ (List.mem_cons_self))
  subst hsz
  have hD := hD0.self (sz := s.heap.size)
  generalize hAe : va_A [(h0, .inr (13, [v0, v1, v2, v3, v4, .ref h1, v5, v6, v7, v8])), (h1, .inr (6, [v9, .int 0, v10, v11, v12])), (h2, .inl (k2, 1, .inr (.inl f0)))] s.heap.size = A at hD hF ⊢
  have hA : ∀ q : Nat, s.heap.size ≤ q → A q := fun q h => by rw [← hAe]; exact Or.inr h
  obtain ⟨H, hHe⟩ : ∃ H : Heap, H = s.heap := ⟨_, rfl⟩
  have hS : va_S A s.heap H [] := by rw [hHe]; exact va_S.rf
  have hP : va_P D vwCl [(h0, .inr (13, [v0, v1, v2, v3, v4, .ref h1, v5, v6, v7, v8])), (h1, .inr (6, [v9, .int 0, v10, v11, v12])), (h2, .inl (k2, 1, .inr (.inl f0)))] H := by rw [hHe]; exact hP
  rw [← hHe]
  have hi_X10 : ∀ w ∈ wsX100, w ∈ wsL_account := by decide +kernel
  have hi_X3 : ∀ w ∈ wsX30, w ∈ wsL_account := by decide +kernel
  have hl := lv_entry [.ref h0, .int 10, .ref h2] (n := 4) (Nat.le_of_ble_eq_true rfl)
  rw [lg_entry_eq]
  generalize (lg_sl [.ref h0, .int 10, .ref h2] ++ List.replicate (4 - (lg_sl [.ref h0, .int 10, .ref h2]).length) Slot.unset).toArray = ls at hl ⊢
  have hl : lv_has ls 4 [(0, .ref h0), (1, .int 10), (2, .ref h2)] := hl
  refine lv_aload_n hx hb dL_account_0 rfl (lv_at hl 2 rfl) ?_
  refine lv_iconst (v := 0) hx hb dL_account_1 (by decide) ?_
  refine lv_aload_n hx hb dL_account_2 rfl (lv_at hl 0 rfl) ?_
  refine lv_iload_n hx hb dL_account_3 rfl (lv_at hl 1 rfl) ?_
  refine kc_ (wc := [(h0, .inr (13, [v0, v1, v2, v3, v4, .ref h1, v5, v6, v7, v8])), (h1, .inr (6, [v9, .int 0, v10, v11, v12]))]) (wr := [(h2, .inl (k2, 1, .inr (.inl f0)))]) (va_runV (As := [.int 10]) (rest := [.int 0, .ref h2]) ⟨hx, hb, hml, hown, hts⟩ (c_X10_account_10 l hl0 D ad H.size h0 h1 (v0) (v1) (v2) (v3) (v4) (v5) (v6) (v7) (v8) (v9) (v10) (v11) (v12)) (cwV 1 hts gL_account_X10_account rfl rfl rfl (by decide +kernel) ⟨Nat.le_of_ble_eq_true rfl, Nat.le_of_ble_eq_true rfl⟩) ⟨PC_.blind, va_recv hK hP (ci := 13) (q0 := 0) rfl rfl, PC_.pre hF hK hP hD hS hA [0, 1] [] rfl (by decide) rfl⟩ rfl rfl hl.1 rfl (lv_room (Nat.le_of_ble_eq_true rfl)) dL_account_4 ⟨Nat.le_of_ble_eq_true rfl, Nat.le_of_ble_eq_true rfl⟩) hK hP hD hS hA [0, 1] [2] [0] rfl rfl (by decide) (by decide) rfl (fun qa_1 ka_1 ia_1 H locs hpo hP hD hK hS => ?_)
  have hP : va_P D vwCl [(h2, .inl (k2, 1, .inr (.inl f0))), (h0, .inr (13, [v0, v1, v2, v3, v4, .ref h1, v5, v6, v7, v8])), (h1, .inr (6, [v9, .int 0, v10, v11, v12]))] H := hP
  have hD : va_D A [(h2, .inl (k2, 1, .inr (.inl f0))), (h0, .inr (13, [v0, v1, v2, v3, v4, .ref h1, v5, v6, v7, v8])), (h1, .inr (6, [v9, .int 0, v10, v11, v12]))] := hD
  have hK : va_K D vwCl [(k2, .long)] s := hK
  refine W.eq (g2 := F0 m 7 ls [.int 0, .int 0, .ref h2]) rfl ?_
  refine lv_i2l (v := 0) hx hb dL_account_7 (by decide +kernel) ?_
  refine ka_last (g := (vp_updL f0 0 0)) hx hb hK hP hD hS 0 0 rfl rfl (vin_ (by decide +kernel)) (congrArg (fun z9 => vp_updL _ z9 _) (by decide +kernel)) dL_account_8 (fun H locs hP hD hS => ?_)
  have hP : va_P D vwCl [(h2, .inl (k2, 1, .inr (.inl (vp_updL f0 0 0)))), (h0, .inr (13, [v0, v1, v2, v3, v4, .ref h1, v5, v6, v7, v8])), (h1, .inr (6, [v9, .int 0, v10, v11, v12]))] H := hP
  have hD : va_D A [(h2, .inl (k2, 1, .inr (.inl (vp_updL f0 0 0)))), (h0, .inr (13, [v0, v1, v2, v3, v4, .ref h1, v5, v6, v7, v8])), (h1, .inr (6, [v9, .int 0, v10, v11, v12]))] := hD
  refine lv_goto (tgt := 15) hx hb dL_account_9 (by decide) ?_
  refine lv_iconst (v := 0) hx hb dL_account_15 (by decide) ?_
  refine W.widen (k := 0) (n := 0) (Nat.le_of_ble_eq_true rfl) (Nat.le_of_ble_eq_true rfl) ?_
  exact W.iret (v := 0) hx hb hr (QG_.mk (fun _ => 0) (fun _ => 0) (fun _ => 0) [1, 2, 0] [0] hP hD hK hS rfl trivial rfl (by decide) rfl) hS.2.2 dL_account_16
set_option maxHeartbeats 4000000 in
set_option maxRecDepth 100000 in
theorem c_X11_account_10 (l : Launch) (hl0 : l.stackTraces = false) (D : va_G) (ad : Nat → Nat) (sz : Nat) (h0 : Nat) (v0 : Value) (v1 : Value) (v2 : Value) (v3 : Value) (v4 : Value) (v5 : Value) (v6 : Value) (v7 : Value) (v8 : Value) (v9 : Value) (v10 : Value) (v11 : Value) (v12 : Value) (v13 : Value) (v14 : Value) (v15 : Value) (v16 : Value) (v17 : Value) (v18 : Value) (v19 : Value) (v20 : Value) (v21 : Value) (v22 : Value) (v23 : Value) : Met l yX11_account wsX11_account ({ frames := 0, cells := 0, slots := 0, locals := 0 }) (PC_ D ad [(h0, .inr (14, [v0, v1, v2, v3, v4, v5, v6, v7, v8, v9, v10, v11, v12, .int 0, v13, v14, v15, v16, v17, v18, v19, v20, v21, v22, v23]))] [] sz [.ref h0, .int 10]) (QG_ D (fun q i => some (.int 0)) (fun q i => True) (fun q k i => [(h0, .inr (14, [v0, v1, v2, v3, v4, v5, v6, v7, v8, v9, v10, v11, v12, .int 0, v13, v14, v15, v16, v17, v18, v19, v20, v21, .int 0, v23]))]) (fun q k i => []) (va_A [(h0, .inr (14, [v0, v1, v2, v3, v4, v5, v6, v7, v8, v9, v10, v11, v12, .int 0, v13, v14, v15, v16, v17, v18, v19, v20, v21, v22, v23]))] sz)) 0 0 (va_A [(h0, .inr (14, [v0, v1, v2, v3, v4, v5, v6, v7, v8, v9, v10, v11, v12, .int 0, v13, v14, v15, v16, v17, v18, v19, v20, v21, v22, v23]))] sz) := by
  refine Met.ofW (cc := cX11_account) (maxL := 4) (ret := (some .int)) (by decide) rfl ?_
  intro p e s m args below meth c s₁ B hml hv
  obtain ⟨rfl, hsz, hP, hK, hD0, hF⟩ := hv
  have hx := B.exec
  have hb := B.bytes
  have hr := B.returns
  have hts := atoms_spec (ws := wsX11_account) B.pre
  have hown : s.vm.findClass RX11 = some m.cls := findClass_of_methodNamed B.named
  have hlocks := B.notSynchronized
  subst hsz
  have hD := hD0.self (sz := s.heap.size)
  generalize hAe : va_A [(h0, .inr (14, [v0, v1, v2, v3, v4, v5, v6, v7, v8, v9, v10, v11, v12, .int 0, v13, v14, v15, v16, v17, v18, v19, v20, v21, v22, v23]))] s.heap.size = A at hD hF ⊢
  have hA : ∀ q : Nat, s.heap.size ≤ q → A q := fun q h => by rw [← hAe]; exact Or.inr h
  obtain ⟨H, hHe⟩ : ∃ H : Heap, H = s.heap := ⟨_, rfl⟩
  have hS : va_S A s.heap H [] := by rw [hHe]; exact va_S.rf
  have hP : va_P D vwCl [(h0, .inr (14, [v0, v1, v2, v3, v4, v5, v6, v7, v8, v9, v10, v11, v12, .int 0, v13, v14, v15, v16, v17, v18, v19, v20, v21, v22, v23]))] H := by rw [hHe]; exact hP
  rw [← hHe]
  have hi_X11 : ∀ w ∈ wsX110, w ∈ wsX11_account := by decide +kernel
  have hl := lv_entry [.ref h0, .int 10] (n := 4) (Nat.le_of_ble_eq_true rfl)
  rw [lg_entry_eq]
  generalize (lg_sl [.ref h0, .int 10] ++ List.replicate (4 - (lg_sl [.ref h0, .int 10]).length) Slot.unset).toArray = ls at hl ⊢
  have hl : lv_has ls 4 [(0, .ref h0), (1, .int 10)] := hl
  refine lv_aload_n hx hb dX11_account_0 rfl (lv_at hl 0 rfl) ?_
  refine lv_iconst (v := 0) hx hb dX11_account_1 (by decide) ?_
  refine va_put (D := D) (ci := 14) (v := .int 0) (ty := .int) (own := RX11) (C := RX11) (T := TX11) (N := 25) hx hb hts hi_X11 tyX11 tyX11_ok nmX11 hown hK hP hD hS 0 rfl rfl 23 (by decide) (hts (.fieldLink RX11 47 "CanalMapsModel" "thrown" "I") (List.mem_of_getElem? (i := 1) (by decide +kernel))) (fun _ h9 => h9) rfl (by decide +kernel) rfl rfl (Nat.le_of_ble_eq_true rfl) dX11_account_2 (fun H locs hP hD hS => ?_)
  have hP : va_P D vwCl [(h0, .inr (14, [v0, v1, v2, v3, v4, v5, v6, v7, v8, v9, v10, v11, v12, .int 0, v13, v14, v15, v16, v17, v18, v19, v20, v21, .int 0, v23]))] H := hP
  have hD : va_D A [(h0, .inr (14, [v0, v1, v2, v3, v4, v5, v6, v7, v8, v9, v10, v11, v12, .int 0, v13, v14, v15, v16, v17, v18, v19, v20, v21, .int 0, v23]))] := hD
  refine lv_iconst (v := 0) hx hb dX11_account_5 (by decide) ?_
  refine lv_istore_n (lv' := [(2, .int 0), (0, .ref h0), (1, .int 10)]) hx hb dX11_account_6 rfl hl (by decide) rfl (fun ls hl => ?_)
  refine lv_iload_n hx hb dX11_account_7 rfl (lv_at hl 2 rfl) ?_
  refine lv_tableIn (tgt := 157) (off := 149) hx hb dX11_account_8 (by decide +kernel) (by decide +kernel) (by decide +kernel) (by decide) ?_
  refine lv_aload_n hx hb dX11_account_157 rfl (lv_at hl 1 rfl) ?_
  refine va_get (D := D) (ci := 14) (v := .int 0) (own := RX11) (C := RX11) (T := TX11) (N := 25) hx hb hts hi_X11 hown hK hP 0 rfl rfl 13 (by decide) (hts (.fieldLink RX11 228 "CanalMapsModel" "length" "I") (List.mem_of_getElem? (i := 4) (by decide +kernel))) (fun _ h9 => h9) rfl dX11_account_158 ?_
  refine W.widen (k := 0) (n := 0) (Nat.le_of_ble_eq_true rfl) (Nat.le_of_ble_eq_true rfl) ?_
  exact W.iret (v := 0) hx hb hr (QG_.mk (fun _ => 0) (fun _ => 0) (fun _ => 0) [0] [] hP hD hK hS rfl trivial rfl (by decide) rfl) hS.2.2 dX11_account_161
set_option maxHeartbeats 4000000 in
set_option maxRecDepth 100000 in
theorem c_X10_account_11 (l : Launch) (hl0 : l.stackTraces = false) (D : va_G) (ad : Nat → Nat) (sz : Nat) (r0 : Nat) (p0 : Int32) (hy0 : p0.toInt < 0 ∨ 10 < p0.toInt) : vx_Met l yX10_account wsX10_account ({ frames := 6, cells := 1, slots := 6, locals := 100 }) (PC_ D ad [] [] sz [.ref r0, .int p0]) QN_ (XT_ "java/lang/IllegalArgumentException" (va_A [] sz)) 1 6 (va_A [] sz) := by
  refine vx_ofW (cc := cX10_account) (maxL := 2) (ret := (some .int)) (by decide) rfl ?_
  intro p e s m args below meth c s₁ B hml htab hv
  obtain ⟨rfl, hsz, hP, hK, hD0, hF⟩ := hv
  have hx := B.exec
  have hb := B.bytes
  have hr := B.returns
  have hts := atoms_spec (ws := wsX10_account) B.pre
  have hown : s.vm.findClass RX10 = some m.cls := findClass_of_methodNamed B.named
  have hlocks := B.notSynchronized
  subst hsz
  have hD := hD0.self (sz := s.heap.size)
  generalize hAe : va_A [] s.heap.size = A at hD hF ⊢
  have hA : ∀ q : Nat, s.heap.size ≤ q → A q := fun q h => by rw [← hAe]; exact Or.inr h
  obtain ⟨H, hHe⟩ : ∃ H : Heap, H = s.heap := ⟨_, rfl⟩
  have hS : va_S A s.heap H [] := by rw [hHe]; exact va_S.rf
  have hP : va_P D vwCl [] H := by rw [hHe]; exact hP
  rw [← hHe]
  have hl := lv_entry [.ref r0, .int p0] (n := 2) (Nat.le_of_ble_eq_true rfl)
  rw [lg_entry_eq]
  generalize (lg_sl [.ref r0, .int p0] ++ List.replicate (2 - (lg_sl [.ref r0, .int p0]).length) Slot.unset).toArray = ls at hl ⊢
  have hl : lv_has ls 2 [(0, .ref r0), (1, .int p0)] := hl
  refine lv_iload_n hx hb dX10_account_0 rfl (lv_at hl 1 rfl) ?_
  refine lv_tableOut (tgt := 154) hx hb dX10_account_1 hy0 (by decide) ?_
  obtain ⟨sa9, hstr⟩ := fxs_ hF RX10 382 "what is not from 0 to 10"
  exact vx_throwSW (own := RX10) (cls := "java/lang/IllegalArgumentException") (names := ["java/lang/RuntimeException", "java/lang/Exception"]) hx hb hl0 hown (by decide +kernel) (by decide +kernel) (hts (.classLink RX10 149 "java/lang/IllegalArgumentException") (List.mem_of_getElem? (i := 1) (by decide +kernel))) (hts (.initialized "java/lang/IllegalArgumentException") (List.mem_of_getElem? (i := 2) (by decide +kernel))) hstr (fxw_ hts (by decide +kernel) (by decide +kernel)) (by decide +kernel) hF.2.2.2.2.1 hF.2.2.2.2.2.1 hS (by rw [hml]; exact hl.1) dX10_account_154 dX10_account_157 dX10_account_158 dX10_account_161 dX10_account_164 (fun x9 hx9 => (htab x9 hx9).elim) (Nat.le_of_ble_eq_true rfl) (Nat.le_of_ble_eq_true rfl) (Nat.le_of_ble_eq_true rfl) (Nat.le_of_ble_eq_true rfl) hlocks (fun t9 _ hz9 hq9 => ⟨rfl, xt_ hS hz9 hq9⟩) hS.2.2 (Nat.le_of_ble_eq_true rfl) (Nat.le_of_ble_eq_true rfl)
set_option maxHeartbeats 4000000 in
set_option maxRecDepth 100000 in
theorem c_L_account_11 (l : Launch) (hl0 : l.stackTraces = false) (D : va_G) (ad : Nat → Nat) (sz : Nat) (h0 : Nat) (r0 : Nat) (v0 : Value) (v1 : Value) (v2 : Value) (v3 : Value) (v4 : Value) (v5 : Value) (v6 : Value) (v7 : Value) (v8 : Value) (v9 : Value) (p0 : Int32) (hy0 : p0.toInt < 0 ∨ 10 < p0.toInt) : Met l yL_account wsL_account ({ frames := 7, cells := 1, slots := 6, locals := 123 }) (PC_ D ad [(h0, .inr (13, [v0, v1, v2, v3, v4, v5, v6, v7, v8, v9]))] [] sz [.ref h0, .int p0, .ref r0]) (QG_ D (fun q i => some (.int 1)) (fun q i => True) (fun q k i => []) (fun q k i => []) (va_A [(h0, .inr (13, [v0, v1, v2, v3, v4, v5, v6, v7, v8, v9]))] sz)) 1 6 (va_A [(h0, .inr (13, [v0, v1, v2, v3, v4, v5, v6, v7, v8, v9]))] sz) := by
  refine va_MetW (cc := cL_account) (maxL := 4) (ret := (some .int)) (by decide) rfl ?_
  intro p e s m args below meth c s₁ B hml hv
  obtain ⟨rfl, hsz, hP, hK, hD0, hF⟩ := hv
  have hx := B.exec
  have hb := B.bytes
  have hr := B.returns
  have hts := atoms_spec (ws := wsL_account) B.pre
  have hown : s.vm.findClass RL = some m.cls := findClass_of_methodNamed B.named
  have hlocks := B.notSynchronized
  have htb := vx_table B (hts _ (List.mem_cons_self))
  subst hsz
  have hD := hD0.self (sz := s.heap.size)
  generalize hAe : va_A [(h0, .inr (13, [v0, v1, v2, v3, v4, v5, v6, v7, v8, v9]))] s.heap.size = A at hD hF ⊢
  have hA : ∀ q : Nat, s.heap.size ≤ q → A q := fun q h => by rw [← hAe]; exact Or.inr h
  obtain ⟨H, hHe⟩ : ∃ H : Heap, H = s.heap := ⟨_, rfl⟩
  have hS : va_S A s.heap H [] := by rw [hHe]; exact va_S.rf
  have hP : va_P D vwCl [(h0, .inr (13, [v0, v1, v2, v3, v4, v5, v6, v7, v8, v9]))] H := by rw [hHe]; exact hP
  rw [← hHe]
  have hl := lv_entry [.ref h0, .int p0, .ref r0] (n := 4) (Nat.le_of_ble_eq_true rfl)
  rw [lg_entry_eq]
  generalize (lg_sl [.ref h0, .int p0, .ref r0] ++ List.replicate (4 - (lg_sl [.ref h0, .int p0, .ref r0]).length) Slot.unset).toArray = ls at hl ⊢
  have hl : lv_has ls 4 [(0, .ref h0), (1, .int p0), (2, .ref r0)] := hl
  refine lv_aload_n hx hb dL_account_0 rfl (lv_at hl 2 rfl) ?_
  refine lv_iconst (v := 0) hx hb dL_account_1 (by decide) ?_
  refine lv_aload_n hx hb dL_account_2 rfl (lv_at hl 0 rfl) ?_
  refine lv_iload_n hx hb dL_account_3 rfl (lv_at hl 1 rfl) ?_
  refine kx_ (E0 := "java/lang/IllegalArgumentException") (wc := []) (vx_runV (As := [.int p0]) (rest := [.int 0, .ref r0]) ⟨hx, hb, hml, hown, hts⟩ (c_X10_account_11 l hl0 D ad H.size h0 p0 hy0) (cwV 1 hts gL_account_X10_account rfl rfl rfl (by decide +kernel) ⟨Nat.le_of_ble_eq_true rfl, Nat.le_of_ble_eq_true rfl⟩) ⟨PC_.blind, va_recv hK hP (ci := 13) (q0 := 0) rfl rfl, PC_.pre hF hK hP hD hS hA [] [] rfl (by decide) rfl⟩ rfl rfl hl.1 rfl (lv_room (Nat.le_of_ble_eq_true rfl)) dL_account_4 ⟨Nat.le_of_ble_eq_true rfl, Nat.le_of_ble_eq_true rfl⟩) hD hS hA [] rfl (fun ce q9 H locs hS hce hvm hcl => ?_)
  refine vx_catch (own := RL) (name := "java/lang/IllegalArgumentException") (E := "java/lang/IllegalArgumentException") hown [] (⟨0, 9, 12, 38⟩ : ExceptionTableEntry) [] (htb.trans rfl) (fun z hz => by cases hz) (by decide) (by decide) (hts (.classLink RL 38 "java/lang/IllegalArgumentException") (List.mem_of_getElem? (i := 1) (by decide +kernel))) (fxk_ hF "java/lang/IllegalArgumentException" "java/lang/IllegalArgumentException") hce hvm hcl ?_
  have hP : va_P D vwCl [] H := fun k q h => by simp at h
  have hD : va_D A [] := ⟨fun i j p q h => by simp at h, fun k q h => by simp at h⟩
  have hK : va_K D vwCl [] s := ⟨hK.1, fun k q h => by simp at h⟩
  refine W.eq (g2 := F0 m 12 ls [.ref q9]) rfl ?_
  refine lv_astore_n (lv' := [(3, .ref q9), (0, .ref h0), (1, .int p0), (2, .ref r0)]) hx hb dL_account_12 rfl hl (by decide) rfl (fun ls hl => ?_)
  refine lv_iconst (v := 1) hx hb dL_account_13 (by decide) ?_
  refine W.widen (k := 1) (n := 6) (Nat.le_of_ble_eq_true rfl) (Nat.le_of_ble_eq_true rfl) ?_
  exact W.iret (v := 1) hx hb hr (QG_.mk (fun _ => 0) (fun _ => 0) (fun _ => 0) [] [] hP hD hK hS rfl trivial rfl (by decide) rfl) hS.2.2 dL_account_14
set_option maxHeartbeats 4000000 in
set_option maxRecDepth 100000 in
theorem c_X11_account_11 (l : Launch) (hl0 : l.stackTraces = false) (D : va_G) (ad : Nat → Nat) (sz : Nat) (h0 : Nat) (v0 : Value) (v1 : Value) (v2 : Value) (v3 : Value) (v4 : Value) (v5 : Value) (v6 : Value) (v7 : Value) (v8 : Value) (v9 : Value) (v10 : Value) (v11 : Value) (v12 : Value) (v13 : Value) (v14 : Value) (v15 : Value) (v16 : Value) (v17 : Value) (v18 : Value) (v19 : Value) (v20 : Value) (v21 : Value) (v22 : Value) (v23 : Value) (v24 : Value) (p0 : Int32) (hy0 : p0.toInt < 0 ∨ 10 < p0.toInt) : Met l yX11_account wsX11_account ({ frames := 1, cells := 0, slots := 0, locals := 23 }) (PC_ D ad [(h0, .inr (14, [v0, v1, v2, v3, v4, v5, v6, v7, v8, v9, v10, v11, v12, v13, v14, v15, v16, v17, v18, v19, v20, v21, v22, v23, v24]))] [] sz [.ref h0, .int p0]) (QG_ D (fun q i => some (.int 0)) (fun q i => True) (fun q k i => [(h0, .inr (14, [v0, v1, v2, v3, v4, v5, v6, v7, v8, v9, v10, v11, v12, v13, v14, v15, v16, v17, v18, v19, v20, v21, v22, .int 1, v24]))]) (fun q k i => []) (va_A [(h0, .inr (14, [v0, v1, v2, v3, v4, v5, v6, v7, v8, v9, v10, v11, v12, v13, v14, v15, v16, v17, v18, v19, v20, v21, v22, v23, v24]))] sz)) 0 0 (va_A [(h0, .inr (14, [v0, v1, v2, v3, v4, v5, v6, v7, v8, v9, v10, v11, v12, v13, v14, v15, v16, v17, v18, v19, v20, v21, v22, v23, v24]))] sz) := by
  refine Met.ofW (cc := cX11_account) (maxL := 4) (ret := (some .int)) (by decide) rfl ?_
  intro p e s m args below meth c s₁ B hml hv
  obtain ⟨rfl, hsz, hP, hK, hD0, hF⟩ := hv
  have hx := B.exec
  have hb := B.bytes
  have hr := B.returns
  have hts := atoms_spec (ws := wsX11_account) B.pre
  have hown : s.vm.findClass RX11 = some m.cls := findClass_of_methodNamed B.named
  have hlocks := B.notSynchronized
  subst hsz
  have hD := hD0.self (sz := s.heap.size)
  generalize hAe : va_A [(h0, .inr (14, [v0, v1, v2, v3, v4, v5, v6, v7, v8, v9, v10, v11, v12, v13, v14, v15, v16, v17, v18, v19, v20, v21, v22, v23, v24]))] s.heap.size = A at hD hF ⊢
  have hA : ∀ q : Nat, s.heap.size ≤ q → A q := fun q h => by rw [← hAe]; exact Or.inr h
  obtain ⟨H, hHe⟩ : ∃ H : Heap, H = s.heap := ⟨_, rfl⟩
  have hS : va_S A s.heap H [] := by rw [hHe]; exact va_S.rf
  have hP : va_P D vwCl [(h0, .inr (14, [v0, v1, v2, v3, v4, v5, v6, v7, v8, v9, v10, v11, v12, v13, v14, v15, v16, v17, v18, v19, v20, v21, v22, v23, v24]))] H := by rw [hHe]; exact hP
  rw [← hHe]
  have hi_X11 : ∀ w ∈ wsX110, w ∈ wsX11_account := by decide +kernel
  have hl := lv_entry [.ref h0, .int p0] (n := 4) (Nat.le_of_ble_eq_true rfl)
  rw [lg_entry_eq]
  generalize (lg_sl [.ref h0, .int p0] ++ List.replicate (4 - (lg_sl [.ref h0, .int p0]).length) Slot.unset).toArray = ls at hl ⊢
  have hl : lv_has ls 4 [(0, .ref h0), (1, .int p0)] := hl
  refine lv_aload_n hx hb dX11_account_0 rfl (lv_at hl 0 rfl) ?_
  refine lv_iconst (v := 0) hx hb dX11_account_1 (by decide) ?_
  refine va_put (D := D) (ci := 14) (v := .int 0) (ty := .int) (own := RX11) (C := RX11) (T := TX11) (N := 25) hx hb hts hi_X11 tyX11 tyX11_ok nmX11 hown hK hP hD hS 0 rfl rfl 23 (by decide) (hts (.fieldLink RX11 47 "CanalMapsModel" "thrown" "I") (List.mem_of_getElem? (i := 1) (by decide +kernel))) (fun _ h9 => h9) rfl (by decide +kernel) rfl rfl (Nat.le_of_ble_eq_true rfl) dX11_account_2 (fun H locs hP hD hS => ?_)
  have hP : va_P D vwCl [(h0, .inr (14, [v0, v1, v2, v3, v4, v5, v6, v7, v8, v9, v10, v11, v12, v13, v14, v15, v16, v17, v18, v19, v20, v21, v22, .int 0, v24]))] H := hP
  have hD : va_D A [(h0, .inr (14, [v0, v1, v2, v3, v4, v5, v6, v7, v8, v9, v10, v11, v12, v13, v14, v15, v16, v17, v18, v19, v20, v21, v22, .int 0, v24]))] := hD
  refine lv_iconst (v := 0) hx hb dX11_account_5 (by decide) ?_
  refine lv_istore_n (lv' := [(2, .int 0), (0, .ref h0), (1, .int p0)]) hx hb dX11_account_6 rfl hl (by decide) rfl (fun ls hl => ?_)
  refine lv_iload_n hx hb dX11_account_7 rfl (lv_at hl 2 rfl) ?_
  refine lv_tableOut (tgt := 162) hx hb dX11_account_8 hy0 (by decide) ?_
  refine lv_aload_n hx hb dX11_account_162 rfl (lv_at hl 1 rfl) ?_
  refine lv_iconst (v := 1) hx hb dX11_account_163 (by decide) ?_
  refine kc_ (wc := [(h0, .inr (14, [v0, v1, v2, v3, v4, v5, v6, v7, v8, v9, v10, v11, v12, v13, v14, v15, v16, v17, v18, v19, v20, v21, v22, .int 0, v24]))]) (wr := []) (va_runV (As := [.int 1]) (rest := []) ⟨hx, hb, hml, hown, hts⟩ (c_X11_raises_0 l hl0 D ad H.size h0 (v0) (v1) (v2) (v3) (v4) (v5) (v6) (v7) (v8) (v9) (v10) (v11) (v12) (v13) (v14) (v15) (v16) (v17) (v18) (v19) (v20) (v21) (v22) (.int 0) (v24)) (cwV 1 hts gX11_account_X11_raises rfl rfl rfl (by decide +kernel) ⟨Nat.le_of_ble_eq_true rfl, Nat.le_of_ble_eq_true rfl⟩) ⟨PC_.blind, va_recv hK hP (ci := 14) (q0 := 0) rfl rfl, PC_.pre hF hK hP hD hS hA [0] [] rfl (by decide) rfl⟩ rfl rfl hl.1 rfl (lv_room (Nat.le_of_ble_eq_true rfl)) dX11_account_164 ⟨Nat.le_of_ble_eq_true rfl, Nat.le_of_ble_eq_true rfl⟩) hK hP hD hS hA [0] [] [] rfl rfl (by decide) (by decide) rfl (fun qa_1 ka_1 ia_1 H locs hpo hP hD hK hS => ?_)
  have hP : va_P D vwCl [(h0, .inr (14, [v0, v1, v2, v3, v4, v5, v6, v7, v8, v9, v10, v11, v12, v13, v14, v15, v16, v17, v18, v19, v20, v21, v22, .int 1, v24]))] H := hP
  have hD : va_D A [(h0, .inr (14, [v0, v1, v2, v3, v4, v5, v6, v7, v8, v9, v10, v11, v12, v13, v14, v15, v16, v17, v18, v19, v20, v21, v22, .int 1, v24]))] := hD
  have hK : va_K D vwCl [] s := hK
  refine W.eq (g2 := F0 m 167 ls [.int 0]) rfl ?_
  refine W.widen (k := 0) (n := 0) (Nat.le_of_ble_eq_true rfl) (Nat.le_of_ble_eq_true rfl) ?_
  exact W.iret (v := 0) hx hb hr (QG_.mk (fun _ => 0) (fun _ => 0) (fun _ => 0) [0] [] hP hD hK hS rfl trivial rfl (by decide) rfl) hS.2.2 dX11_account_167
set_option maxHeartbeats 4000000 in
set_option maxRecDepth 100000 in
theorem c_X10_undo_0 (l : Launch) (hl0 : l.stackTraces = false) (D : va_G) (ad : Nat → Nat) (sz : Nat) (h0 : Nat) (h1 : Nat) (v0 : Value) (v1 : Value) (v2 : Value) (v3 : Value) (v4 : Value) (v5 : Value) (v6 : Value) (v7 : Value) (v8 : Value) (v9 : Value) (v10 : Value) : vx_Met l yX10_undo wsX10_undo ({ frames := 6, cells := 1, slots := 6, locals := 100 }) (PC_ D ad [(h0, .inr (13, [v0, v1, v2, .ref h1, v3, v4, v5, v6, v7, v8])), (h1, .inr (7, [v9, v10, .int 0]))] [] sz [.ref h0]) QN_ (XT_ "java/lang/IllegalStateException" (va_A [(h0, .inr (13, [v0, v1, v2, .ref h1, v3, v4, v5, v6, v7, v8])), (h1, .inr (7, [v9, v10, .int 0]))] sz)) 1 6 (va_A [(h0, .inr (13, [v0, v1, v2, .ref h1, v3, v4, v5, v6, v7, v8])), (h1, .inr (7, [v9, v10, .int 0]))] sz) := by
  refine vx_ofW (cc := cX10_undo) (maxL := 1) (ret := (some .int)) (by decide) rfl ?_
  intro p e s m args below meth c s₁ B hml htab hv
  obtain ⟨rfl, hsz, hP, hK, hD0, hF⟩ := hv
  have hx := B.exec
  have hb := B.bytes
  have hr := B.returns
  have hts := atoms_spec (ws := wsX10_undo) B.pre
  have hown : s.vm.findClass RX10 = some m.cls := findClass_of_methodNamed B.named
  have hlocks := B.notSynchronized
  subst hsz
  have hD := hD0.self (sz := s.heap.size)
  generalize hAe : va_A [(h0, .inr (13, [v0, v1, v2, .ref h1, v3, v4, v5, v6, v7, v8])), (h1, .inr (7, [v9, v10, .int 0]))] s.heap.size = A at hD hF ⊢
  have hA : ∀ q : Nat, s.heap.size ≤ q → A q := fun q h => by rw [← hAe]; exact Or.inr h
  obtain ⟨H, hHe⟩ : ∃ H : Heap, H = s.heap := ⟨_, rfl⟩
  have hS : va_S A s.heap H [] := by rw [hHe]; exact va_S.rf
  have hP : va_P D vwCl [(h0, .inr (13, [v0, v1, v2, .ref h1, v3, v4, v5, v6, v7, v8])), (h1, .inr (7, [v9, v10, .int 0]))] H := by rw [hHe]; exact hP
  rw [← hHe]
  have hi_X10 : ∀ w ∈ wsX100, w ∈ wsX10_undo := by decide +kernel
  have hi_X4 : ∀ w ∈ wsX40, w ∈ wsX10_undo := by decide +kernel
  have hl := lv_entry [.ref h0] (n := 1) (Nat.le_of_ble_eq_true rfl)
  rw [lg_entry_eq]
  generalize (lg_sl [.ref h0] ++ List.replicate (1 - (lg_sl [.ref h0]).length) Slot.unset).toArray = ls at hl ⊢
  have hl : lv_has ls 1 [(0, .ref h0)] := hl
  refine lv_aload_n hx hb dX10_undo_0 rfl (lv_at hl 0 rfl) ?_
  refine va_get (D := D) (ci := 13) (v := .ref h1) (own := RX10) (C := RX10) (T := TX10) (N := 10) hx hb hts hi_X10 hown hK hP 0 rfl rfl 3 (by decide) (hts (.fieldLink RX10 63 "CanalMaps" "history" "LCanalMaps$History;") (List.mem_of_getElem? (i := 3) (by decide +kernel))) (fun _ h9 => h9) rfl dX10_undo_1 ?_
  refine va_getN (D := D) (ci := 7) (v := .int 0) (own := RX10) (C := RX4) (T := TX4) (N := 3) hx hb hts hi_X4 hown hK hP 1 rfl rfl 2 (by decide) (fxn_ hF (RX10, 381, "CanalMaps$History", "count", "I")) (fun _ h9 => h9) rfl dX10_undo_4 ?_
  refine lv_if_ne (tgt := 21) hx hb dX10_undo_7 (by decide) (fun c9 => absurd (by decide +kernel) c9) (fun _ => ?_)
  obtain ⟨sa9, hstr⟩ := fxs_ hF RX10 384 "there is nothing to undo"
  exact vx_throwSW (own := RX10) (cls := "java/lang/IllegalStateException") (names := ["java/lang/RuntimeException", "java/lang/Exception"]) hx hb hl0 hown (by decide +kernel) (by decide +kernel) (hts (.classLink RX10 268 "java/lang/IllegalStateException") (List.mem_of_getElem? (i := 1) (by decide +kernel))) (hts (.initialized "java/lang/IllegalStateException") (List.mem_of_getElem? (i := 2) (by decide +kernel))) hstr (fxw_ hts (by decide +kernel) (by decide +kernel)) (by decide +kernel) hF.2.2.2.2.1 hF.2.2.2.2.2.1 hS (by rw [hml]; exact hl.1) dX10_undo_10 dX10_undo_13 dX10_undo_14 dX10_undo_17 dX10_undo_20 (fun x9 hx9 => (htab x9 hx9).elim) (Nat.le_of_ble_eq_true rfl) (Nat.le_of_ble_eq_true rfl) (Nat.le_of_ble_eq_true rfl) (Nat.le_of_ble_eq_true rfl) hlocks (fun t9 _ hz9 hq9 => ⟨rfl, xt_ hS hz9 hq9⟩) hS.2.2 (Nat.le_of_ble_eq_true rfl) (Nat.le_of_ble_eq_true rfl)
set_option maxHeartbeats 4000000 in
set_option maxRecDepth 100000 in
theorem c_L_undo_0 (l : Launch) (hl0 : l.stackTraces = false) (D : va_G) (ad : Nat → Nat) (sz : Nat) (h0 : Nat) (h1 : Nat) (r0 : Nat) (v0 : Value) (v1 : Value) (v2 : Value) (v3 : Value) (v4 : Value) (v5 : Value) (v6 : Value) (v7 : Value) (v8 : Value) (v9 : Value) (v10 : Value) : Met l yL_undo wsL_undo ({ frames := 7, cells := 1, slots := 6, locals := 122 }) (PC_ D ad [(h0, .inr (13, [v0, v1, v2, .ref h1, v3, v4, v5, v6, v7, v8])), (h1, .inr (7, [v9, v10, .int 0]))] [] sz [.ref h0, .ref r0]) (QG_ D (fun q i => some (.int 1)) (fun q i => True) (fun q k i => []) (fun q k i => []) (va_A [(h0, .inr (13, [v0, v1, v2, .ref h1, v3, v4, v5, v6, v7, v8])), (h1, .inr (7, [v9, v10, .int 0]))] sz)) 1 6 (va_A [(h0, .inr (13, [v0, v1, v2, .ref h1, v3, v4, v5, v6, v7, v8])), (h1, .inr (7, [v9, v10, .int 0]))] sz) := by
  refine va_MetW (cc := cL_undo) (maxL := 3) (ret := (some .int)) (by decide) rfl ?_
  intro p e s m args below meth c s₁ B hml hv
  obtain ⟨rfl, hsz, hP, hK, hD0, hF⟩ := hv
  have hx := B.exec
  have hb := B.bytes
  have hr := B.returns
  have hts := atoms_spec (ws := wsL_undo) B.pre
  have hown : s.vm.findClass RL = some m.cls := findClass_of_methodNamed B.named
  have hlocks := B.notSynchronized
  have htb := vx_table B (hts _ (List.mem_cons_self))
  subst hsz
  have hD := hD0.self (sz := s.heap.size)
  generalize hAe : va_A [(h0, .inr (13, [v0, v1, v2, .ref h1, v3, v4, v5, v6, v7, v8])), (h1, .inr (7, [v9, v10, .int 0]))] s.heap.size = A at hD hF ⊢
  have hA : ∀ q : Nat, s.heap.size ≤ q → A q := fun q h => by rw [← hAe]; exact Or.inr h
  obtain ⟨H, hHe⟩ : ∃ H : Heap, H = s.heap := ⟨_, rfl⟩
  have hS : va_S A s.heap H [] := by rw [hHe]; exact va_S.rf
  have hP : va_P D vwCl [(h0, .inr (13, [v0, v1, v2, .ref h1, v3, v4, v5, v6, v7, v8])), (h1, .inr (7, [v9, v10, .int 0]))] H := by rw [hHe]; exact hP
  rw [← hHe]
  have hi_X10 : ∀ w ∈ wsX100, w ∈ wsL_undo := by decide +kernel
  have hi_X4 : ∀ w ∈ wsX40, w ∈ wsL_undo := by decide +kernel
  have hl := lv_entry [.ref h0, .ref r0] (n := 3) (Nat.le_of_ble_eq_true rfl)
  rw [lg_entry_eq]
  generalize (lg_sl [.ref h0, .ref r0] ++ List.replicate (3 - (lg_sl [.ref h0, .ref r0]).length) Slot.unset).toArray = ls at hl ⊢
  have hl : lv_has ls 3 [(0, .ref h0), (1, .ref r0)] := hl
  refine lv_aload_n hx hb dL_undo_0 rfl (lv_at hl 1 rfl) ?_
  refine lv_iconst (v := 0) hx hb dL_undo_1 (by decide) ?_
  refine lv_aload_n hx hb dL_undo_2 rfl (lv_at hl 0 rfl) ?_
  refine kx_ (E0 := "java/lang/IllegalStateException") (wc := [(h0, .inr (13, [v0, v1, v2, .ref h1, v3, v4, v5, v6, v7, v8])), (h1, .inr (7, [v9, v10, .int 0]))]) (vx_runV (As := []) (rest := [.int 0, .ref r0]) ⟨hx, hb, hml, hown, hts⟩ (c_X10_undo_0 l hl0 D ad H.size h0 h1 (v0) (v1) (v2) (v3) (v4) (v5) (v6) (v7) (v8) (v9) (v10)) (cwV 0 hts gL_undo_X10_undo rfl rfl rfl (by decide +kernel) ⟨Nat.le_of_ble_eq_true rfl, Nat.le_of_ble_eq_true rfl⟩) ⟨PC_.blind, va_recv hK hP (ci := 13) (q0 := 0) rfl rfl, PC_.pre hF hK hP hD hS hA [0, 1] [] rfl (by decide) rfl⟩ rfl rfl hl.1 rfl (lv_room (Nat.le_of_ble_eq_true rfl)) dL_undo_3 ⟨Nat.le_of_ble_eq_true rfl, Nat.le_of_ble_eq_true rfl⟩) hD hS hA [0, 1] rfl (fun ce q9 H locs hS hce hvm hcl => ?_)
  refine vx_catch (own := RL) (name := "java/lang/IllegalStateException") (E := "java/lang/IllegalStateException") hown [] (⟨0, 8, 11, 95⟩ : ExceptionTableEntry) [] (htb.trans rfl) (fun z hz => by cases hz) (by decide) (by decide) (hts (.classLink RL 95 "java/lang/IllegalStateException") (List.mem_of_getElem? (i := 1) (by decide +kernel))) (fxk_ hF "java/lang/IllegalStateException" "java/lang/IllegalStateException") hce hvm hcl ?_
  have hP : va_P D vwCl [] H := fun k q h => by simp at h
  have hD : va_D A [] := ⟨fun i j p q h => by simp at h, fun k q h => by simp at h⟩
  have hK : va_K D vwCl [] s := ⟨hK.1, fun k q h => by simp at h⟩
  refine W.eq (g2 := F0 m 11 ls [.ref q9]) rfl ?_
  refine lv_astore_n (lv' := [(2, .ref q9), (0, .ref h0), (1, .ref r0)]) hx hb dL_undo_11 rfl hl (by decide) rfl (fun ls hl => ?_)
  refine lv_iconst (v := 1) hx hb dL_undo_12 (by decide) ?_
  refine W.widen (k := 1) (n := 6) (Nat.le_of_ble_eq_true rfl) (Nat.le_of_ble_eq_true rfl) ?_
  exact W.iret (v := 1) hx hb hr (QG_.mk (fun _ => 0) (fun _ => 0) (fun _ => 0) [] [] hP hD hK hS rfl trivial rfl (by decide) rfl) hS.2.2 dL_undo_13
