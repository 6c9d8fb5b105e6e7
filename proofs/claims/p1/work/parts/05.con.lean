set_option maxHeartbeats 4000000 in
set_option maxRecDepth 100000 in
theorem c_X11_keeps_0 (l : Launch) (hl0 : l.stackTraces = false) (D : va_G) (ad : Nat → Nat) (sz : Nat) (h0 : Nat) (h1 : Nat) (h2 : Nat) (k1 : ClassId) (k2 : ClassId) (v0 : Value) (v1 : Value) (v2 : Value) (v3 : Value) (v4 : Value) (v5 : Value) (v6 : Value) (v7 : Value) (v8 : Value) (v9 : Value) (v10 : Value) (v11 : Value) (v12 : Value) (v13 : Value) (v14 : Value) (v15 : Value) (v16 : Value) (v17 : Value) (v18 : Value) (v19 : Value) (v20 : Value) (v21 : Value) : Met l yX11_keeps wsX11_keeps ({ frames := 0, cells := 0, slots := 0, locals := 0 }) (PC_ D ad [(h0, .inr (14, [v0, .ref h1, v1, .ref h2, .int 0, v2, v3, v4, v5, v6, v7, v8, v9, v10, v11, v12, v13, v14, v15, v16, v17, v18, v19, v20, v21])), (h1, .inl (k1, 8277, .inl (fun _ => 0))), (h2, .inl (k2, 66216, .inl (fun _ => 0)))] [(k1, .int), (k2, .int)] sz [.ref h0, .int 0]) (QG_ D (fun q i => some (.int 0)) (fun q i => True) (fun q k i => [(h0, .inr (14, [v0, .ref h1, v1, .ref h2, .int 1, v2, v3, v4, v5, v6, v7, v8, v9, v10, v11, v12, v13, v14, v15, v16, v17, v18, v19, v20, v21])), (h1, .inl (k1, 8277, .inl (fun _ => 0))), (h2, .inl (k2, 66216, .inl (fun _ => 0)))]) (fun q k i => [(k1, .int), (k2, .int)]) (va_A [(h0, .inr (14, [v0, .ref h1, v1, .ref h2, .int 0, v2, v3, v4, v5, v6, v7, v8, v9, v10, v11, v12, v13, v14, v15, v16, v17, v18, v19, v20, v21])), (h1, .inl (k1, 8277, .inl (fun _ => 0))), (h2, .inl (k2, 66216, .inl (fun _ => 0)))] sz)) 0 0 (va_A [(h0, .inr (14, [v0, .ref h1, v1, .ref h2, .int 0, v2, v3, v4, v5, v6, v7, v8, v9, v10, v11, v12, v13, v14, v15, v16, v17, v18, v19, v20, v21])), (h1, .inl (k1, 8277, .inl (fun _ => 0))), (h2, .inl (k2, 66216, .inl (fun _ => 0)))] sz) := by
  refine Met.ofW (cc := cX11_keeps) (maxL := 4) (ret := (some .int)) (by decide) rfl ?_
  intro p e s m args below meth c s₁ B hml hv
  obtain ⟨rfl, hsz, hP, hK, hD0, hF⟩ := hv
  have hx := B.exec
  have hb := B.bytes
  have hr := B.returns
  have hts := atoms_spec (ws := wsX11_keeps) B.pre
  have hown : s.vm.findClass RX11 = some m.cls := findClass_of_methodNamed B.named
  have hlocks := B.notSynchronized
  subst hsz
  have hD := hD0.self (sz := s.heap.size)
  generalize hAe : va_A [(h0, .inr (14, [v0, .ref h1, v1, .ref h2, .int 0, v2, v3, v4, v5, v6, v7, v8, v9, v10, v11, v12, v13, v14, v15, v16, v17, v18, v19, v20, v21])), (h1, .inl (k1, 8277, .inl (fun _ => 0))), (h2, .inl (k2, 66216, .inl (fun _ => 0)))] s.heap.size = A at hD hF ⊢
  have hA : ∀ q : Nat, s.heap.size ≤ q → A q := fun q h => by rw [← hAe]; exact Or.inr h
  obtain ⟨H, hHe⟩ : ∃ H : Heap, H = s.heap := ⟨_, rfl⟩
  have hS : va_S A s.heap H [] := by rw [hHe]; exact va_S.rf
  have hP : va_P D vwCl [(h0, .inr (14, [v0, .ref h1, v1, .ref h2, .int 0, v2, v3, v4, v5, v6, v7, v8, v9, v10, v11, v12, v13, v14, v15, v16, v17, v18, v19, v20, v21])), (h1, .inl (k1, 8277, .inl (fun _ => 0))), (h2, .inl (k2, 66216, .inl (fun _ => 0)))] H := by rw [hHe]; exact hP
  rw [← hHe]
  have hi_X11 : ∀ w ∈ wsX110, w ∈ wsX11_keeps := by decide +kernel
  have hl := lv_entry [.ref h0, .int 0] (n := 4) (Nat.le_of_ble_eq_true rfl)
  rw [lg_entry_eq]
  generalize (lg_sl [.ref h0, .int 0] ++ List.replicate (4 - (lg_sl [.ref h0, .int 0]).length) Slot.unset).toArray = ls at hl ⊢
  have hl : lv_has ls 4 [(0, .ref h0), (1, .int 0)] := hl
  refine lv_aload_n hx hb dX11_keeps_0 rfl (lv_at hl 0 rfl) ?_
  refine va_get (D := D) (ci := 14) (v := .int 0) (own := RX11) (C := RX11) (T := TX11) (N := 25) hx hb hts hi_X11 hown hK hP 0 rfl rfl 4 (by decide) (hts (.fieldLink RX11 60 "CanalMapsModel" "undos" "I") (List.mem_of_getElem? (i := 1) (by decide +kernel))) (fun _ h9 => h9) rfl dX11_keeps_1 ?_
  refine lv_bipush (v := 8) hx hb dX11_keeps_4 (by decide) ?_
  refine lv_icmp_ne (tgt := 49) hx hb dX11_keeps_6 (by decide) (fun _ => ?_) (fun c9 => absurd c9 (by decide +kernel))
  refine lv_bipush (v := 85) hx hb dX11_keeps_49 (by decide) ?_
  refine lv_aload_n hx hb dX11_keeps_51 rfl (lv_at hl 0 rfl) ?_
  refine va_get (D := D) (ci := 14) (v := .ref h1) (own := RX11) (C := RX11) (T := TX11) (N := 25) hx hb hts hi_X11 hown hK hP 0 rfl rfl 1 (by decide) (hts (.fieldLink RX11 13 "CanalMapsModel" "tried" "[I") (List.mem_of_getElem? (i := 4) (by decide +kernel))) (fun _ h9 => h9) rfl dX11_keeps_52 ?_
  refine lv_bipush (v := 84) hx hb dX11_keeps_55 (by decide) ?_
  refine va_iald hx hb hK hP 1 0 rfl rfl (vin_ (by decide +kernel)) dX11_keeps_57 ?_
  refine kt_ (v := 0) (by decide +kernel) ?_
  refine lv_iadd hx hb dX11_keeps_58 ?_
  refine kt_ (v := 85) (by decide +kernel) ?_
  refine lv_istore_n (lv' := [(2, .int 85), (0, .ref h0), (1, .int 0)]) hx hb dX11_keeps_59 rfl hl (by decide) rfl (fun ls hl => ?_)
  refine lv_iconst (v := 0) hx hb dX11_keeps_60 (by decide) ?_
  refine lv_istore_n (lv' := [(3, .int 0), (2, .int 85), (0, .ref h0), (1, .int 0)]) hx hb dX11_keeps_61 rfl hl (by decide) rfl (fun ls hl => ?_)
  refine lv_iload_n hx hb dX11_keeps_62 rfl (lv_at hl 0 rfl) ?_
  refine lv_iload_n hx hb dX11_keeps_63 rfl (lv_at hl 1 rfl) ?_
  refine lv_icmp_ge (tgt := 94) hx hb dX11_keeps_64 (by decide) (fun c9 => absurd c9 (by decide +kernel)) (fun _ => ?_)
  refine lv_aload_n hx hb dX11_keeps_67 rfl (lv_at hl 2 rfl) ?_
  refine va_get (D := D) (ci := 14) (v := .ref h2) (own := RX11) (C := RX11) (T := TX11) (N := 25) hx hb hts hi_X11 hown hK hP 0 rfl rfl 3 (by decide) (hts (.fieldLink RX11 20 "CanalMapsModel" "kept" "[I") (List.mem_of_getElem? (i := 3) (by decide +kernel))) (fun _ h9 => h9) rfl dX11_keeps_68 ?_
  refine lv_sipush (v := 8277) hx hb dX11_keeps_71 (by decide +kernel) ?_
  refine lv_aload_n hx hb dX11_keeps_74 rfl (lv_at hl 2 rfl) ?_
  refine va_get (D := D) (ci := 14) (v := .int 0) (own := RX11) (C := RX11) (T := TX11) (N := 25) hx hb hts hi_X11 hown hK hP 0 rfl rfl 4 (by decide) (hts (.fieldLink RX11 60 "CanalMapsModel" "undos" "I") (List.mem_of_getElem? (i := 1) (by decide +kernel))) (fun _ h9 => h9) rfl dX11_keeps_75 ?_
  refine lv_imul hx hb dX11_keeps_78 ?_
  refine kt_ (v := 0) (by decide +kernel) ?_
  refine lv_iload_n hx hb dX11_keeps_79 rfl (lv_at hl 0 rfl) ?_
  refine lv_iadd hx hb dX11_keeps_80 ?_
  refine kt_ (v := 0) (by decide +kernel) ?_
  refine lv_aload_n hx hb dX11_keeps_81 rfl (lv_at hl 2 rfl) ?_
  refine va_get (D := D) (ci := 14) (v := .ref h1) (own := RX11) (C := RX11) (T := TX11) (N := 25) hx hb hts hi_X11 hown hK hP 0 rfl rfl 1 (by decide) (hts (.fieldLink RX11 13 "CanalMapsModel" "tried" "[I") (List.mem_of_getElem? (i := 4) (by decide +kernel))) (fun _ h9 => h9) rfl dX11_keeps_82 ?_
  refine lv_iload_n hx hb dX11_keeps_85 rfl (lv_at hl 0 rfl) ?_
  refine va_iald hx hb hK hP 1 0 rfl rfl (vin_ (by decide +kernel)) dX11_keeps_86 ?_
  refine kt_ (v := 0) (by decide +kernel) ?_
  refine ka_iast (g := (fun _ => 0)) hx hb hK hP hD hS 2 1 rfl rfl (vin_ (by decide +kernel)) (up_same (by decide +kernel)) dX11_keeps_87 (fun H locs hP hD hS => ?_)
  have hP : va_P D vwCl [(h0, .inr (14, [v0, .ref h1, v1, .ref h2, .int 0, v2, v3, v4, v5, v6, v7, v8, v9, v10, v11, v12, v13, v14, v15, v16, v17, v18, v19, v20, v21])), (h1, .inl (k1, 8277, .inl (fun _ => 0))), (h2, .inl (k2, 66216, .inl (fun _ => 0)))] H := hP
  have hD : va_D A [(h0, .inr (14, [v0, .ref h1, v1, .ref h2, .int 0, v2, v3, v4, v5, v6, v7, v8, v9, v10, v11, v12, v13, v14, v15, v16, v17, v18, v19, v20, v21])), (h1, .inl (k1, 8277, .inl (fun _ => 0))), (h2, .inl (k2, 66216, .inl (fun _ => 0)))] := hD
  refine lv_iinc (v := 1) (lv' := [(3, .int 1), (2, .int 85), (0, .ref h0), (1, .int 0)]) hx hb dX11_keeps_88 hl (k := 0) rfl (by decide +kernel) (by decide) rfl (fun ls hl => ?_)
  refine lv_goto (tgt := 62) hx hb dX11_keeps_91 (by decide) ?_
  refine lv_iload_n hx hb dX11_keeps_62 rfl (lv_at hl 0 rfl) ?_
  refine lv_iload_n hx hb dX11_keeps_63 rfl (lv_at hl 1 rfl) ?_
  refine lv_icmp_ge (tgt := 94) hx hb dX11_keeps_64 (by decide) (fun c9 => absurd c9 (by decide +kernel)) (fun _ => ?_)
  refine lv_aload_n hx hb dX11_keeps_67 rfl (lv_at hl 2 rfl) ?_
  refine va_get (D := D) (ci := 14) (v := .ref h2) (own := RX11) (C := RX11) (T := TX11) (N := 25) hx hb hts hi_X11 hown hK hP 0 rfl rfl 3 (by decide) (hts (.fieldLink RX11 20 "CanalMapsModel" "kept" "[I") (List.mem_of_getElem? (i := 3) (by decide +kernel))) (fun _ h9 => h9) rfl dX11_keeps_68 ?_
  refine lv_sipush (v := 8277) hx hb dX11_keeps_71 (by decide +kernel) ?_
  refine lv_aload_n hx hb dX11_keeps_74 rfl (lv_at hl 2 rfl) ?_
  refine va_get (D := D) (ci := 14) (v := .int 0) (own := RX11) (C := RX11) (T := TX11) (N := 25) hx hb hts hi_X11 hown hK hP 0 rfl rfl 4 (by decide) (hts (.fieldLink RX11 60 "CanalMapsModel" "undos" "I") (List.mem_of_getElem? (i := 1) (by decide +kernel))) (fun _ h9 => h9) rfl dX11_keeps_75 ?_
  refine lv_imul hx hb dX11_keeps_78 ?_
  refine kt_ (v := 0) (by decide +kernel) ?_
  refine lv_iload_n hx hb dX11_keeps_79 rfl (lv_at hl 0 rfl) ?_
  refine lv_iadd hx hb dX11_keeps_80 ?_
  refine kt_ (v := 1) (by decide +kernel) ?_
  refine lv_aload_n hx hb dX11_keeps_81 rfl (lv_at hl 2 rfl) ?_
  refine va_get (D := D) (ci := 14) (v := .ref h1) (own := RX11) (C := RX11) (T := TX11) (N := 25) hx hb hts hi_X11 hown hK hP 0 rfl rfl 1 (by decide) (hts (.fieldLink RX11 13 "CanalMapsModel" "tried" "[I") (List.mem_of_getElem? (i := 4) (by decide +kernel))) (fun _ h9 => h9) rfl dX11_keeps_82 ?_
  refine lv_iload_n hx hb dX11_keeps_85 rfl (lv_at hl 0 rfl) ?_
  refine va_iald hx hb hK hP 1 0 rfl rfl (vin_ (by decide +kernel)) dX11_keeps_86 ?_
  refine kt_ (v := 0) (by decide +kernel) ?_
  refine ka_iast (g := (fun _ => 0)) hx hb hK hP hD hS 2 1 rfl rfl (vin_ (by decide +kernel)) (up_same (by decide +kernel)) dX11_keeps_87 (fun H locs hP hD hS => ?_)
  have hP : va_P D vwCl [(h0, .inr (14, [v0, .ref h1, v1, .ref h2, .int 0, v2, v3, v4, v5, v6, v7, v8, v9, v10, v11, v12, v13, v14, v15, v16, v17, v18, v19, v20, v21])), (h1, .inl (k1, 8277, .inl (fun _ => 0))), (h2, .inl (k2, 66216, .inl (fun _ => 0)))] H := hP
  have hD : va_D A [(h0, .inr (14, [v0, .ref h1, v1, .ref h2, .int 0, v2, v3, v4, v5, v6, v7, v8, v9, v10, v11, v12, v13, v14, v15, v16, v17, v18, v19, v20, v21])), (h1, .inl (k1, 8277, .inl (fun _ => 0))), (h2, .inl (k2, 66216, .inl (fun _ => 0)))] := hD
  refine lv_iinc (v := 2) (lv' := [(3, .int 2), (2, .int 85), (0, .ref h0), (1, .int 0)]) hx hb dX11_keeps_88 hl (k := 0) rfl (by decide +kernel) (by decide) rfl (fun ls hl => ?_)
  refine lv_goto (tgt := 62) hx hb dX11_keeps_91 (by decide) ?_
  refine lv_iload_n hx hb dX11_keeps_62 rfl (lv_at hl 0 rfl) ?_
  refine lv_iload_n hx hb dX11_keeps_63 rfl (lv_at hl 1 rfl) ?_
  refine lv_icmp_ge (tgt := 94) hx hb dX11_keeps_64 (by decide) (fun c9 => absurd c9 (by decide +kernel)) (fun _ => ?_)
  refine lv_aload_n hx hb dX11_keeps_67 rfl (lv_at hl 2 rfl) ?_
  refine va_get (D := D) (ci := 14) (v := .ref h2) (own := RX11) (C := RX11) (T := TX11) (N := 25) hx hb hts hi_X11 hown hK hP 0 rfl rfl 3 (by decide) (hts (.fieldLink RX11 20 "CanalMapsModel" "kept" "[I") (List.mem_of_getElem? (i := 3) (by decide +kernel))) (fun _ h9 => h9) rfl dX11_keeps_68 ?_
  refine lv_sipush (v := 8277) hx hb dX11_keeps_71 (by decide +kernel) ?_
  refine lv_aload_n hx hb dX11_keeps_74 rfl (lv_at hl 2 rfl) ?_
  refine va_get (D := D) (ci := 14) (v := .int 0) (own := RX11) (C := RX11) (T := TX11) (N := 25) hx hb hts hi_X11 hown hK hP 0 rfl rfl 4 (by decide) (hts (.fieldLink RX11 60 "CanalMapsModel" "undos" "I") (List.mem_of_getElem? (i := 1) (by decide +kernel))) (fun _ h9 => h9) rfl dX11_keeps_75 ?_
  refine lv_imul hx hb dX11_keeps_78 ?_
  refine kt_ (v := 0) (by decide +kernel) ?_
  refine lv_iload_n hx hb dX11_keeps_79 rfl (lv_at hl 0 rfl) ?_
  refine lv_iadd hx hb dX11_keeps_80 ?_
  refine kt_ (v := 2) (by decide +kernel) ?_
  refine lv_aload_n hx hb dX11_keeps_81 rfl (lv_at hl 2 rfl) ?_
  refine va_get (D := D) (ci := 14) (v := .ref h1) (own := RX11) (C := RX11) (T := TX11) (N := 25) hx hb hts hi_X11 hown hK hP 0 rfl rfl 1 (by decide) (hts (.fieldLink RX11 13 "CanalMapsModel" "tried" "[I") (List.mem_of_getElem? (i := 4) (by decide +kernel))) (fun _ h9 => h9) rfl dX11_keeps_82 ?_
  refine lv_iload_n hx hb dX11_keeps_85 rfl (lv_at hl 0 rfl) ?_
  refine va_iald hx hb hK hP 1 0 rfl rfl (vin_ (by decide +kernel)) dX11_keeps_86 ?_
  refine kt_ (v := 0) (by decide +kernel) ?_
  refine ka_iast (g := (fun _ => 0)) hx hb hK hP hD hS 2 1 rfl rfl (vin_ (by decide +kernel)) (up_same (by decide +kernel)) dX11_keeps_87 (fun H locs hP hD hS => ?_)
  have hP : va_P D vwCl [(h0, .inr (14, [v0, .ref h1, v1, .ref h2, .int 0, v2, v3, v4, v5, v6, v7, v8, v9, v10, v11, v12, v13, v14, v15, v16, v17, v18, v19, v20, v21])), (h1, .inl (k1, 8277, .inl (fun _ => 0))), (h2, .inl (k2, 66216, .inl (fun _ => 0)))] H := hP
  have hD : va_D A [(h0, .inr (14, [v0, .ref h1, v1, .ref h2, .int 0, v2, v3, v4, v5, v6, v7, v8, v9, v10, v11, v12, v13, v14, v15, v16, v17, v18, v19, v20, v21])), (h1, .inl (k1, 8277, .inl (fun _ => 0))), (h2, .inl (k2, 66216, .inl (fun _ => 0)))] := hD
  refine lv_iinc (v := 3) (lv' := [(3, .int 3), (2, .int 85), (0, .ref h0), (1, .int 0)]) hx hb dX11_keeps_88 hl (k := 0) rfl (by decide +kernel) (by decide) rfl (fun ls hl => ?_)
  refine lv_goto (tgt := 62) hx hb dX11_keeps_91 (by decide) ?_
  refine lv_iload_n hx hb dX11_keeps_62 rfl (lv_at hl 0 rfl) ?_
  refine lv_iload_n hx hb dX11_keeps_63 rfl (lv_at hl 1 rfl) ?_
  refine lv_icmp_ge (tgt := 94) hx hb dX11_keeps_64 (by decide) (fun c9 => absurd c9 (by decide +kernel)) (fun _ => ?_)
  refine lv_aload_n hx hb dX11_keeps_67 rfl (lv_at hl 2 rfl) ?_
  refine va_get (D := D) (ci := 14) (v := .ref h2) (own := RX11) (C := RX11) (T := TX11) (N := 25) hx hb hts hi_X11 hown hK hP 0 rfl rfl 3 (by decide) (hts (.fieldLink RX11 20 "CanalMapsModel" "kept" "[I") (List.mem_of_getElem? (i := 3) (by decide +kernel))) (fun _ h9 => h9) rfl dX11_keeps_68 ?_
  refine lv_sipush (v := 8277) hx hb dX11_keeps_71 (by decide +kernel) ?_
  refine lv_aload_n hx hb dX11_keeps_74 rfl (lv_at hl 2 rfl) ?_
  refine va_get (D := D) (ci := 14) (v := .int 0) (own := RX11) (C := RX11) (T := TX11) (N := 25) hx hb hts hi_X11 hown hK hP 0 rfl rfl 4 (by decide) (hts (.fieldLink RX11 60 "CanalMapsModel" "undos" "I") (List.mem_of_getElem? (i := 1) (by decide +kernel))) (fun _ h9 => h9) rfl dX11_keeps_75 ?_
  refine lv_imul hx hb dX11_keeps_78 ?_
  refine kt_ (v := 0) (by decide +kernel) ?_
  refine lv_iload_n hx hb dX11_keeps_79 rfl (lv_at hl 0 rfl) ?_
  refine lv_iadd hx hb dX11_keeps_80 ?_
  refine kt_ (v := 3) (by decide +kernel) ?_
  refine lv_aload_n hx hb dX11_keeps_81 rfl (lv_at hl 2 rfl) ?_
  refine va_get (D := D) (ci := 14) (v := .ref h1) (own := RX11) (C := RX11) (T := TX11) (N := 25) hx hb hts hi_X11 hown hK hP 0 rfl rfl 1 (by decide) (hts (.fieldLink RX11 13 "CanalMapsModel" "tried" "[I") (List.mem_of_getElem? (i := 4) (by decide +kernel))) (fun _ h9 => h9) rfl dX11_keeps_82 ?_
  refine lv_iload_n hx hb dX11_keeps_85 rfl (lv_at hl 0 rfl) ?_
  refine va_iald hx hb hK hP 1 0 rfl rfl (vin_ (by decide +kernel)) dX11_keeps_86 ?_
  refine kt_ (v := 0) (by decide +kernel) ?_
  refine ka_iast (g := (fun _ => 0)) hx hb hK hP hD hS 2 1 rfl rfl (vin_ (by decide +kernel)) (up_same (by decide +kernel)) dX11_keeps_87 (fun H locs hP hD hS => ?_)
  have hP : va_P D vwCl [(h0, .inr (14, [v0, .ref h1, v1, .ref h2, .int 0, v2, v3, v4, v5, v6, v7, v8, v9, v10, v11, v12, v13, v14, v15, v16, v17, v18, v19, v20, v21])), (h1, .inl (k1, 8277, .inl (fun _ => 0))), (h2, .inl (k2, 66216, .inl (fun _ => 0)))] H := hP
  have hD : va_D A [(h0, .inr (14, [v0, .ref h1, v1, .ref h2, .int 0, v2, v3, v4, v5, v6, v7, v8, v9, v10, v11, v12, v13, v14, v15, v16, v17, v18, v19, v20, v21])), (h1, .inl (k1, 8277, .inl (fun _ => 0))), (h2, .inl (k2, 66216, .inl (fun _ => 0)))] := hD
  refine lv_iinc (v := 4) (lv' := [(3, .int 4), (2, .int 85), (0, .ref h0), (1, .int 0)]) hx hb dX11_keeps_88 hl (k := 0) rfl (by decide +kernel) (by decide) rfl (fun ls hl => ?_)
  refine lv_goto (tgt := 62) hx hb dX11_keeps_91 (by decide) ?_
  refine lv_iload_n hx hb dX11_keeps_62 rfl (lv_at hl 0 rfl) ?_
  refine lv_iload_n hx hb dX11_keeps_63 rfl (lv_at hl 1 rfl) ?_
  refine lv_icmp_ge (tgt := 94) hx hb dX11_keeps_64 (by decide) (fun c9 => absurd c9 (by decide +kernel)) (fun _ => ?_)
  refine lv_aload_n hx hb dX11_keeps_67 rfl (lv_at hl 2 rfl) ?_
  refine va_get (D := D) (ci := 14) (v := .ref h2) (own := RX11) (C := RX11) (T := TX11) (N := 25) hx hb hts hi_X11 hown hK hP 0 rfl rfl 3 (by decide) (hts (.fieldLink RX11 20 "CanalMapsModel" "kept" "[I") (List.mem_of_getElem? (i := 3) (by decide +kernel))) (fun _ h9 => h9) rfl dX11_keeps_68 ?_
  refine lv_sipush (v := 8277) hx hb dX11_keeps_71 (by decide +kernel) ?_
  refine lv_aload_n hx hb dX11_keeps_74 rfl (lv_at hl 2 rfl) ?_
  refine va_get (D := D) (ci := 14) (v := .int 0) (own := RX11) (C := RX11) (T := TX11) (N := 25) hx hb hts hi_X11 hown hK hP 0 rfl rfl 4 (by decide) (hts (.fieldLink RX11 60 "CanalMapsModel" "undos" "I") (List.mem_of_getElem? (i := 1) (by decide +kernel))) (fun _ h9 => h9) rfl dX11_keeps_75 ?_
  refine lv_imul hx hb dX11_keeps_78 ?_
  refine kt_ (v := 0) (by decide +kernel) ?_
  refine lv_iload_n hx hb dX11_keeps_79 rfl (lv_at hl 0 rfl) ?_
  refine lv_iadd hx hb dX11_keeps_80 ?_
  refine kt_ (v := 4) (by decide +kernel) ?_
  refine lv_aload_n hx hb dX11_keeps_81 rfl (lv_at hl 2 rfl) ?_
  refine va_get (D := D) (ci := 14) (v := .ref h1) (own := RX11) (C := RX11) (T := TX11) (N := 25) hx hb hts hi_X11 hown hK hP 0 rfl rfl 1 (by decide) (hts (.fieldLink RX11 13 "CanalMapsModel" "tried" "[I") (List.mem_of_getElem? (i := 4) (by decide +kernel))) (fun _ h9 => h9) rfl dX11_keeps_82 ?_
  refine lv_iload_n hx hb dX11_keeps_85 rfl (lv_at hl 0 rfl) ?_
  refine va_iald hx hb hK hP 1 0 rfl rfl (vin_ (by decide +kernel)) dX11_keeps_86 ?_
  refine kt_ (v := 0) (by decide +kernel) ?_
  refine ka_iast (g := (fun _ => 0)) hx hb hK hP hD hS 2 1 rfl rfl (vin_ (by decide +kernel)) (up_same (by decide +kernel)) dX11_keeps_87 (fun H locs hP hD hS => ?_)
  have hP : va_P D vwCl [(h0, .inr (14, [v0, .ref h1, v1, .ref h2, .int 0, v2, v3, v4, v5, v6, v7, v8, v9, v10, v11, v12, v13, v14, v15, v16, v17, v18, v19, v20, v21])), (h1, .inl (k1, 8277, .inl (fun _ => 0))), (h2, .inl (k2, 66216, .inl (fun _ => 0)))] H := hP
  have hD : va_D A [(h0, .inr (14, [v0, .ref h1, v1, .ref h2, .int 0, v2, v3, v4, v5, v6, v7, v8, v9, v10, v11, v12, v13, v14, v15, v16, v17, v18, v19, v20, v21])), (h1, .inl (k1, 8277, .inl (fun _ => 0))), (h2, .inl (k2, 66216, .inl (fun _ => 0)))] := hD
  refine lv_iinc (v := 5) (lv' := [(3, .int 5), (2, .int 85), (0, .ref h0), (1, .int 0)]) hx hb dX11_keeps_88 hl (k := 0) rfl (by decide +kernel) (by decide) rfl (fun ls hl => ?_)
  refine lv_goto (tgt := 62) hx hb dX11_keeps_91 (by decide) ?_
  refine lv_iload_n hx hb dX11_keeps_62 rfl (lv_at hl 0 rfl) ?_
  refine lv_iload_n hx hb dX11_keeps_63 rfl (lv_at hl 1 rfl) ?_
  refine lv_icmp_ge (tgt := 94) hx hb dX11_keeps_64 (by decide) (fun c9 => absurd c9 (by decide +kernel)) (fun _ => ?_)
  refine lv_aload_n hx hb dX11_keeps_67 rfl (lv_at hl 2 rfl) ?_
  refine va_get (D := D) (ci := 14) (v := .ref h2) (own := RX11) (C := RX11) (T := TX11) (N := 25) hx hb hts hi_X11 hown hK hP 0 rfl rfl 3 (by decide) (hts (.fieldLink RX11 20 "CanalMapsModel" "kept" "[I") (List.mem_of_getElem? (i := 3) (by decide +kernel))) (fun _ h9 => h9) rfl dX11_keeps_68 ?_
  refine lv_sipush (v := 8277) hx hb dX11_keeps_71 (by decide +kernel) ?_
  refine lv_aload_n hx hb dX11_keeps_74 rfl (lv_at hl 2 rfl) ?_
  refine va_get (D := D) (ci := 14) (v := .int 0) (own := RX11) (C := RX11) (T := TX11) (N := 25) hx hb hts hi_X11 hown hK hP 0 rfl rfl 4 (by decide) (hts (.fieldLink RX11 60 "CanalMapsModel" "undos" "I") (List.mem_of_getElem? (i := 1) (by decide +kernel))) (fun _ h9 => h9) rfl dX11_keeps_75 ?_
  refine lv_imul hx hb dX11_keeps_78 ?_
  refine kt_ (v := 0) (by decide +kernel) ?_
  refine lv_iload_n hx hb dX11_keeps_79 rfl (lv_at hl 0 rfl) ?_
  refine lv_iadd hx hb dX11_keeps_80 ?_
  refine kt_ (v := 5) (by decide +kernel) ?_
  refine lv_aload_n hx hb dX11_keeps_81 rfl (lv_at hl 2 rfl) ?_
  refine va_get (D := D) (ci := 14) (v := .ref h1) (own := RX11) (C := RX11) (T := TX11) (N := 25) hx hb hts hi_X11 hown hK hP 0 rfl rfl 1 (by decide) (hts (.fieldLink RX11 13 "CanalMapsModel" "tried" "[I") (List.mem_of_getElem? (i := 4) (by decide +kernel))) (fun _ h9 => h9) rfl dX11_keeps_82 ?_
  refine lv_iload_n hx hb dX11_keeps_85 rfl (lv_at hl 0 rfl) ?_
  refine va_iald hx hb hK hP 1 0 rfl rfl (vin_ (by decide +kernel)) dX11_keeps_86 ?_
  refine kt_ (v := 0) (by decide +kernel) ?_
  refine ka_iast (g := (fun _ => 0)) hx hb hK hP hD hS 2 1 rfl rfl (vin_ (by decide +kernel)) (up_same (by decide +kernel)) dX11_keeps_87 (fun H locs hP hD hS => ?_)
  have hP : va_P D vwCl [(h0, .inr (14, [v0, .ref h1, v1, .ref h2, .int 0, v2, v3, v4, v5, v6, v7, v8, v9, v10, v11, v12, v13, v14, v15, v16, v17, v18, v19, v20, v21])), (h1, .inl (k1, 8277, .inl (fun _ => 0))), (h2, .inl (k2, 66216, .inl (fun _ => 0)))] H := hP
  have hD : va_D A [(h0, .inr (14, [v0, .ref h1, v1, .ref h2, .int 0, v2, v3, v4, v5, v6, v7, v8, v9, v10, v11, v12, v13, v14, v15, v16, v17, v18, v19, v20, v21])), (h1, .inl (k1, 8277, .inl (fun _ => 0))), (h2, .inl (k2, 66216, .inl (fun _ => 0)))] := hD
  refine lv_iinc (v := 6) (lv' := [(3, .int 6), (2, .int 85), (0, .ref h0), (1, .int 0)]) hx hb dX11_keeps_88 hl (k := 0) rfl (by decide +kernel) (by decide) rfl (fun ls hl => ?_)
  refine lv_goto (tgt := 62) hx hb dX11_keeps_91 (by decide) ?_
  refine lv_iload_n hx hb dX11_keeps_62 rfl (lv_at hl 0 rfl) ?_
  refine lv_iload_n hx hb dX11_keeps_63 rfl (lv_at hl 1 rfl) ?_
  refine lv_icmp_ge (tgt := 94) hx hb dX11_keeps_64 (by decide) (fun c9 => absurd c9 (by decide +kernel)) (fun _ => ?_)
  refine lv_aload_n hx hb dX11_keeps_67 rfl (lv_at hl 2 rfl) ?_
  refine va_get (D := D) (ci := 14) (v := .ref h2) (own := RX11) (C := RX11) (T := TX11) (N := 25) hx hb hts hi_X11 hown hK hP 0 rfl rfl 3 (by decide) (hts (.fieldLink RX11 20 "CanalMapsModel" "kept" "[I") (List.mem_of_getElem? (i := 3) (by decide +kernel))) (fun _ h9 => h9) rfl dX11_keeps_68 ?_
  refine lv_sipush (v := 8277) hx hb dX11_keeps_71 (by decide +kernel) ?_
  refine lv_aload_n hx hb dX11_keeps_74 rfl (lv_at hl 2 rfl) ?_
  refine va_get (D := D) (ci := 14) (v := .int 0) (own := RX11) (C := RX11) (T := TX11) (N := 25) hx hb hts hi_X11 hown hK hP 0 rfl rfl 4 (by decide) (hts (.fieldLink RX11 60 "CanalMapsModel" "undos" "I") (List.mem_of_getElem? (i := 1) (by decide +kernel))) (fun _ h9 => h9) rfl dX11_keeps_75 ?_
  refine lv_imul hx hb dX11_keeps_78 ?_
  refine kt_ (v := 0) (by decide +kernel) ?_
  refine lv_iload_n hx hb dX11_keeps_79 rfl (lv_at hl 0 rfl) ?_
  refine lv_iadd hx hb dX11_keeps_80 ?_
  refine kt_ (v := 6) (by decide +kernel) ?_
  refine lv_aload_n hx hb dX11_keeps_81 rfl (lv_at hl 2 rfl) ?_
  refine va_get (D := D) (ci := 14) (v := .ref h1) (own := RX11) (C := RX11) (T := TX11) (N := 25) hx hb hts hi_X11 hown hK hP 0 rfl rfl 1 (by decide) (hts (.fieldLink RX11 13 "CanalMapsModel" "tried" "[I") (List.mem_of_getElem? (i := 4) (by decide +kernel))) (fun _ h9 => h9) rfl dX11_keeps_82 ?_
  refine lv_iload_n hx hb dX11_keeps_85 rfl (lv_at hl 0 rfl) ?_
  refine va_iald hx hb hK hP 1 0 rfl rfl (vin_ (by decide +kernel)) dX11_keeps_86 ?_
  refine kt_ (v := 0) (by decide +kernel) ?_
  refine ka_iast (g := (fun _ => 0)) hx hb hK hP hD hS 2 1 rfl rfl (vin_ (by decide +kernel)) (up_same (by decide +kernel)) dX11_keeps_87 (fun H locs hP hD hS => ?_)
  have hP : va_P D vwCl [(h0, .inr (14, [v0, .ref h1, v1, .ref h2, .int 0, v2, v3, v4, v5, v6, v7, v8, v9, v10, v11, v12, v13, v14, v15, v16, v17, v18, v19, v20, v21])), (h1, .inl (k1, 8277, .inl (fun _ => 0))), (h2, .inl (k2, 66216, .inl (fun _ => 0)))] H := hP
  have hD : va_D A [(h0, .inr (14, [v0, .ref h1, v1, .ref h2, .int 0, v2, v3, v4, v5, v6, v7, v8, v9, v10, v11, v12, v13, v14, v15, v16, v17, v18, v19, v20, v21])), (h1, .inl (k1, 8277, .inl (fun _ => 0))), (h2, .inl (k2, 66216, .inl (fun _ => 0)))] := hD
  refine lv_iinc (v := 7) (lv' := [(3, .int 7), (2, .int 85), (0, .ref h0), (1, .int 0)]) hx hb dX11_keeps_88 hl (k := 0) rfl (by decide +kernel) (by decide) rfl (fun ls hl => ?_)
  refine lv_goto (tgt := 62) hx hb dX11_keeps_91 (by decide) ?_
  refine lv_iload_n hx hb dX11_keeps_62 rfl (lv_at hl 0 rfl) ?_
  refine lv_iload_n hx hb dX11_keeps_63 rfl (lv_at hl 1 rfl) ?_
  refine lv_icmp_ge (tgt := 94) hx hb dX11_keeps_64 (by decide) (fun c9 => absurd c9 (by decide +kernel)) (fun _ => ?_)
  refine lv_aload_n hx hb dX11_keeps_67 rfl (lv_at hl 2 rfl) ?_
  refine va_get (D := D) (ci := 14) (v := .ref h2) (own := RX11) (C := RX11) (T := TX11) (N := 25) hx hb hts hi_X11 hown hK hP 0 rfl rfl 3 (by decide) (hts (.fieldLink RX11 20 "CanalMapsModel" "kept" "[I") (List.mem_of_getElem? (i := 3) (by decide +kernel))) (fun _ h9 => h9) rfl dX11_keeps_68 ?_
  refine lv_sipush (v := 8277) hx hb dX11_keeps_71 (by decide +kernel) ?_
  refine lv_aload_n hx hb dX11_keeps_74 rfl (lv_at hl 2 rfl) ?_
  refine va_get (D := D) (ci := 14) (v := .int 0) (own := RX11) (C := RX11) (T := TX11) (N := 25) hx hb hts hi_X11 hown hK hP 0 rfl rfl 4 (by decide) (hts (.fieldLink RX11 60 "CanalMapsModel" "undos" "I") (List.mem_of_getElem? (i := 1) (by decide +kernel))) (fun _ h9 => h9) rfl dX11_keeps_75 ?_
  refine lv_imul hx hb dX11_keeps_78 ?_
  refine kt_ (v := 0) (by decide +kernel) ?_
  refine lv_iload_n hx hb dX11_keeps_79 rfl (lv_at hl 0 rfl) ?_
  refine lv_iadd hx hb dX11_keeps_80 ?_
  refine kt_ (v := 7) (by decide +kernel) ?_
  refine lv_aload_n hx hb dX11_keeps_81 rfl (lv_at hl 2 rfl) ?_
  refine va_get (D := D) (ci := 14) (v := .ref h1) (own := RX11) (C := RX11) (T := TX11) (N := 25) hx hb hts hi_X11 hown hK hP 0 rfl rfl 1 (by decide) (hts (.fieldLink RX11 13 "CanalMapsModel" "tried" "[I") (List.mem_of_getElem? (i := 4) (by decide +kernel))) (fun _ h9 => h9) rfl dX11_keeps_82 ?_
  refine lv_iload_n hx hb dX11_keeps_85 rfl (lv_at hl 0 rfl) ?_
  refine va_iald hx hb hK hP 1 0 rfl rfl (vin_ (by decide +kernel)) dX11_keeps_86 ?_
  refine kt_ (v := 0) (by decide +kernel) ?_
  refine ka_iast (g := (fun _ => 0)) hx hb hK hP hD hS 2 1 rfl rfl (vin_ (by decide +kernel)) (up_same (by decide +kernel)) dX11_keeps_87 (fun H locs hP hD hS => ?_)
  have hP : va_P D vwCl [(h0, .inr (14, [v0, .ref h1, v1, .ref h2, .int 0, v2, v3, v4, v5, v6, v7, v8, v9, v10, v11, v12, v13, v14, v15, v16, v17, v18, v19, v20, v21])), (h1, .inl (k1, 8277, .inl (fun _ => 0))), (h2, .inl (k2, 66216, .inl (fun _ => 0)))] H := hP
  have hD : va_D A [(h0, .inr (14, [v0, .ref h1, v1, .ref h2, .int 0, v2, v3, v4, v5, v6, v7, v8, v9, v10, v11, v12, v13, v14, v15, v16, v17, v18, v19, v20, v21])), (h1, .inl (k1, 8277, .inl (fun _ => 0))), (h2, .inl (k2, 66216, .inl (fun _ => 0)))] := hD
  refine lv_iinc (v := 8) (lv' := [(3, .int 8), (2, .int 85), (0, .ref h0), (1, .int 0)]) hx hb dX11_keeps_88 hl (k := 0) rfl (by decide +kernel) (by decide) rfl (fun ls hl => ?_)
  refine lv_goto (tgt := 62) hx hb dX11_keeps_91 (by decide) ?_
  refine lv_iload_n hx hb dX11_keeps_62 rfl (lv_at hl 0 rfl) ?_
  refine lv_iload_n hx hb dX11_keeps_63 rfl (lv_at hl 1 rfl) ?_
  refine lv_icmp_ge (tgt := 94) hx hb dX11_keeps_64 (by decide) (fun c9 => absurd c9 (by decide +kernel)) (fun _ => ?_)
  refine lv_aload_n hx hb dX11_keeps_67 rfl (lv_at hl 2 rfl) ?_
  refine va_get (D := D) (ci := 14) (v := .ref h2) (own := RX11) (C := RX11) (T := TX11) (N := 25) hx hb hts hi_X11 hown hK hP 0 rfl rfl 3 (by decide) (hts (.fieldLink RX11 20 "CanalMapsModel" "kept" "[I") (List.mem_of_getElem? (i := 3) (by decide +kernel))) (fun _ h9 => h9) rfl dX11_keeps_68 ?_
  refine lv_sipush (v := 8277) hx hb dX11_keeps_71 (by decide +kernel) ?_
  refine lv_aload_n hx hb dX11_keeps_74 rfl (lv_at hl 2 rfl) ?_
  refine va_get (D := D) (ci := 14) (v := .int 0) (own := RX11) (C := RX11) (T := TX11) (N := 25) hx hb hts hi_X11 hown hK hP 0 rfl rfl 4 (by decide) (hts (.fieldLink RX11 60 "CanalMapsModel" "undos" "I") (List.mem_of_getElem? (i := 1) (by decide +kernel))) (fun _ h9 => h9) rfl dX11_keeps_75 ?_
  refine lv_imul hx hb dX11_keeps_78 ?_
  refine kt_ (v := 0) (by decide +kernel) ?_
  refine lv_iload_n hx hb dX11_keeps_79 rfl (lv_at hl 0 rfl) ?_
  refine lv_iadd hx hb dX11_keeps_80 ?_
  refine kt_ (v := 8) (by decide +kernel) ?_
  refine lv_aload_n hx hb dX11_keeps_81 rfl (lv_at hl 2 rfl) ?_
  refine va_get (D := D) (ci := 14) (v := .ref h1) (own := RX11) (C := RX11) (T := TX11) (N := 25) hx hb hts hi_X11 hown hK hP 0 rfl rfl 1 (by decide) (hts (.fieldLink RX11 13 "CanalMapsModel" "tried" "[I") (List.mem_of_getElem? (i := 4) (by decide +kernel))) (fun _ h9 => h9) rfl dX11_keeps_82 ?_
  refine lv_iload_n hx hb dX11_keeps_85 rfl (lv_at hl 0 rfl) ?_
  refine va_iald hx hb hK hP 1 0 rfl rfl (vin_ (by decide +kernel)) dX11_keeps_86 ?_
  refine kt_ (v := 0) (by decide +kernel) ?_
  refine ka_iast (g := (fun _ => 0)) hx hb hK hP hD hS 2 1 rfl rfl (vin_ (by decide +kernel)) (up_same (by decide +kernel)) dX11_keeps_87 (fun H locs hP hD hS => ?_)
  have hP : va_P D vwCl [(h0, .inr (14, [v0, .ref h1, v1, .ref h2, .int 0, v2, v3, v4, v5, v6, v7, v8, v9, v10, v11, v12, v13, v14, v15, v16, v17, v18, v19, v20, v21])), (h1, .inl (k1, 8277, .inl (fun _ => 0))), (h2, .inl (k2, 66216, .inl (fun _ => 0)))] H := hP
  have hD : va_D A [(h0, .inr (14, [v0, .ref h1, v1, .ref h2, .int 0, v2, v3, v4, v5, v6, v7, v8, v9, v10, v11, v12, v13, v14, v15, v16, v17, v18, v19, v20, v21])), (h1, .inl (k1, 8277, .inl (fun _ => 0))), (h2, .inl (k2, 66216, .inl (fun _ => 0)))] := hD
  refine lv_iinc (v := 9) (lv' := [(3, .int 9), (2, .int 85), (0, .ref h0), (1, .int 0)]) hx hb dX11_keeps_88 hl (k := 0) rfl (by decide +kernel) (by decide) rfl (fun ls hl => ?_)
  refine lv_goto (tgt := 62) hx hb dX11_keeps_91 (by decide) ?_
  refine lv_iload_n hx hb dX11_keeps_62 rfl (lv_at hl 0 rfl) ?_
  refine lv_iload_n hx hb dX11_keeps_63 rfl (lv_at hl 1 rfl) ?_
  refine lv_icmp_ge (tgt := 94) hx hb dX11_keeps_64 (by decide) (fun c9 => absurd c9 (by decide +kernel)) (fun _ => ?_)
  refine lv_aload_n hx hb dX11_keeps_67 rfl (lv_at hl 2 rfl) ?_
  refine va_get (D := D) (ci := 14) (v := .ref h2) (own := RX11) (C := RX11) (T := TX11) (N := 25) hx hb hts hi_X11 hown hK hP 0 rfl rfl 3 (by decide) (hts (.fieldLink RX11 20 "CanalMapsModel" "kept" "[I") (List.mem_of_getElem? (i := 3) (by decide +kernel))) (fun _ h9 => h9) rfl dX11_keeps_68 ?_
  refine lv_sipush (v := 8277) hx hb dX11_keeps_71 (by decide +kernel) ?_
  refine lv_aload_n hx hb dX11_keeps_74 rfl (lv_at hl 2 rfl) ?_
  refine va_get (D := D) (ci := 14) (v := .int 0) (own := RX11) (C := RX11) (T := TX11) (N := 25) hx hb hts hi_X11 hown hK hP 0 rfl rfl 4 (by decide) (hts (.fieldLink RX11 60 "CanalMapsModel" "undos" "I") (List.mem_of_getElem? (i := 1) (by decide +kernel))) (fun _ h9 => h9) rfl dX11_keeps_75 ?_
  refine lv_imul hx hb dX11_keeps_78 ?_
  refine kt_ (v := 0) (by decide +kernel) ?_
  refine lv_iload_n hx hb dX11_keeps_79 rfl (lv_at hl 0 rfl) ?_
  refine lv_iadd hx hb dX11_keeps_80 ?_
  refine kt_ (v := 9) (by decide +kernel) ?_
  refine lv_aload_n hx hb dX11_keeps_81 rfl (lv_at hl 2 rfl) ?_
  refine va_get (D := D) (ci := 14) (v := .ref h1) (own := RX11) (C := RX11) (T := TX11) (N := 25) hx hb hts hi_X11 hown hK hP 0 rfl rfl 1 (by decide) (hts (.fieldLink RX11 13 "CanalMapsModel" "tried" "[I") (List.mem_of_getElem? (i := 4) (by decide +kernel))) (fun _ h9 => h9) rfl dX11_keeps_82 ?_
  refine lv_iload_n hx hb dX11_keeps_85 rfl (lv_at hl 0 rfl) ?_
  refine va_iald hx hb hK hP 1 0 rfl rfl (vin_ (by decide +kernel)) dX11_keeps_86 ?_
  refine kt_ (v := 0) (by decide +kernel) ?_
  refine ka_iast (g := (fun _ => 0)) hx hb hK hP hD hS 2 1 rfl rfl (vin_ (by decide +kernel)) (up_same (by decide +kernel)) dX11_keeps_87 (fun H locs hP hD hS => ?_)
  have hP : va_P D vwCl [(h0, .inr (14, [v0, .ref h1, v1, .ref h2, .int 0, v2, v3, v4, v5, v6, v7, v8, v9, v10, v11, v12, v13, v14, v15, v16, v17, v18, v19, v20, v21])), (h1, .inl (k1, 8277, .inl (fun _ => 0))), (h2, .inl (k2, 66216, .inl (fun _ => 0)))] H := hP
  have hD : va_D A [(h0, .inr (14, [v0, .ref h1, v1, .ref h2, .int 0, v2, v3, v4, v5, v6, v7, v8, v9, v10, v11, v12, v13, v14, v15, v16, v17, v18, v19, v20, v21])), (h1, .inl (k1, 8277, .inl (fun _ => 0))), (h2, .inl (k2, 66216, .inl (fun _ => 0)))] := hD
  refine lv_iinc (v := 10) (lv' := [(3, .int 10), (2, .int 85), (0, .ref h0), (1, .int 0)]) hx hb dX11_keeps_88 hl (k := 0) rfl (by decide +kernel) (by decide) rfl (fun ls hl => ?_)
  refine lv_goto (tgt := 62) hx hb dX11_keeps_91 (by decide) ?_
  refine lv_iload_n hx hb dX11_keeps_62 rfl (lv_at hl 0 rfl) ?_
  refine lv_iload_n hx hb dX11_keeps_63 rfl (lv_at hl 1 rfl) ?_
  refine lv_icmp_ge (tgt := 94) hx hb dX11_keeps_64 (by decide) (fun c9 => absurd c9 (by decide +kernel)) (fun _ => ?_)
  refine lv_aload_n hx hb dX11_keeps_67 rfl (lv_at hl 2 rfl) ?_
  refine va_get (D := D) (ci := 14) (v := .ref h2) (own := RX11) (C := RX11) (T := TX11) (N := 25) hx hb hts hi_X11 hown hK hP 0 rfl rfl 3 (by decide) (hts (.fieldLink RX11 20 "CanalMapsModel" "kept" "[I") (List.mem_of_getElem? (i := 3) (by decide +kernel))) (fun _ h9 => h9) rfl dX11_keeps_68 ?_
  refine lv_sipush (v := 8277) hx hb dX11_keeps_71 (by decide +kernel) ?_
  refine lv_aload_n hx hb dX11_keeps_74 rfl (lv_at hl 2 rfl) ?_
  refine va_get (D := D) (ci := 14) (v := .int 0) (own := RX11) (C := RX11) (T := TX11) (N := 25) hx hb hts hi_X11 hown hK hP 0 rfl rfl 4 (by decide) (hts (.fieldLink RX11 60 "CanalMapsModel" "undos" "I") (List.mem_of_getElem? (i := 1) (by decide +kernel))) (fun _ h9 => h9) rfl dX11_keeps_75 ?_
  refine lv_imul hx hb dX11_keeps_78 ?_
  refine kt_ (v := 0) (by decide +kernel) ?_
  refine lv_iload_n hx hb dX11_keeps_79 rfl (lv_at hl 0 rfl) ?_
  refine lv_iadd hx hb dX11_keeps_80 ?_
  refine kt_ (v := 10) (by decide +kernel) ?_
  refine lv_aload_n hx hb dX11_keeps_81 rfl (lv_at hl 2 rfl) ?_
  refine va_get (D := D) (ci := 14) (v := .ref h1) (own := RX11) (C := RX11) (T := TX11) (N := 25) hx hb hts hi_X11 hown hK hP 0 rfl rfl 1 (by decide) (hts (.fieldLink RX11 13 "CanalMapsModel" "tried" "[I") (List.mem_of_getElem? (i := 4) (by decide +kernel))) (fun _ h9 => h9) rfl dX11_keeps_82 ?_
  refine lv_iload_n hx hb dX11_keeps_85 rfl (lv_at hl 0 rfl) ?_
  refine va_iald hx hb hK hP 1 0 rfl rfl (vin_ (by decide +kernel)) dX11_keeps_86 ?_
  refine kt_ (v := 0) (by decide +kernel) ?_
  refine ka_iast (g := (fun _ => 0)) hx hb hK hP hD hS 2 1 rfl rfl (vin_ (by decide +kernel)) (up_same (by decide +kernel)) dX11_keeps_87 (fun H locs hP hD hS => ?_)
  have hP : va_P D vwCl [(h0, .inr (14, [v0, .ref h1, v1, .ref h2, .int 0, v2, v3, v4, v5, v6, v7, v8, v9, v10, v11, v12, v13, v14, v15, v16, v17, v18, v19, v20, v21])), (h1, .inl (k1, 8277, .inl (fun _ => 0))), (h2, .inl (k2, 66216, .inl (fun _ => 0)))] H := hP
  have hD : va_D A [(h0, .inr (14, [v0, .ref h1, v1, .ref h2, .int 0, v2, v3, v4, v5, v6, v7, v8, v9, v10, v11, v12, v13, v14, v15, v16, v17, v18, v19, v20, v21])), (h1, .inl (k1, 8277, .inl (fun _ => 0))), (h2, .inl (k2, 66216, .inl (fun _ => 0)))] := hD
  refine lv_iinc (v := 11) (lv' := [(3, .int 11), (2, .int 85), (0, .ref h0), (1, .int 0)]) hx hb dX11_keeps_88 hl (k := 0) rfl (by decide +kernel) (by decide) rfl (fun ls hl => ?_)
  refine lv_goto (tgt := 62) hx hb dX11_keeps_91 (by decide) ?_
  refine lv_iload_n hx hb dX11_keeps_62 rfl (lv_at hl 0 rfl) ?_
  refine lv_iload_n hx hb dX11_keeps_63 rfl (lv_at hl 1 rfl) ?_
  refine lv_icmp_ge (tgt := 94) hx hb dX11_keeps_64 (by decide) (fun c9 => absurd c9 (by decide +kernel)) (fun _ => ?_)
  refine lv_aload_n hx hb dX11_keeps_67 rfl (lv_at hl 2 rfl) ?_
  refine va_get (D := D) (ci := 14) (v := .ref h2) (own := RX11) (C := RX11) (T := TX11) (N := 25) hx hb hts hi_X11 hown hK hP 0 rfl rfl 3 (by decide) (hts (.fieldLink RX11 20 "CanalMapsModel" "kept" "[I") (List.mem_of_getElem? (i := 3) (by decide +kernel))) (fun _ h9 => h9) rfl dX11_keeps_68 ?_
  refine lv_sipush (v := 8277) hx hb dX11_keeps_71 (by decide +kernel) ?_
  refine lv_aload_n hx hb dX11_keeps_74 rfl (lv_at hl 2 rfl) ?_
  refine va_get (D := D) (ci := 14) (v := .int 0) (own := RX11) (C := RX11) (T := TX11) (N := 25) hx hb hts hi_X11 hown hK hP 0 rfl rfl 4 (by decide) (hts (.fieldLink RX11 60 "CanalMapsModel" "undos" "I") (List.mem_of_getElem? (i := 1) (by decide +kernel))) (fun _ h9 => h9) rfl dX11_keeps_75 ?_
  refine lv_imul hx hb dX11_keeps_78 ?_
  refine kt_ (v := 0) (by decide +kernel) ?_
  refine lv_iload_n hx hb dX11_keeps_79 rfl (lv_at hl 0 rfl) ?_
  refine lv_iadd hx hb dX11_keeps_80 ?_
  refine kt_ (v := 11) (by decide +kernel) ?_
  refine lv_aload_n hx hb dX11_keeps_81 rfl (lv_at hl 2 rfl) ?_
  refine va_get (D := D) (ci := 14) (v := .ref h1) (own := RX11) (C := RX11) (T := TX11) (N := 25) hx hb hts hi_X11 hown hK hP 0 rfl rfl 1 (by decide) (hts (.fieldLink RX11 13 "CanalMapsModel" "tried" "[I") (List.mem_of_getElem? (i := 4) (by decide +kernel))) (fun _ h9 => h9) rfl dX11_keeps_82 ?_
  refine lv_iload_n hx hb dX11_keeps_85 rfl (lv_at hl 0 rfl) ?_
  refine va_iald hx hb hK hP 1 0 rfl rfl (vin_ (by decide +kernel)) dX11_keeps_86 ?_
  refine kt_ (v := 0) (by decide +kernel) ?_
  refine ka_iast (g := (fun _ => 0)) hx hb hK hP hD hS 2 1 rfl rfl (vin_ (by decide +kernel)) (up_same (by decide +kernel)) dX11_keeps_87 (fun H locs hP hD hS => ?_)
  have hP : va_P D vwCl [(h0, .inr (14, [v0, .ref h1, v1, .ref h2, .int 0, v2, v3, v4, v5, v6, v7, v8, v9, v10, v11, v12, v13, v14, v15, v16, v17, v18, v19, v20, v21])), (h1, .inl (k1, 8277, .inl (fun _ => 0))), (h2, .inl (k2, 66216, .inl (fun _ => 0)))] H := hP
  have hD : va_D A [(h0, .inr (14, [v0, .ref h1, v1, .ref h2, .int 0, v2, v3, v4, v5, v6, v7, v8, v9, v10, v11, v12, v13, v14, v15, v16, v17, v18, v19, v20, v21])), (h1, .inl (k1, 8277, .inl (fun _ => 0))), (h2, .inl (k2, 66216, .inl (fun _ => 0)))] := hD
  refine lv_iinc (v := 12) (lv' := [(3, .int 12), (2, .int 85), (0, .ref h0), (1, .int 0)]) hx hb dX11_keeps_88 hl (k := 0) rfl (by decide +kernel) (by decide) rfl (fun ls hl => ?_)
  refine lv_goto (tgt := 62) hx hb dX11_keeps_91 (by decide) ?_
  refine lv_iload_n hx hb dX11_keeps_62 rfl (lv_at hl 0 rfl) ?_
  refine lv_iload_n hx hb dX11_keeps_63 rfl (lv_at hl 1 rfl) ?_
  refine lv_icmp_ge (tgt := 94) hx hb dX11_keeps_64 (by decide) (fun c9 => absurd c9 (by decide +kernel)) (fun _ => ?_)
  refine lv_aload_n hx hb dX11_keeps_67 rfl (lv_at hl 2 rfl) ?_
  refine va_get (D := D) (ci := 14) (v := .ref h2) (own := RX11) (C := RX11) (T := TX11) (N := 25) hx hb hts hi_X11 hown hK hP 0 rfl rfl 3 (by decide) (hts (.fieldLink RX11 20 "CanalMapsModel" "kept" "[I") (List.mem_of_getElem? (i := 3) (by decide +kernel))) (fun _ h9 => h9) rfl dX11_keeps_68 ?_
  refine lv_sipush (v := 8277) hx hb dX11_keeps_71 (by decide +kernel) ?_
  refine lv_aload_n hx hb dX11_keeps_74 rfl (lv_at hl 2 rfl) ?_
  refine va_get (D := D) (ci := 14) (v := .int 0) (own := RX11) (C := RX11) (T := TX11) (N := 25) hx hb hts hi_X11 hown hK hP 0 rfl rfl 4 (by decide) (hts (.fieldLink RX11 60 "CanalMapsModel" "undos" "I") (List.mem_of_getElem? (i := 1) (by decide +kernel))) (fun _ h9 => h9) rfl dX11_keeps_75 ?_
  refine lv_imul hx hb dX11_keeps_78 ?_
  refine kt_ (v := 0) (by decide +kernel) ?_
  refine lv_iload_n hx hb dX11_keeps_79 rfl (lv_at hl 0 rfl) ?_
  refine lv_iadd hx hb dX11_keeps_80 ?_
  refine kt_ (v := 12) (by decide +kernel) ?_
  refine lv_aload_n hx hb dX11_keeps_81 rfl (lv_at hl 2 rfl) ?_
  refine va_get (D := D) (ci := 14) (v := .ref h1) (own := RX11) (C := RX11) (T := TX11) (N := 25) hx hb hts hi_X11 hown hK hP 0 rfl rfl 1 (by decide) (hts (.fieldLink RX11 13 "CanalMapsModel" "tried" "[I") (List.mem_of_getElem? (i := 4) (by decide +kernel))) (fun _ h9 => h9) rfl dX11_keeps_82 ?_
  refine lv_iload_n hx hb dX11_keeps_85 rfl (lv_at hl 0 rfl) ?_
  refine va_iald hx hb hK hP 1 0 rfl rfl (vin_ (by decide +kernel)) dX11_keeps_86 ?_
  refine kt_ (v := 0) (by decide +kernel) ?_
  refine ka_iast (g := (fun _ => 0)) hx hb hK hP hD hS 2 1 rfl rfl (vin_ (by decide +kernel)) (up_same (by decide +kernel)) dX11_keeps_87 (fun H locs hP hD hS => ?_)
  have hP : va_P D vwCl [(h0, .inr (14, [v0, .ref h1, v1, .ref h2, .int 0, v2, v3, v4, v5, v6, v7, v8, v9, v10, v11, v12, v13, v14, v15, v16, v17, v18, v19, v20, v21])), (h1, .inl (k1, 8277, .inl (fun _ => 0))), (h2, .inl (k2, 66216, .inl (fun _ => 0)))] H := hP
  have hD : va_D A [(h0, .inr (14, [v0, .ref h1, v1, .ref h2, .int 0, v2, v3, v4, v5, v6, v7, v8, v9, v10, v11, v12, v13, v14, v15, v16, v17, v18, v19, v20, v21])), (h1, .inl (k1, 8277, .inl (fun _ => 0))), (h2, .inl (k2, 66216, .inl (fun _ => 0)))] := hD
  refine lv_iinc (v := 13) (lv' := [(3, .int 13), (2, .int 85), (0, .ref h0), (1, .int 0)]) hx hb dX11_keeps_88 hl (k := 0) rfl (by decide +kernel) (by decide) rfl (fun ls hl => ?_)
  refine lv_goto (tgt := 62) hx hb dX11_keeps_91 (by decide) ?_
  refine lv_iload_n hx hb dX11_keeps_62 rfl (lv_at hl 0 rfl) ?_
  refine lv_iload_n hx hb dX11_keeps_63 rfl (lv_at hl 1 rfl) ?_
  refine lv_icmp_ge (tgt := 94) hx hb dX11_keeps_64 (by decide) (fun c9 => absurd c9 (by decide +kernel)) (fun _ => ?_)
  refine lv_aload_n hx hb dX11_keeps_67 rfl (lv_at hl 2 rfl) ?_
  refine va_get (D := D) (ci := 14) (v := .ref h2) (own := RX11) (C := RX11) (T := TX11) (N := 25) hx hb hts hi_X11 hown hK hP 0 rfl rfl 3 (by decide) (hts (.fieldLink RX11 20 "CanalMapsModel" "kept" "[I") (List.mem_of_getElem? (i := 3) (by decide +kernel))) (fun _ h9 => h9) rfl dX11_keeps_68 ?_
  refine lv_sipush (v := 8277) hx hb dX11_keeps_71 (by decide +kernel) ?_
  refine lv_aload_n hx hb dX11_keeps_74 rfl (lv_at hl 2 rfl) ?_
  refine va_get (D := D) (ci := 14) (v := .int 0) (own := RX11) (C := RX11) (T := TX11) (N := 25) hx hb hts hi_X11 hown hK hP 0 rfl rfl 4 (by decide) (hts (.fieldLink RX11 60 "CanalMapsModel" "undos" "I") (List.mem_of_getElem? (i := 1) (by decide +kernel))) (fun _ h9 => h9) rfl dX11_keeps_75 ?_
  refine lv_imul hx hb dX11_keeps_78 ?_
  refine kt_ (v := 0) (by decide +kernel) ?_
  refine lv_iload_n hx hb dX11_keeps_79 rfl (lv_at hl 0 rfl) ?_
  refine lv_iadd hx hb dX11_keeps_80 ?_
  refine kt_ (v := 13) (by decide +kernel) ?_
  refine lv_aload_n hx hb dX11_keeps_81 rfl (lv_at hl 2 rfl) ?_
  refine va_get (D := D) (ci := 14) (v := .ref h1) (own := RX11) (C := RX11) (T := TX11) (N := 25) hx hb hts hi_X11 hown hK hP 0 rfl rfl 1 (by decide) (hts (.fieldLink RX11 13 "CanalMapsModel" "tried" "[I") (List.mem_of_getElem? (i := 4) (by decide +kernel))) (fun _ h9 => h9) rfl dX11_keeps_82 ?_
  refine lv_iload_n hx hb dX11_keeps_85 rfl (lv_at hl 0 rfl) ?_
  refine va_iald hx hb hK hP 1 0 rfl rfl (vin_ (by decide +kernel)) dX11_keeps_86 ?_
  refine kt_ (v := 0) (by decide +kernel) ?_
  refine ka_iast (g := (fun _ => 0)) hx hb hK hP hD hS 2 1 rfl rfl (vin_ (by decide +kernel)) (up_same (by decide +kernel)) dX11_keeps_87 (fun H locs hP hD hS => ?_)
  have hP : va_P D vwCl [(h0, .inr (14, [v0, .ref h1, v1, .ref h2, .int 0, v2, v3, v4, v5, v6, v7, v8, v9, v10, v11, v12, v13, v14, v15, v16, v17, v18, v19, v20, v21])), (h1, .inl (k1, 8277, .inl (fun _ => 0))), (h2, .inl (k2, 66216, .inl (fun _ => 0)))] H := hP
  have hD : va_D A [(h0, .inr (14, [v0, .ref h1, v1, .ref h2, .int 0, v2, v3, v4, v5, v6, v7, v8, v9, v10, v11, v12, v13, v14, v15, v16, v17, v18, v19, v20, v21])), (h1, .inl (k1, 8277, .inl (fun _ => 0))), (h2, .inl (k2, 66216, .inl (fun _ => 0)))] := hD
  refine lv_iinc (v := 14) (lv' := [(3, .int 14), (2, .int 85), (0, .ref h0), (1, .int 0)]) hx hb dX11_keeps_88 hl (k := 0) rfl (by decide +kernel) (by decide) rfl (fun ls hl => ?_)
  refine lv_goto (tgt := 62) hx hb dX11_keeps_91 (by decide) ?_
  refine lv_iload_n hx hb dX11_keeps_62 rfl (lv_at hl 0 rfl) ?_
  refine lv_iload_n hx hb dX11_keeps_63 rfl (lv_at hl 1 rfl) ?_
  refine lv_icmp_ge (tgt := 94) hx hb dX11_keeps_64 (by decide) (fun c9 => absurd c9 (by decide +kernel)) (fun _ => ?_)
  refine lv_aload_n hx hb dX11_keeps_67 rfl (lv_at hl 2 rfl) ?_
  refine va_get (D := D) (ci := 14) (v := .ref h2) (own := RX11) (C := RX11) (T := TX11) (N := 25) hx hb hts hi_X11 hown hK hP 0 rfl rfl 3 (by decide) (hts (.fieldLink RX11 20 "CanalMapsModel" "kept" "[I") (List.mem_of_getElem? (i := 3) (by decide +kernel))) (fun _ h9 => h9) rfl dX11_keeps_68 ?_
  refine lv_sipush (v := 8277) hx hb dX11_keeps_71 (by decide +kernel) ?_
  refine lv_aload_n hx hb dX11_keeps_74 rfl (lv_at hl 2 rfl) ?_
  refine va_get (D := D) (ci := 14) (v := .int 0) (own := RX11) (C := RX11) (T := TX11) (N := 25) hx hb hts hi_X11 hown hK hP 0 rfl rfl 4 (by decide) (hts (.fieldLink RX11 60 "CanalMapsModel" "undos" "I") (List.mem_of_getElem? (i := 1) (by decide +kernel))) (fun _ h9 => h9) rfl dX11_keeps_75 ?_
  refine lv_imul hx hb dX11_keeps_78 ?_
  refine kt_ (v := 0) (by decide +kernel) ?_
  refine lv_iload_n hx hb dX11_keeps_79 rfl (lv_at hl 0 rfl) ?_
  refine lv_iadd hx hb dX11_keeps_80 ?_
  refine kt_ (v := 14) (by decide +kernel) ?_
  refine lv_aload_n hx hb dX11_keeps_81 rfl (lv_at hl 2 rfl) ?_
  refine va_get (D := D) (ci := 14) (v := .ref h1) (own := RX11) (C := RX11) (T := TX11) (N := 25) hx hb hts hi_X11 hown hK hP 0 rfl rfl 1 (by decide) (hts (.fieldLink RX11 13 "CanalMapsModel" "tried" "[I") (List.mem_of_getElem? (i := 4) (by decide +kernel))) (fun _ h9 => h9) rfl dX11_keeps_82 ?_
  refine lv_iload_n hx hb dX11_keeps_85 rfl (lv_at hl 0 rfl) ?_
  refine va_iald hx hb hK hP 1 0 rfl rfl (vin_ (by decide +kernel)) dX11_keeps_86 ?_
  refine kt_ (v := 0) (by decide +kernel) ?_
  refine ka_iast (g := (fun _ => 0)) hx hb hK hP hD hS 2 1 rfl rfl (vin_ (by decide +kernel)) (up_same (by decide +kernel)) dX11_keeps_87 (fun H locs hP hD hS => ?_)
  have hP : va_P D vwCl [(h0, .inr (14, [v0, .ref h1, v1, .ref h2, .int 0, v2, v3, v4, v5, v6, v7, v8, v9, v10, v11, v12, v13, v14, v15, v16, v17, v18, v19, v20, v21])), (h1, .inl (k1, 8277, .inl (fun _ => 0))), (h2, .inl (k2, 66216, .inl (fun _ => 0)))] H := hP
  have hD : va_D A [(h0, .inr (14, [v0, .ref h1, v1, .ref h2, .int 0, v2, v3, v4, v5, v6, v7, v8, v9, v10, v11, v12, v13, v14, v15, v16, v17, v18, v19, v20, v21])), (h1, .inl (k1, 8277, .inl (fun _ => 0))), (h2, .inl (k2, 66216, .inl (fun _ => 0)))] := hD
  refine lv_iinc (v := 15) (lv' := [(3, .int 15), (2, .int 85), (0, .ref h0), (1, .int 0)]) hx hb dX11_keeps_88 hl (k := 0) rfl (by decide +kernel) (by decide) rfl (fun ls hl => ?_)
  refine lv_goto (tgt := 62) hx hb dX11_keeps_91 (by decide) ?_
  refine lv_iload_n hx hb dX11_keeps_62 rfl (lv_at hl 0 rfl) ?_
  refine lv_iload_n hx hb dX11_keeps_63 rfl (lv_at hl 1 rfl) ?_
  refine lv_icmp_ge (tgt := 94) hx hb dX11_keeps_64 (by decide) (fun c9 => absurd c9 (by decide +kernel)) (fun _ => ?_)
  refine lv_aload_n hx hb dX11_keeps_67 rfl (lv_at hl 2 rfl) ?_
  refine va_get (D := D) (ci := 14) (v := .ref h2) (own := RX11) (C := RX11) (T := TX11) (N := 25) hx hb hts hi_X11 hown hK hP 0 rfl rfl 3 (by decide) (hts (.fieldLink RX11 20 "CanalMapsModel" "kept" "[I") (List.mem_of_getElem? (i := 3) (by decide +kernel))) (fun _ h9 => h9) rfl dX11_keeps_68 ?_
  refine lv_sipush (v := 8277) hx hb dX11_keeps_71 (by decide +kernel) ?_
  refine lv_aload_n hx hb dX11_keeps_74 rfl (lv_at hl 2 rfl) ?_
  refine va_get (D := D) (ci := 14) (v := .int 0) (own := RX11) (C := RX11) (T := TX11) (N := 25) hx hb hts hi_X11 hown hK hP 0 rfl rfl 4 (by decide) (hts (.fieldLink RX11 60 "CanalMapsModel" "undos" "I") (List.mem_of_getElem? (i := 1) (by decide +kernel))) (fun _ h9 => h9) rfl dX11_keeps_75 ?_
  refine lv_imul hx hb dX11_keeps_78 ?_
  refine kt_ (v := 0) (by decide +kernel) ?_
  refine lv_iload_n hx hb dX11_keeps_79 rfl (lv_at hl 0 rfl) ?_
  refine lv_iadd hx hb dX11_keeps_80 ?_
  refine kt_ (v := 15) (by decide +kernel) ?_
  refine lv_aload_n hx hb dX11_keeps_81 rfl (lv_at hl 2 rfl) ?_
  refine va_get (D := D) (ci := 14) (v := .ref h1) (own := RX11) (C := RX11) (T := TX11) (N := 25) hx hb hts hi_X11 hown hK hP 0 rfl rfl 1 (by decide) (hts (.fieldLink RX11 13 "CanalMapsModel" "tried" "[I") (List.mem_of_getElem? (i := 4) (by decide +kernel))) (fun _ h9 => h9) rfl dX11_keeps_82 ?_
  refine lv_iload_n hx hb dX11_keeps_85 rfl (lv_at hl 0 rfl) ?_
  refine va_iald hx hb hK hP 1 0 rfl rfl (vin_ (by decide +kernel)) dX11_keeps_86 ?_
  refine kt_ (v := 0) (by decide +kernel) ?_
  refine ka_iast (g := (fun _ => 0)) hx hb hK hP hD hS 2 1 rfl rfl (vin_ (by decide +kernel)) (up_same (by decide +kernel)) dX11_keeps_87 (fun H locs hP hD hS => ?_)
  have hP : va_P D vwCl [(h0, .inr (14, [v0, .ref h1, v1, .ref h2, .int 0, v2, v3, v4, v5, v6, v7, v8, v9, v10, v11, v12, v13, v14, v15, v16, v17, v18, v19, v20, v21])), (h1, .inl (k1, 8277, .inl (fun _ => 0))), (h2, .inl (k2, 66216, .inl (fun _ => 0)))] H := hP
  have hD : va_D A [(h0, .inr (14, [v0, .ref h1, v1, .ref h2, .int 0, v2, v3, v4, v5, v6, v7, v8, v9, v10, v11, v12, v13, v14, v15, v16, v17, v18, v19, v20, v21])), (h1, .inl (k1, 8277, .inl (fun _ => 0))), (h2, .inl (k2, 66216, .inl (fun _ => 0)))] := hD
  refine lv_iinc (v := 16) (lv' := [(3, .int 16), (2, .int 85), (0, .ref h0), (1, .int 0)]) hx hb dX11_keeps_88 hl (k := 0) rfl (by decide +kernel) (by decide) rfl (fun ls hl => ?_)
  refine lv_goto (tgt := 62) hx hb dX11_keeps_91 (by decide) ?_
  refine lv_iload_n hx hb dX11_keeps_62 rfl (lv_at hl 0 rfl) ?_
  refine lv_iload_n hx hb dX11_keeps_63 rfl (lv_at hl 1 rfl) ?_
  refine lv_icmp_ge (tgt := 94) hx hb dX11_keeps_64 (by decide) (fun c9 => absurd c9 (by decide +kernel)) (fun _ => ?_)
  refine lv_aload_n hx hb dX11_keeps_67 rfl (lv_at hl 2 rfl) ?_
  refine va_get (D := D) (ci := 14) (v := .ref h2) (own := RX11) (C := RX11) (T := TX11) (N := 25) hx hb hts hi_X11 hown hK hP 0 rfl rfl 3 (by decide) (hts (.fieldLink RX11 20 "CanalMapsModel" "kept" "[I") (List.mem_of_getElem? (i := 3) (by decide +kernel))) (fun _ h9 => h9) rfl dX11_keeps_68 ?_
  refine lv_sipush (v := 8277) hx hb dX11_keeps_71 (by decide +kernel) ?_
  refine lv_aload_n hx hb dX11_keeps_74 rfl (lv_at hl 2 rfl) ?_
  refine va_get (D := D) (ci := 14) (v := .int 0) (own := RX11) (C := RX11) (T := TX11) (N := 25) hx hb hts hi_X11 hown hK hP 0 rfl rfl 4 (by decide) (hts (.fieldLink RX11 60 "CanalMapsModel" "undos" "I") (List.mem_of_getElem? (i := 1) (by decide +kernel))) (fun _ h9 => h9) rfl dX11_keeps_75 ?_
  refine lv_imul hx hb dX11_keeps_78 ?_
  refine kt_ (v := 0) (by decide +kernel) ?_
  refine lv_iload_n hx hb dX11_keeps_79 rfl (lv_at hl 0 rfl) ?_
  refine lv_iadd hx hb dX11_keeps_80 ?_
  refine kt_ (v := 16) (by decide +kernel) ?_
  refine lv_aload_n hx hb dX11_keeps_81 rfl (lv_at hl 2 rfl) ?_
  refine va_get (D := D) (ci := 14) (v := .ref h1) (own := RX11) (C := RX11) (T := TX11) (N := 25) hx hb hts hi_X11 hown hK hP 0 rfl rfl 1 (by decide) (hts (.fieldLink RX11 13 "CanalMapsModel" "tried" "[I") (List.mem_of_getElem? (i := 4) (by decide +kernel))) (fun _ h9 => h9) rfl dX11_keeps_82 ?_
  refine lv_iload_n hx hb dX11_keeps_85 rfl (lv_at hl 0 rfl) ?_
  refine va_iald hx hb hK hP 1 0 rfl rfl (vin_ (by decide +kernel)) dX11_keeps_86 ?_
  refine kt_ (v := 0) (by decide +kernel) ?_
  refine ka_iast (g := (fun _ => 0)) hx hb hK hP hD hS 2 1 rfl rfl (vin_ (by decide +kernel)) (up_same (by decide +kernel)) dX11_keeps_87 (fun H locs hP hD hS => ?_)
  have hP : va_P D vwCl [(h0, .inr (14, [v0, .ref h1, v1, .ref h2, .int 0, v2, v3, v4, v5, v6, v7, v8, v9, v10, v11, v12, v13, v14, v15, v16, v17, v18, v19, v20, v21])), (h1, .inl (k1, 8277, .inl (fun _ => 0))), (h2, .inl (k2, 66216, .inl (fun _ => 0)))] H := hP
  have hD : va_D A [(h0, .inr (14, [v0, .ref h1, v1, .ref h2, .int 0, v2, v3, v4, v5, v6, v7, v8, v9, v10, v11, v12, v13, v14, v15, v16, v17, v18, v19, v20, v21])), (h1, .inl (k1, 8277, .inl (fun _ => 0))), (h2, .inl (k2, 66216, .inl (fun _ => 0)))] := hD
  refine lv_iinc (v := 17) (lv' := [(3, .int 17), (2, .int 85), (0, .ref h0), (1, .int 0)]) hx hb dX11_keeps_88 hl (k := 0) rfl (by decide +kernel) (by decide) rfl (fun ls hl => ?_)
  refine lv_goto (tgt := 62) hx hb dX11_keeps_91 (by decide) ?_
  refine lv_iload_n hx hb dX11_keeps_62 rfl (lv_at hl 0 rfl) ?_
  refine lv_iload_n hx hb dX11_keeps_63 rfl (lv_at hl 1 rfl) ?_
  refine lv_icmp_ge (tgt := 94) hx hb dX11_keeps_64 (by decide) (fun c9 => absurd c9 (by decide +kernel)) (fun _ => ?_)
  refine lv_aload_n hx hb dX11_keeps_67 rfl (lv_at hl 2 rfl) ?_
  refine va_get (D := D) (ci := 14) (v := .ref h2) (own := RX11) (C := RX11) (T := TX11) (N := 25) hx hb hts hi_X11 hown hK hP 0 rfl rfl 3 (by decide) (hts (.fieldLink RX11 20 "CanalMapsModel" "kept" "[I") (List.mem_of_getElem? (i := 3) (by decide +kernel))) (fun _ h9 => h9) rfl dX11_keeps_68 ?_
  refine lv_sipush (v := 8277) hx hb dX11_keeps_71 (by decide +kernel) ?_
  refine lv_aload_n hx hb dX11_keeps_74 rfl (lv_at hl 2 rfl) ?_
  refine va_get (D := D) (ci := 14) (v := .int 0) (own := RX11) (C := RX11) (T := TX11) (N := 25) hx hb hts hi_X11 hown hK hP 0 rfl rfl 4 (by decide) (hts (.fieldLink RX11 60 "CanalMapsModel" "undos" "I") (List.mem_of_getElem? (i := 1) (by decide +kernel))) (fun _ h9 => h9) rfl dX11_keeps_75 ?_
  refine lv_imul hx hb dX11_keeps_78 ?_
  refine kt_ (v := 0) (by decide +kernel) ?_
  refine lv_iload_n hx hb dX11_keeps_79 rfl (lv_at hl 0 rfl) ?_
  refine lv_iadd hx hb dX11_keeps_80 ?_
  refine kt_ (v := 17) (by decide +kernel) ?_
  refine lv_aload_n hx hb dX11_keeps_81 rfl (lv_at hl 2 rfl) ?_
  refine va_get (D := D) (ci := 14) (v := .ref h1) (own := RX11) (C := RX11) (T := TX11) (N := 25) hx hb hts hi_X11 hown hK hP 0 rfl rfl 1 (by decide) (hts (.fieldLink RX11 13 "CanalMapsModel" "tried" "[I") (List.mem_of_getElem? (i := 4) (by decide +kernel))) (fun _ h9 => h9) rfl dX11_keeps_82 ?_
  refine lv_iload_n hx hb dX11_keeps_85 rfl (lv_at hl 0 rfl) ?_
  refine va_iald hx hb hK hP 1 0 rfl rfl (vin_ (by decide +kernel)) dX11_keeps_86 ?_
  refine kt_ (v := 0) (by decide +kernel) ?_
  refine ka_iast (g := (fun _ => 0)) hx hb hK hP hD hS 2 1 rfl rfl (vin_ (by decide +kernel)) (up_same (by decide +kernel)) dX11_keeps_87 (fun H locs hP hD hS => ?_)
  have hP : va_P D vwCl [(h0, .inr (14, [v0, .ref h1, v1, .ref h2, .int 0, v2, v3, v4, v5, v6, v7, v8, v9, v10, v11, v12, v13, v14, v15, v16, v17, v18, v19, v20, v21])), (h1, .inl (k1, 8277, .inl (fun _ => 0))), (h2, .inl (k2, 66216, .inl (fun _ => 0)))] H := hP
  have hD : va_D A [(h0, .inr (14, [v0, .ref h1, v1, .ref h2, .int 0, v2, v3, v4, v5, v6, v7, v8, v9, v10, v11, v12, v13, v14, v15, v16, v17, v18, v19, v20, v21])), (h1, .inl (k1, 8277, .inl (fun _ => 0))), (h2, .inl (k2, 66216, .inl (fun _ => 0)))] := hD
  refine lv_iinc (v := 18) (lv' := [(3, .int 18), (2, .int 85), (0, .ref h0), (1, .int 0)]) hx hb dX11_keeps_88 hl (k := 0) rfl (by decide +kernel) (by decide) rfl (fun ls hl => ?_)
  refine lv_goto (tgt := 62) hx hb dX11_keeps_91 (by decide) ?_
  refine lv_iload_n hx hb dX11_keeps_62 rfl (lv_at hl 0 rfl) ?_
  refine lv_iload_n hx hb dX11_keeps_63 rfl (lv_at hl 1 rfl) ?_
  refine lv_icmp_ge (tgt := 94) hx hb dX11_keeps_64 (by decide) (fun c9 => absurd c9 (by decide +kernel)) (fun _ => ?_)
  refine lv_aload_n hx hb dX11_keeps_67 rfl (lv_at hl 2 rfl) ?_
  refine va_get (D := D) (ci := 14) (v := .ref h2) (own := RX11) (C := RX11) (T := TX11) (N := 25) hx hb hts hi_X11 hown hK hP 0 rfl rfl 3 (by decide) (hts (.fieldLink RX11 20 "CanalMapsModel" "kept" "[I") (List.mem_of_getElem? (i := 3) (by decide +kernel))) (fun _ h9 => h9) rfl dX11_keeps_68 ?_
  refine lv_sipush (v := 8277) hx hb dX11_keeps_71 (by decide +kernel) ?_
  refine lv_aload_n hx hb dX11_keeps_74 rfl (lv_at hl 2 rfl) ?_
  refine va_get (D := D) (ci := 14) (v := .int 0) (own := RX11) (C := RX11) (T := TX11) (N := 25) hx hb hts hi_X11 hown hK hP 0 rfl rfl 4 (by decide) (hts (.fieldLink RX11 60 "CanalMapsModel" "undos" "I") (List.mem_of_getElem? (i := 1) (by decide +kernel))) (fun _ h9 => h9) rfl dX11_keeps_75 ?_
  refine lv_imul hx hb dX11_keeps_78 ?_
  refine kt_ (v := 0) (by decide +kernel) ?_
  refine lv_iload_n hx hb dX11_keeps_79 rfl (lv_at hl 0 rfl) ?_
  refine lv_iadd hx hb dX11_keeps_80 ?_
  refine kt_ (v := 18) (by decide +kernel) ?_
  refine lv_aload_n hx hb dX11_keeps_81 rfl (lv_at hl 2 rfl) ?_
  refine va_get (D := D) (ci := 14) (v := .ref h1) (own := RX11) (C := RX11) (T := TX11) (N := 25) hx hb hts hi_X11 hown hK hP 0 rfl rfl 1 (by decide) (hts (.fieldLink RX11 13 "CanalMapsModel" "tried" "[I") (List.mem_of_getElem? (i := 4) (by decide +kernel))) (fun _ h9 => h9) rfl dX11_keeps_82 ?_
  refine lv_iload_n hx hb dX11_keeps_85 rfl (lv_at hl 0 rfl) ?_
  refine va_iald hx hb hK hP 1 0 rfl rfl (vin_ (by decide +kernel)) dX11_keeps_86 ?_
  refine kt_ (v := 0) (by decide +kernel) ?_
  refine ka_iast (g := (fun _ => 0)) hx hb hK hP hD hS 2 1 rfl rfl (vin_ (by decide +kernel)) (up_same (by decide +kernel)) dX11_keeps_87 (fun H locs hP hD hS => ?_)
  have hP : va_P D vwCl [(h0, .inr (14, [v0, .ref h1, v1, .ref h2, .int 0, v2, v3, v4, v5, v6, v7, v8, v9, v10, v11, v12, v13, v14, v15, v16, v17, v18, v19, v20, v21])), (h1, .inl (k1, 8277, .inl (fun _ => 0))), (h2, .inl (k2, 66216, .inl (fun _ => 0)))] H := hP
  have hD : va_D A [(h0, .inr (14, [v0, .ref h1, v1, .ref h2, .int 0, v2, v3, v4, v5, v6, v7, v8, v9, v10, v11, v12, v13, v14, v15, v16, v17, v18, v19, v20, v21])), (h1, .inl (k1, 8277, .inl (fun _ => 0))), (h2, .inl (k2, 66216, .inl (fun _ => 0)))] := hD
  refine lv_iinc (v := 19) (lv' := [(3, .int 19), (2, .int 85), (0, .ref h0), (1, .int 0)]) hx hb dX11_keeps_88 hl (k := 0) rfl (by decide +kernel) (by decide) rfl (fun ls hl => ?_)
  refine lv_goto (tgt := 62) hx hb dX11_keeps_91 (by decide) ?_
  refine lv_iload_n hx hb dX11_keeps_62 rfl (lv_at hl 0 rfl) ?_
  refine lv_iload_n hx hb dX11_keeps_63 rfl (lv_at hl 1 rfl) ?_
  refine lv_icmp_ge (tgt := 94) hx hb dX11_keeps_64 (by decide) (fun c9 => absurd c9 (by decide +kernel)) (fun _ => ?_)
  refine lv_aload_n hx hb dX11_keeps_67 rfl (lv_at hl 2 rfl) ?_
  refine va_get (D := D) (ci := 14) (v := .ref h2) (own := RX11) (C := RX11) (T := TX11) (N := 25) hx hb hts hi_X11 hown hK hP 0 rfl rfl 3 (by decide) (hts (.fieldLink RX11 20 "CanalMapsModel" "kept" "[I") (List.mem_of_getElem? (i := 3) (by decide +kernel))) (fun _ h9 => h9) rfl dX11_keeps_68 ?_
  refine lv_sipush (v := 8277) hx hb dX11_keeps_71 (by decide +kernel) ?_
  refine lv_aload_n hx hb dX11_keeps_74 rfl (lv_at hl 2 rfl) ?_
  refine va_get (D := D) (ci := 14) (v := .int 0) (own := RX11) (C := RX11) (T := TX11) (N := 25) hx hb hts hi_X11 hown hK hP 0 rfl rfl 4 (by decide) (hts (.fieldLink RX11 60 "CanalMapsModel" "undos" "I") (List.mem_of_getElem? (i := 1) (by decide +kernel))) (fun _ h9 => h9) rfl dX11_keeps_75 ?_
  refine lv_imul hx hb dX11_keeps_78 ?_
  refine kt_ (v := 0) (by decide +kernel) ?_
  refine lv_iload_n hx hb dX11_keeps_79 rfl (lv_at hl 0 rfl) ?_
  refine lv_iadd hx hb dX11_keeps_80 ?_
  refine kt_ (v := 19) (by decide +kernel) ?_
  refine lv_aload_n hx hb dX11_keeps_81 rfl (lv_at hl 2 rfl) ?_
  refine va_get (D := D) (ci := 14) (v := .ref h1) (own := RX11) (C := RX11) (T := TX11) (N := 25) hx hb hts hi_X11 hown hK hP 0 rfl rfl 1 (by decide) (hts (.fieldLink RX11 13 "CanalMapsModel" "tried" "[I") (List.mem_of_getElem? (i := 4) (by decide +kernel))) (fun _ h9 => h9) rfl dX11_keeps_82 ?_
  refine lv_iload_n hx hb dX11_keeps_85 rfl (lv_at hl 0 rfl) ?_
  refine va_iald hx hb hK hP 1 0 rfl rfl (vin_ (by decide +kernel)) dX11_keeps_86 ?_
  refine kt_ (v := 0) (by decide +kernel) ?_
  refine ka_iast (g := (fun _ => 0)) hx hb hK hP hD hS 2 1 rfl rfl (vin_ (by decide +kernel)) (up_same (by decide +kernel)) dX11_keeps_87 (fun H locs hP hD hS => ?_)
  have hP : va_P D vwCl [(h0, .inr (14, [v0, .ref h1, v1, .ref h2, .int 0, v2, v3, v4, v5, v6, v7, v8, v9, v10, v11, v12, v13, v14, v15, v16, v17, v18, v19, v20, v21])), (h1, .inl (k1, 8277, .inl (fun _ => 0))), (h2, .inl (k2, 66216, .inl (fun _ => 0)))] H := hP
  have hD : va_D A [(h0, .inr (14, [v0, .ref h1, v1, .ref h2, .int 0, v2, v3, v4, v5, v6, v7, v8, v9, v10, v11, v12, v13, v14, v15, v16, v17, v18, v19, v20, v21])), (h1, .inl (k1, 8277, .inl (fun _ => 0))), (h2, .inl (k2, 66216, .inl (fun _ => 0)))] := hD
  refine lv_iinc (v := 20) (lv' := [(3, .int 20), (2, .int 85), (0, .ref h0), (1, .int 0)]) hx hb dX11_keeps_88 hl (k := 0) rfl (by decide +kernel) (by decide) rfl (fun ls hl => ?_)
  refine lv_goto (tgt := 62) hx hb dX11_keeps_91 (by decide) ?_
  refine lv_iload_n hx hb dX11_keeps_62 rfl (lv_at hl 0 rfl) ?_
  refine lv_iload_n hx hb dX11_keeps_63 rfl (lv_at hl 1 rfl) ?_
  refine lv_icmp_ge (tgt := 94) hx hb dX11_keeps_64 (by decide) (fun c9 => absurd c9 (by decide +kernel)) (fun _ => ?_)
  refine lv_aload_n hx hb dX11_keeps_67 rfl (lv_at hl 2 rfl) ?_
  refine va_get (D := D) (ci := 14) (v := .ref h2) (own := RX11) (C := RX11) (T := TX11) (N := 25) hx hb hts hi_X11 hown hK hP 0 rfl rfl 3 (by decide) (hts (.fieldLink RX11 20 "CanalMapsModel" "kept" "[I") (List.mem_of_getElem? (i := 3) (by decide +kernel))) (fun _ h9 => h9) rfl dX11_keeps_68 ?_
  refine lv_sipush (v := 8277) hx hb dX11_keeps_71 (by decide +kernel) ?_
  refine lv_aload_n hx hb dX11_keeps_74 rfl (lv_at hl 2 rfl) ?_
  refine va_get (D := D) (ci := 14) (v := .int 0) (own := RX11) (C := RX11) (T := TX11) (N := 25) hx hb hts hi_X11 hown hK hP 0 rfl rfl 4 (by decide) (hts (.fieldLink RX11 60 "CanalMapsModel" "undos" "I") (List.mem_of_getElem? (i := 1) (by decide +kernel))) (fun _ h9 => h9) rfl dX11_keeps_75 ?_
  refine lv_imul hx hb dX11_keeps_78 ?_
  refine kt_ (v := 0) (by decide +kernel) ?_
  refine lv_iload_n hx hb dX11_keeps_79 rfl (lv_at hl 0 rfl) ?_
  refine lv_iadd hx hb dX11_keeps_80 ?_
  refine kt_ (v := 20) (by decide +kernel) ?_
  refine lv_aload_n hx hb dX11_keeps_81 rfl (lv_at hl 2 rfl) ?_
  refine va_get (D := D) (ci := 14) (v := .ref h1) (own := RX11) (C := RX11) (T := TX11) (N := 25) hx hb hts hi_X11 hown hK hP 0 rfl rfl 1 (by decide) (hts (.fieldLink RX11 13 "CanalMapsModel" "tried" "[I") (List.mem_of_getElem? (i := 4) (by decide +kernel))) (fun _ h9 => h9) rfl dX11_keeps_82 ?_
  refine lv_iload_n hx hb dX11_keeps_85 rfl (lv_at hl 0 rfl) ?_
  refine va_iald hx hb hK hP 1 0 rfl rfl (vin_ (by decide +kernel)) dX11_keeps_86 ?_
  refine kt_ (v := 0) (by decide +kernel) ?_
  refine ka_iast (g := (fun _ => 0)) hx hb hK hP hD hS 2 1 rfl rfl (vin_ (by decide +kernel)) (up_same (by decide +kernel)) dX11_keeps_87 (fun H locs hP hD hS => ?_)
  have hP : va_P D vwCl [(h0, .inr (14, [v0, .ref h1, v1, .ref h2, .int 0, v2, v3, v4, v5, v6, v7, v8, v9, v10, v11, v12, v13, v14, v15, v16, v17, v18, v19, v20, v21])), (h1, .inl (k1, 8277, .inl (fun _ => 0))), (h2, .inl (k2, 66216, .inl (fun _ => 0)))] H := hP
  have hD : va_D A [(h0, .inr (14, [v0, .ref h1, v1, .ref h2, .int 0, v2, v3, v4, v5, v6, v7, v8, v9, v10, v11, v12, v13, v14, v15, v16, v17, v18, v19, v20, v21])), (h1, .inl (k1, 8277, .inl (fun _ => 0))), (h2, .inl (k2, 66216, .inl (fun _ => 0)))] := hD
  refine lv_iinc (v := 21) (lv' := [(3, .int 21), (2, .int 85), (0, .ref h0), (1, .int 0)]) hx hb dX11_keeps_88 hl (k := 0) rfl (by decide +kernel) (by decide) rfl (fun ls hl => ?_)
  refine lv_goto (tgt := 62) hx hb dX11_keeps_91 (by decide) ?_
  refine lv_iload_n hx hb dX11_keeps_62 rfl (lv_at hl 0 rfl) ?_
  refine lv_iload_n hx hb dX11_keeps_63 rfl (lv_at hl 1 rfl) ?_
  refine lv_icmp_ge (tgt := 94) hx hb dX11_keeps_64 (by decide) (fun c9 => absurd c9 (by decide +kernel)) (fun _ => ?_)
  refine lv_aload_n hx hb dX11_keeps_67 rfl (lv_at hl 2 rfl) ?_
  refine va_get (D := D) (ci := 14) (v := .ref h2) (own := RX11) (C := RX11) (T := TX11) (N := 25) hx hb hts hi_X11 hown hK hP 0 rfl rfl 3 (by decide) (hts (.fieldLink RX11 20 "CanalMapsModel" "kept" "[I") (List.mem_of_getElem? (i := 3) (by decide +kernel))) (fun _ h9 => h9) rfl dX11_keeps_68 ?_
  refine lv_sipush (v := 8277) hx hb dX11_keeps_71 (by decide +kernel) ?_
  refine lv_aload_n hx hb dX11_keeps_74 rfl (lv_at hl 2 rfl) ?_
  refine va_get (D := D) (ci := 14) (v := .int 0) (own := RX11) (C := RX11) (T := TX11) (N := 25) hx hb hts hi_X11 hown hK hP 0 rfl rfl 4 (by decide) (hts (.fieldLink RX11 60 "CanalMapsModel" "undos" "I") (List.mem_of_getElem? (i := 1) (by decide +kernel))) (fun _ h9 => h9) rfl dX11_keeps_75 ?_
  refine lv_imul hx hb dX11_keeps_78 ?_
  refine kt_ (v := 0) (by decide +kernel) ?_
  refine lv_iload_n hx hb dX11_keeps_79 rfl (lv_at hl 0 rfl) ?_
  refine lv_iadd hx hb dX11_keeps_80 ?_
  refine kt_ (v := 21) (by decide +kernel) ?_
  refine lv_aload_n hx hb dX11_keeps_81 rfl (lv_at hl 2 rfl) ?_
  refine va_get (D := D) (ci := 14) (v := .ref h1) (own := RX11) (C := RX11) (T := TX11) (N := 25) hx hb hts hi_X11 hown hK hP 0 rfl rfl 1 (by decide) (hts (.fieldLink RX11 13 "CanalMapsModel" "tried" "[I") (List.mem_of_getElem? (i := 4) (by decide +kernel))) (fun _ h9 => h9) rfl dX11_keeps_82 ?_
  refine lv_iload_n hx hb dX11_keeps_85 rfl (lv_at hl 0 rfl) ?_
  refine va_iald hx hb hK hP 1 0 rfl rfl (vin_ (by decide +kernel)) dX11_keeps_86 ?_
  refine kt_ (v := 0) (by decide +kernel) ?_
  refine ka_iast (g := (fun _ => 0)) hx hb hK hP hD hS 2 1 rfl rfl (vin_ (by decide +kernel)) (up_same (by decide +kernel)) dX11_keeps_87 (fun H locs hP hD hS => ?_)
  have hP : va_P D vwCl [(h0, .inr (14, [v0, .ref h1, v1, .ref h2, .int 0, v2, v3, v4, v5, v6, v7, v8, v9, v10, v11, v12, v13, v14, v15, v16, v17, v18, v19, v20, v21])), (h1, .inl (k1, 8277, .inl (fun _ => 0))), (h2, .inl (k2, 66216, .inl (fun _ => 0)))] H := hP
  have hD : va_D A [(h0, .inr (14, [v0, .ref h1, v1, .ref h2, .int 0, v2, v3, v4, v5, v6, v7, v8, v9, v10, v11, v12, v13, v14, v15, v16, v17, v18, v19, v20, v21])), (h1, .inl (k1, 8277, .inl (fun _ => 0))), (h2, .inl (k2, 66216, .inl (fun _ => 0)))] := hD
  refine lv_iinc (v := 22) (lv' := [(3, .int 22), (2, .int 85), (0, .ref h0), (1, .int 0)]) hx hb dX11_keeps_88 hl (k := 0) rfl (by decide +kernel) (by decide) rfl (fun ls hl => ?_)
  refine lv_goto (tgt := 62) hx hb dX11_keeps_91 (by decide) ?_
  refine lv_iload_n hx hb dX11_keeps_62 rfl (lv_at hl 0 rfl) ?_
  refine lv_iload_n hx hb dX11_keeps_63 rfl (lv_at hl 1 rfl) ?_
  refine lv_icmp_ge (tgt := 94) hx hb dX11_keeps_64 (by decide) (fun c9 => absurd c9 (by decide +kernel)) (fun _ => ?_)
  refine lv_aload_n hx hb dX11_keeps_67 rfl (lv_at hl 2 rfl) ?_
  refine va_get (D := D) (ci := 14) (v := .ref h2) (own := RX11) (C := RX11) (T := TX11) (N := 25) hx hb hts hi_X11 hown hK hP 0 rfl rfl 3 (by decide) (hts (.fieldLink RX11 20 "CanalMapsModel" "kept" "[I") (List.mem_of_getElem? (i := 3) (by decide +kernel))) (fun _ h9 => h9) rfl dX11_keeps_68 ?_
  refine lv_sipush (v := 8277) hx hb dX11_keeps_71 (by decide +kernel) ?_
  refine lv_aload_n hx hb dX11_keeps_74 rfl (lv_at hl 2 rfl) ?_
  refine va_get (D := D) (ci := 14) (v := .int 0) (own := RX11) (C := RX11) (T := TX11) (N := 25) hx hb hts hi_X11 hown hK hP 0 rfl rfl 4 (by decide) (hts (.fieldLink RX11 60 "CanalMapsModel" "undos" "I") (List.mem_of_getElem? (i := 1) (by decide +kernel))) (fun _ h9 => h9) rfl dX11_keeps_75 ?_
  refine lv_imul hx hb dX11_keeps_78 ?_
  refine kt_ (v := 0) (by decide +kernel) ?_
  refine lv_iload_n hx hb dX11_keeps_79 rfl (lv_at hl 0 rfl) ?_
  refine lv_iadd hx hb dX11_keeps_80 ?_
  refine kt_ (v := 22) (by decide +kernel) ?_
  refine lv_aload_n hx hb dX11_keeps_81 rfl (lv_at hl 2 rfl) ?_
  refine va_get (D := D) (ci := 14) (v := .ref h1) (own := RX11) (C := RX11) (T := TX11) (N := 25) hx hb hts hi_X11 hown hK hP 0 rfl rfl 1 (by decide) (hts (.fieldLink RX11 13 "CanalMapsModel" "tried" "[I") (List.mem_of_getElem? (i := 4) (by decide +kernel))) (fun _ h9 => h9) rfl dX11_keeps_82 ?_
  refine lv_iload_n hx hb dX11_keeps_85 rfl (lv_at hl 0 rfl) ?_
  refine va_iald hx hb hK hP 1 0 rfl rfl (vin_ (by decide +kernel)) dX11_keeps_86 ?_
  refine kt_ (v := 0) (by decide +kernel) ?_
  refine ka_iast (g := (fun _ => 0)) hx hb hK hP hD hS 2 1 rfl rfl (vin_ (by decide +kernel)) (up_same (by decide +kernel)) dX11_keeps_87 (fun H locs hP hD hS => ?_)
  have hP : va_P D vwCl [(h0, .inr (14, [v0, .ref h1, v1, .ref h2, .int 0, v2, v3, v4, v5, v6, v7, v8, v9, v10, v11, v12, v13, v14, v15, v16, v17, v18, v19, v20, v21])), (h1, .inl (k1, 8277, .inl (fun _ => 0))), (h2, .inl (k2, 66216, .inl (fun _ => 0)))] H := hP
  have hD : va_D A [(h0, .inr (14, [v0, .ref h1, v1, .ref h2, .int 0, v2, v3, v4, v5, v6, v7, v8, v9, v10, v11, v12, v13, v14, v15, v16, v17, v18, v19, v20, v21])), (h1, .inl (k1, 8277, .inl (fun _ => 0))), (h2, .inl (k2, 66216, .inl (fun _ => 0)))] := hD
  refine lv_iinc (v := 23) (lv' := [(3, .int 23), (2, .int 85), (0, .ref h0), (1, .int 0)]) hx hb dX11_keeps_88 hl (k := 0) rfl (by decide +kernel) (by decide) rfl (fun ls hl => ?_)
  refine lv_goto (tgt := 62) hx hb dX11_keeps_91 (by decide) ?_
  refine lv_iload_n hx hb dX11_keeps_62 rfl (lv_at hl 0 rfl) ?_
  refine lv_iload_n hx hb dX11_keeps_63 rfl (lv_at hl 1 rfl) ?_
  refine lv_icmp_ge (tgt := 94) hx hb dX11_keeps_64 (by decide) (fun c9 => absurd c9 (by decide +kernel)) (fun _ => ?_)
  refine lv_aload_n hx hb dX11_keeps_67 rfl (lv_at hl 2 rfl) ?_
  refine va_get (D := D) (ci := 14) (v := .ref h2) (own := RX11) (C := RX11) (T := TX11) (N := 25) hx hb hts hi_X11 hown hK hP 0 rfl rfl 3 (by decide) (hts (.fieldLink RX11 20 "CanalMapsModel" "kept" "[I") (List.mem_of_getElem? (i := 3) (by decide +kernel))) (fun _ h9 => h9) rfl dX11_keeps_68 ?_
  refine lv_sipush (v := 8277) hx hb dX11_keeps_71 (by decide +kernel) ?_
  refine lv_aload_n hx hb dX11_keeps_74 rfl (lv_at hl 2 rfl) ?_
  refine va_get (D := D) (ci := 14) (v := .int 0) (own := RX11) (C := RX11) (T := TX11) (N := 25) hx hb hts hi_X11 hown hK hP 0 rfl rfl 4 (by decide) (hts (.fieldLink RX11 60 "CanalMapsModel" "undos" "I") (List.mem_of_getElem? (i := 1) (by decide +kernel))) (fun _ h9 => h9) rfl dX11_keeps_75 ?_
  refine lv_imul hx hb dX11_keeps_78 ?_
  refine kt_ (v := 0) (by decide +kernel) ?_
  refine lv_iload_n hx hb dX11_keeps_79 rfl (lv_at hl 0 rfl) ?_
  refine lv_iadd hx hb dX11_keeps_80 ?_
  refine kt_ (v := 23) (by decide +kernel) ?_
  refine lv_aload_n hx hb dX11_keeps_81 rfl (lv_at hl 2 rfl) ?_
  refine va_get (D := D) (ci := 14) (v := .ref h1) (own := RX11) (C := RX11) (T := TX11) (N := 25) hx hb hts hi_X11 hown hK hP 0 rfl rfl 1 (by decide) (hts (.fieldLink RX11 13 "CanalMapsModel" "tried" "[I") (List.mem_of_getElem? (i := 4) (by decide +kernel))) (fun _ h9 => h9) rfl dX11_keeps_82 ?_
  refine lv_iload_n hx hb dX11_keeps_85 rfl (lv_at hl 0 rfl) ?_
  refine va_iald hx hb hK hP 1 0 rfl rfl (vin_ (by decide +kernel)) dX11_keeps_86 ?_
  refine kt_ (v := 0) (by decide +kernel) ?_
  refine ka_iast (g := (fun _ => 0)) hx hb hK hP hD hS 2 1 rfl rfl (vin_ (by decide +kernel)) (up_same (by decide +kernel)) dX11_keeps_87 (fun H locs hP hD hS => ?_)
  have hP : va_P D vwCl [(h0, .inr (14, [v0, .ref h1, v1, .ref h2, .int 0, v2, v3, v4, v5, v6, v7, v8, v9, v10, v11, v12, v13, v14, v15, v16, v17, v18, v19, v20, v21])), (h1, .inl (k1, 8277, .inl (fun _ => 0))), (h2, .inl (k2, 66216, .inl (fun _ => 0)))] H := hP
  have hD : va_D A [(h0, .inr (14, [v0, .ref h1, v1, .ref h2, .int 0, v2, v3, v4, v5, v6, v7, v8, v9, v10, v11, v12, v13, v14, v15, v16, v17, v18, v19, v20, v21])), (h1, .inl (k1, 8277, .inl (fun _ => 0))), (h2, .inl (k2, 66216, .inl (fun _ => 0)))] := hD
  refine lv_iinc (v := 24) (lv' := [(3, .int 24), (2, .int 85), (0, .ref h0), (1, .int 0)]) hx hb dX11_keeps_88 hl (k := 0) rfl (by decide +kernel) (by decide) rfl (fun ls hl => ?_)
  refine lv_goto (tgt := 62) hx hb dX11_keeps_91 (by decide) ?_
  refine lv_iload_n hx hb dX11_keeps_62 rfl (lv_at hl 0 rfl) ?_
  refine lv_iload_n hx hb dX11_keeps_63 rfl (lv_at hl 1 rfl) ?_
  refine lv_icmp_ge (tgt := 94) hx hb dX11_keeps_64 (by decide) (fun c9 => absurd c9 (by decide +kernel)) (fun _ => ?_)
  refine lv_aload_n hx hb dX11_keeps_67 rfl (lv_at hl 2 rfl) ?_
  refine va_get (D := D) (ci := 14) (v := .ref h2) (own := RX11) (C := RX11) (T := TX11) (N := 25) hx hb hts hi_X11 hown hK hP 0 rfl rfl 3 (by decide) (hts (.fieldLink RX11 20 "CanalMapsModel" "kept" "[I") (List.mem_of_getElem? (i := 3) (by decide +kernel))) (fun _ h9 => h9) rfl dX11_keeps_68 ?_
  refine lv_sipush (v := 8277) hx hb dX11_keeps_71 (by decide +kernel) ?_
  refine lv_aload_n hx hb dX11_keeps_74 rfl (lv_at hl 2 rfl) ?_
  refine va_get (D := D) (ci := 14) (v := .int 0) (own := RX11) (C := RX11) (T := TX11) (N := 25) hx hb hts hi_X11 hown hK hP 0 rfl rfl 4 (by decide) (hts (.fieldLink RX11 60 "CanalMapsModel" "undos" "I") (List.mem_of_getElem? (i := 1) (by decide +kernel))) (fun _ h9 => h9) rfl dX11_keeps_75 ?_
  refine lv_imul hx hb dX11_keeps_78 ?_
  refine kt_ (v := 0) (by decide +kernel) ?_
  refine lv_iload_n hx hb dX11_keeps_79 rfl (lv_at hl 0 rfl) ?_
  refine lv_iadd hx hb dX11_keeps_80 ?_
  refine kt_ (v := 24) (by decide +kernel) ?_
  refine lv_aload_n hx hb dX11_keeps_81 rfl (lv_at hl 2 rfl) ?_
  refine va_get (D := D) (ci := 14) (v := .ref h1) (own := RX11) (C := RX11) (T := TX11) (N := 25) hx hb hts hi_X11 hown hK hP 0 rfl rfl 1 (by decide) (hts (.fieldLink RX11 13 "CanalMapsModel" "tried" "[I") (List.mem_of_getElem? (i := 4) (by decide +kernel))) (fun _ h9 => h9) rfl dX11_keeps_82 ?_
  refine lv_iload_n hx hb dX11_keeps_85 rfl (lv_at hl 0 rfl) ?_
  refine va_iald hx hb hK hP 1 0 rfl rfl (vin_ (by decide +kernel)) dX11_keeps_86 ?_
  refine kt_ (v := 0) (by decide +kernel) ?_
  refine ka_iast (g := (fun _ => 0)) hx hb hK hP hD hS 2 1 rfl rfl (vin_ (by decide +kernel)) (up_same (by decide +kernel)) dX11_keeps_87 (fun H locs hP hD hS => ?_)
  have hP : va_P D vwCl [(h0, .inr (14, [v0, .ref h1, v1, .ref h2, .int 0, v2, v3, v4, v5, v6, v7, v8, v9, v10, v11, v12, v13, v14, v15, v16, v17, v18, v19, v20, v21])), (h1, .inl (k1, 8277, .inl (fun _ => 0))), (h2, .inl (k2, 66216, .inl (fun _ => 0)))] H := hP
  have hD : va_D A [(h0, .inr (14, [v0, .ref h1, v1, .ref h2, .int 0, v2, v3, v4, v5, v6, v7, v8, v9, v10, v11, v12, v13, v14, v15, v16, v17, v18, v19, v20, v21])), (h1, .inl (k1, 8277, .inl (fun _ => 0))), (h2, .inl (k2, 66216, .inl (fun _ => 0)))] := hD
  refine lv_iinc (v := 25) (lv' := [(3, .int 25), (2, .int 85), (0, .ref h0), (1, .int 0)]) hx hb dX11_keeps_88 hl (k := 0) rfl (by decide +kernel) (by decide) rfl (fun ls hl => ?_)
  refine lv_goto (tgt := 62) hx hb dX11_keeps_91 (by decide) ?_
  refine lv_iload_n hx hb dX11_keeps_62 rfl (lv_at hl 0 rfl) ?_
  refine lv_iload_n hx hb dX11_keeps_63 rfl (lv_at hl 1 rfl) ?_
  refine lv_icmp_ge (tgt := 94) hx hb dX11_keeps_64 (by decide) (fun c9 => absurd c9 (by decide +kernel)) (fun _ => ?_)
  refine lv_aload_n hx hb dX11_keeps_67 rfl (lv_at hl 2 rfl) ?_
  refine va_get (D := D) (ci := 14) (v := .ref h2) (own := RX11) (C := RX11) (T := TX11) (N := 25) hx hb hts hi_X11 hown hK hP 0 rfl rfl 3 (by decide) (hts (.fieldLink RX11 20 "CanalMapsModel" "kept" "[I") (List.mem_of_getElem? (i := 3) (by decide +kernel))) (fun _ h9 => h9) rfl dX11_keeps_68 ?_
  refine lv_sipush (v := 8277) hx hb dX11_keeps_71 (by decide +kernel) ?_
  refine lv_aload_n hx hb dX11_keeps_74 rfl (lv_at hl 2 rfl) ?_
  refine va_get (D := D) (ci := 14) (v := .int 0) (own := RX11) (C := RX11) (T := TX11) (N := 25) hx hb hts hi_X11 hown hK hP 0 rfl rfl 4 (by decide) (hts (.fieldLink RX11 60 "CanalMapsModel" "undos" "I") (List.mem_of_getElem? (i := 1) (by decide +kernel))) (fun _ h9 => h9) rfl dX11_keeps_75 ?_
  refine lv_imul hx hb dX11_keeps_78 ?_
  refine kt_ (v := 0) (by decide +kernel) ?_
  refine lv_iload_n hx hb dX11_keeps_79 rfl (lv_at hl 0 rfl) ?_
  refine lv_iadd hx hb dX11_keeps_80 ?_
  refine kt_ (v := 25) (by decide +kernel) ?_
  refine lv_aload_n hx hb dX11_keeps_81 rfl (lv_at hl 2 rfl) ?_
  refine va_get (D := D) (ci := 14) (v := .ref h1) (own := RX11) (C := RX11) (T := TX11) (N := 25) hx hb hts hi_X11 hown hK hP 0 rfl rfl 1 (by decide) (hts (.fieldLink RX11 13 "CanalMapsModel" "tried" "[I") (List.mem_of_getElem? (i := 4) (by decide +kernel))) (fun _ h9 => h9) rfl dX11_keeps_82 ?_
  refine lv_iload_n hx hb dX11_keeps_85 rfl (lv_at hl 0 rfl) ?_
  refine va_iald hx hb hK hP 1 0 rfl rfl (vin_ (by decide +kernel)) dX11_keeps_86 ?_
  refine kt_ (v := 0) (by decide +kernel) ?_
  refine ka_iast (g := (fun _ => 0)) hx hb hK hP hD hS 2 1 rfl rfl (vin_ (by decide +kernel)) (up_same (by decide +kernel)) dX11_keeps_87 (fun H locs hP hD hS => ?_)
  have hP : va_P D vwCl [(h0, .inr (14, [v0, .ref h1, v1, .ref h2, .int 0, v2, v3, v4, v5, v6, v7, v8, v9, v10, v11, v12, v13, v14, v15, v16, v17, v18, v19, v20, v21])), (h1, .inl (k1, 8277, .inl (fun _ => 0))), (h2, .inl (k2, 66216, .inl (fun _ => 0)))] H := hP
  have hD : va_D A [(h0, .inr (14, [v0, .ref h1, v1, .ref h2, .int 0, v2, v3, v4, v5, v6, v7, v8, v9, v10, v11, v12, v13, v14, v15, v16, v17, v18, v19, v20, v21])), (h1, .inl (k1, 8277, .inl (fun _ => 0))), (h2, .inl (k2, 66216, .inl (fun _ => 0)))] := hD
  refine lv_iinc (v := 26) (lv' := [(3, .int 26), (2, .int 85), (0, .ref h0), (1, .int 0)]) hx hb dX11_keeps_88 hl (k := 0) rfl (by decide +kernel) (by decide) rfl (fun ls hl => ?_)
  refine lv_goto (tgt := 62) hx hb dX11_keeps_91 (by decide) ?_
  refine lv_iload_n hx hb dX11_keeps_62 rfl (lv_at hl 0 rfl) ?_
  refine lv_iload_n hx hb dX11_keeps_63 rfl (lv_at hl 1 rfl) ?_
  refine lv_icmp_ge (tgt := 94) hx hb dX11_keeps_64 (by decide) (fun c9 => absurd c9 (by decide +kernel)) (fun _ => ?_)
  refine lv_aload_n hx hb dX11_keeps_67 rfl (lv_at hl 2 rfl) ?_
  refine va_get (D := D) (ci := 14) (v := .ref h2) (own := RX11) (C := RX11) (T := TX11) (N := 25) hx hb hts hi_X11 hown hK hP 0 rfl rfl 3 (by decide) (hts (.fieldLink RX11 20 "CanalMapsModel" "kept" "[I") (List.mem_of_getElem? (i := 3) (by decide +kernel))) (fun _ h9 => h9) rfl dX11_keeps_68 ?_
  refine lv_sipush (v := 8277) hx hb dX11_keeps_71 (by decide +kernel) ?_
  refine lv_aload_n hx hb dX11_keeps_74 rfl (lv_at hl 2 rfl) ?_
  refine va_get (D := D) (ci := 14) (v := .int 0) (own := RX11) (C := RX11) (T := TX11) (N := 25) hx hb hts hi_X11 hown hK hP 0 rfl rfl 4 (by decide) (hts (.fieldLink RX11 60 "CanalMapsModel" "undos" "I") (List.mem_of_getElem? (i := 1) (by decide +kernel))) (fun _ h9 => h9) rfl dX11_keeps_75 ?_
  refine lv_imul hx hb dX11_keeps_78 ?_
  refine kt_ (v := 0) (by decide +kernel) ?_
  refine lv_iload_n hx hb dX11_keeps_79 rfl (lv_at hl 0 rfl) ?_
  refine lv_iadd hx hb dX11_keeps_80 ?_
  refine kt_ (v := 26) (by decide +kernel) ?_
  refine lv_aload_n hx hb dX11_keeps_81 rfl (lv_at hl 2 rfl) ?_
  refine va_get (D := D) (ci := 14) (v := .ref h1) (own := RX11) (C := RX11) (T := TX11) (N := 25) hx hb hts hi_X11 hown hK hP 0 rfl rfl 1 (by decide) (hts (.fieldLink RX11 13 "CanalMapsModel" "tried" "[I") (List.mem_of_getElem? (i := 4) (by decide +kernel))) (fun _ h9 => h9) rfl dX11_keeps_82 ?_
  refine lv_iload_n hx hb dX11_keeps_85 rfl (lv_at hl 0 rfl) ?_
  refine va_iald hx hb hK hP 1 0 rfl rfl (vin_ (by decide +kernel)) dX11_keeps_86 ?_
  refine kt_ (v := 0) (by decide +kernel) ?_
  refine ka_iast (g := (fun _ => 0)) hx hb hK hP hD hS 2 1 rfl rfl (vin_ (by decide +kernel)) (up_same (by decide +kernel)) dX11_keeps_87 (fun H locs hP hD hS => ?_)
  have hP : va_P D vwCl [(h0, .inr (14, [v0, .ref h1, v1, .ref h2, .int 0, v2, v3, v4, v5, v6, v7, v8, v9, v10, v11, v12, v13, v14, v15, v16, v17, v18, v19, v20, v21])), (h1, .inl (k1, 8277, .inl (fun _ => 0))), (h2, .inl (k2, 66216, .inl (fun _ => 0)))] H := hP
  have hD : va_D A [(h0, .inr (14, [v0, .ref h1, v1, .ref h2, .int 0, v2, v3, v4, v5, v6, v7, v8, v9, v10, v11, v12, v13, v14, v15, v16, v17, v18, v19, v20, v21])), (h1, .inl (k1, 8277, .inl (fun _ => 0))), (h2, .inl (k2, 66216, .inl (fun _ => 0)))] := hD
  refine lv_iinc (v := 27) (lv' := [(3, .int 27), (2, .int 85), (0, .ref h0), (1, .int 0)]) hx hb dX11_keeps_88 hl (k := 0) rfl (by decide +kernel) (by decide) rfl (fun ls hl => ?_)
  refine lv_goto (tgt := 62) hx hb dX11_keeps_91 (by decide) ?_
  refine lv_iload_n hx hb dX11_keeps_62 rfl (lv_at hl 0 rfl) ?_
  refine lv_iload_n hx hb dX11_keeps_63 rfl (lv_at hl 1 rfl) ?_
  refine lv_icmp_ge (tgt := 94) hx hb dX11_keeps_64 (by decide) (fun c9 => absurd c9 (by decide +kernel)) (fun _ => ?_)
  refine lv_aload_n hx hb dX11_keeps_67 rfl (lv_at hl 2 rfl) ?_
  refine va_get (D := D) (ci := 14) (v := .ref h2) (own := RX11) (C := RX11) (T := TX11) (N := 25) hx hb hts hi_X11 hown hK hP 0 rfl rfl 3 (by decide) (hts (.fieldLink RX11 20 "CanalMapsModel" "kept" "[I") (List.mem_of_getElem? (i := 3) (by decide +kernel))) (fun _ h9 => h9) rfl dX11_keeps_68 ?_
  refine lv_sipush (v := 8277) hx hb dX11_keeps_71 (by decide +kernel) ?_
  refine lv_aload_n hx hb dX11_keeps_74 rfl (lv_at hl 2 rfl) ?_
  refine va_get (D := D) (ci := 14) (v := .int 0) (own := RX11) (C := RX11) (T := TX11) (N := 25) hx hb hts hi_X11 hown hK hP 0 rfl rfl 4 (by decide) (hts (.fieldLink RX11 60 "CanalMapsModel" "undos" "I") (List.mem_of_getElem? (i := 1) (by decide +kernel))) (fun _ h9 => h9) rfl dX11_keeps_75 ?_
  refine lv_imul hx hb dX11_keeps_78 ?_
  refine kt_ (v := 0) (by decide +kernel) ?_
  refine lv_iload_n hx hb dX11_keeps_79 rfl (lv_at hl 0 rfl) ?_
  refine lv_iadd hx hb dX11_keeps_80 ?_
  refine kt_ (v := 27) (by decide +kernel) ?_
  refine lv_aload_n hx hb dX11_keeps_81 rfl (lv_at hl 2 rfl) ?_
  refine va_get (D := D) (ci := 14) (v := .ref h1) (own := RX11) (C := RX11) (T := TX11) (N := 25) hx hb hts hi_X11 hown hK hP 0 rfl rfl 1 (by decide) (hts (.fieldLink RX11 13 "CanalMapsModel" "tried" "[I") (List.mem_of_getElem? (i := 4) (by decide +kernel))) (fun _ h9 => h9) rfl dX11_keeps_82 ?_
  refine lv_iload_n hx hb dX11_keeps_85 rfl (lv_at hl 0 rfl) ?_
  refine va_iald hx hb hK hP 1 0 rfl rfl (vin_ (by decide +kernel)) dX11_keeps_86 ?_
  refine kt_ (v := 0) (by decide +kernel) ?_
  refine ka_iast (g := (fun _ => 0)) hx hb hK hP hD hS 2 1 rfl rfl (vin_ (by decide +kernel)) (up_same (by decide +kernel)) dX11_keeps_87 (fun H locs hP hD hS => ?_)
  have hP : va_P D vwCl [(h0, .inr (14, [v0, .ref h1, v1, .ref h2, .int 0, v2, v3, v4, v5, v6, v7, v8, v9, v10, v11, v12, v13, v14, v15, v16, v17, v18, v19, v20, v21])), (h1, .inl (k1, 8277, .inl (fun _ => 0))), (h2, .inl (k2, 66216, .inl (fun _ => 0)))] H := hP
  have hD : va_D A [(h0, .inr (14, [v0, .ref h1, v1, .ref h2, .int 0, v2, v3, v4, v5, v6, v7, v8, v9, v10, v11, v12, v13, v14, v15, v16, v17, v18, v19, v20, v21])), (h1, .inl (k1, 8277, .inl (fun _ => 0))), (h2, .inl (k2, 66216, .inl (fun _ => 0)))] := hD
  refine lv_iinc (v := 28) (lv' := [(3, .int 28), (2, .int 85), (0, .ref h0), (1, .int 0)]) hx hb dX11_keeps_88 hl (k := 0) rfl (by decide +kernel) (by decide) rfl (fun ls hl => ?_)
  refine lv_goto (tgt := 62) hx hb dX11_keeps_91 (by decide) ?_
  refine lv_iload_n hx hb dX11_keeps_62 rfl (lv_at hl 0 rfl) ?_
  refine lv_iload_n hx hb dX11_keeps_63 rfl (lv_at hl 1 rfl) ?_
  refine lv_icmp_ge (tgt := 94) hx hb dX11_keeps_64 (by decide) (fun c9 => absurd c9 (by decide +kernel)) (fun _ => ?_)
  refine lv_aload_n hx hb dX11_keeps_67 rfl (lv_at hl 2 rfl) ?_
  refine va_get (D := D) (ci := 14) (v := .ref h2) (own := RX11) (C := RX11) (T := TX11) (N := 25) hx hb hts hi_X11 hown hK hP 0 rfl rfl 3 (by decide) (hts (.fieldLink RX11 20 "CanalMapsModel" "kept" "[I") (List.mem_of_getElem? (i := 3) (by decide +kernel))) (fun _ h9 => h9) rfl dX11_keeps_68 ?_
  refine lv_sipush (v := 8277) hx hb dX11_keeps_71 (by decide +kernel) ?_
  refine lv_aload_n hx hb dX11_keeps_74 rfl (lv_at hl 2 rfl) ?_
  refine va_get (D := D) (ci := 14) (v := .int 0) (own := RX11) (C := RX11) (T := TX11) (N := 25) hx hb hts hi_X11 hown hK hP 0 rfl rfl 4 (by decide) (hts (.fieldLink RX11 60 "CanalMapsModel" "undos" "I") (List.mem_of_getElem? (i := 1) (by decide +kernel))) (fun _ h9 => h9) rfl dX11_keeps_75 ?_
  refine lv_imul hx hb dX11_keeps_78 ?_
  refine kt_ (v := 0) (by decide +kernel) ?_
  refine lv_iload_n hx hb dX11_keeps_79 rfl (lv_at hl 0 rfl) ?_
  refine lv_iadd hx hb dX11_keeps_80 ?_
  refine kt_ (v := 28) (by decide +kernel) ?_
  refine lv_aload_n hx hb dX11_keeps_81 rfl (lv_at hl 2 rfl) ?_
  refine va_get (D := D) (ci := 14) (v := .ref h1) (own := RX11) (C := RX11) (T := TX11) (N := 25) hx hb hts hi_X11 hown hK hP 0 rfl rfl 1 (by decide) (hts (.fieldLink RX11 13 "CanalMapsModel" "tried" "[I") (List.mem_of_getElem? (i := 4) (by decide +kernel))) (fun _ h9 => h9) rfl dX11_keeps_82 ?_
  refine lv_iload_n hx hb dX11_keeps_85 rfl (lv_at hl 0 rfl) ?_
  refine va_iald hx hb hK hP 1 0 rfl rfl (vin_ (by decide +kernel)) dX11_keeps_86 ?_
  refine kt_ (v := 0) (by decide +kernel) ?_
  refine ka_iast (g := (fun _ => 0)) hx hb hK hP hD hS 2 1 rfl rfl (vin_ (by decide +kernel)) (up_same (by decide +kernel)) dX11_keeps_87 (fun H locs hP hD hS => ?_)
  have hP : va_P D vwCl [(h0, .inr (14, [v0, .ref h1, v1, .ref h2, .int 0, v2, v3, v4, v5, v6, v7, v8, v9, v10, v11, v12, v13, v14, v15, v16, v17, v18, v19, v20, v21])), (h1, .inl (k1, 8277, .inl (fun _ => 0))), (h2, .inl (k2, 66216, .inl (fun _ => 0)))] H := hP
  have hD : va_D A [(h0, .inr (14, [v0, .ref h1, v1, .ref h2, .int 0, v2, v3, v4, v5, v6, v7, v8, v9, v10, v11, v12, v13, v14, v15, v16, v17, v18, v19, v20, v21])), (h1, .inl (k1, 8277, .inl (fun _ => 0))), (h2, .inl (k2, 66216, .inl (fun _ => 0)))] := hD
  refine lv_iinc (v := 29) (lv' := [(3, .int 29), (2, .int 85), (0, .ref h0), (1, .int 0)]) hx hb dX11_keeps_88 hl (k := 0) rfl (by decide +kernel) (by decide) rfl (fun ls hl => ?_)
  refine lv_goto (tgt := 62) hx hb dX11_keeps_91 (by decide) ?_
  refine lv_iload_n hx hb dX11_keeps_62 rfl (lv_at hl 0 rfl) ?_
  refine lv_iload_n hx hb dX11_keeps_63 rfl (lv_at hl 1 rfl) ?_
  refine lv_icmp_ge (tgt := 94) hx hb dX11_keeps_64 (by decide) (fun c9 => absurd c9 (by decide +kernel)) (fun _ => ?_)
  refine lv_aload_n hx hb dX11_keeps_67 rfl (lv_at hl 2 rfl) ?_
  refine va_get (D := D) (ci := 14) (v := .ref h2) (own := RX11) (C := RX11) (T := TX11) (N := 25) hx hb hts hi_X11 hown hK hP 0 rfl rfl 3 (by decide) (hts (.fieldLink RX11 20 "CanalMapsModel" "kept" "[I") (List.mem_of_getElem? (i := 3) (by decide +kernel))) (fun _ h9 => h9) rfl dX11_keeps_68 ?_
  refine lv_sipush (v := 8277) hx hb dX11_keeps_71 (by decide +kernel) ?_
  refine lv_aload_n hx hb dX11_keeps_74 rfl (lv_at hl 2 rfl) ?_
  refine va_get (D := D) (ci := 14) (v := .int 0) (own := RX11) (C := RX11) (T := TX11) (N := 25) hx hb hts hi_X11 hown hK hP 0 rfl rfl 4 (by decide) (hts (.fieldLink RX11 60 "CanalMapsModel" "undos" "I") (List.mem_of_getElem? (i := 1) (by decide +kernel))) (fun _ h9 => h9) rfl dX11_keeps_75 ?_
  refine lv_imul hx hb dX11_keeps_78 ?_
  refine kt_ (v := 0) (by decide +kernel) ?_
  refine lv_iload_n hx hb dX11_keeps_79 rfl (lv_at hl 0 rfl) ?_
  refine lv_iadd hx hb dX11_keeps_80 ?_
  refine kt_ (v := 29) (by decide +kernel) ?_
  refine lv_aload_n hx hb dX11_keeps_81 rfl (lv_at hl 2 rfl) ?_
  refine va_get (D := D) (ci := 14) (v := .ref h1) (own := RX11) (C := RX11) (T := TX11) (N := 25) hx hb hts hi_X11 hown hK hP 0 rfl rfl 1 (by decide) (hts (.fieldLink RX11 13 "CanalMapsModel" "tried" "[I") (List.mem_of_getElem? (i := 4) (by decide +kernel))) (fun _ h9 => h9) rfl dX11_keeps_82 ?_
  refine lv_iload_n hx hb dX11_keeps_85 rfl (lv_at hl 0 rfl) ?_
  refine va_iald hx hb hK hP 1 0 rfl rfl (vin_ (by decide +kernel)) dX11_keeps_86 ?_
  refine kt_ (v := 0) (by decide +kernel) ?_
  refine ka_iast (g := (fun _ => 0)) hx hb hK hP hD hS 2 1 rfl rfl (vin_ (by decide +kernel)) (up_same (by decide +kernel)) dX11_keeps_87 (fun H locs hP hD hS => ?_)
  have hP : va_P D vwCl [(h0, .inr (14, [v0, .ref h1, v1, .ref h2, .int 0, v2, v3, v4, v5, v6, v7, v8, v9, v10, v11, v12, v13, v14, v15, v16, v17, v18, v19, v20, v21])), (h1, .inl (k1, 8277, .inl (fun _ => 0))), (h2, .inl (k2, 66216, .inl (fun _ => 0)))] H := hP
  have hD : va_D A [(h0, .inr (14, [v0, .ref h1, v1, .ref h2, .int 0, v2, v3, v4, v5, v6, v7, v8, v9, v10, v11, v12, v13, v14, v15, v16, v17, v18, v19, v20, v21])), (h1, .inl (k1, 8277, .inl (fun _ => 0))), (h2, .inl (k2, 66216, .inl (fun _ => 0)))] := hD
  refine lv_iinc (v := 30) (lv' := [(3, .int 30), (2, .int 85), (0, .ref h0), (1, .int 0)]) hx hb dX11_keeps_88 hl (k := 0) rfl (by decide +kernel) (by decide) rfl (fun ls hl => ?_)
  refine lv_goto (tgt := 62) hx hb dX11_keeps_91 (by decide) ?_
  refine lv_iload_n hx hb dX11_keeps_62 rfl (lv_at hl 0 rfl) ?_
  refine lv_iload_n hx hb dX11_keeps_63 rfl (lv_at hl 1 rfl) ?_
  refine lv_icmp_ge (tgt := 94) hx hb dX11_keeps_64 (by decide) (fun c9 => absurd c9 (by decide +kernel)) (fun _ => ?_)
  refine lv_aload_n hx hb dX11_keeps_67 rfl (lv_at hl 2 rfl) ?_
  refine va_get (D := D) (ci := 14) (v := .ref h2) (own := RX11) (C := RX11) (T := TX11) (N := 25) hx hb hts hi_X11 hown hK hP 0 rfl rfl 3 (by decide) (hts (.fieldLink RX11 20 "CanalMapsModel" "kept" "[I") (List.mem_of_getElem? (i := 3) (by decide +kernel))) (fun _ h9 => h9) rfl dX11_keeps_68 ?_
  refine lv_sipush (v := 8277) hx hb dX11_keeps_71 (by decide +kernel) ?_
  refine lv_aload_n hx hb dX11_keeps_74 rfl (lv_at hl 2 rfl) ?_
  refine va_get (D := D) (ci := 14) (v := .int 0) (own := RX11) (C := RX11) (T := TX11) (N := 25) hx hb hts hi_X11 hown hK hP 0 rfl rfl 4 (by decide) (hts (.fieldLink RX11 60 "CanalMapsModel" "undos" "I") (List.mem_of_getElem? (i := 1) (by decide +kernel))) (fun _ h9 => h9) rfl dX11_keeps_75 ?_
  refine lv_imul hx hb dX11_keeps_78 ?_
  refine kt_ (v := 0) (by decide +kernel) ?_
  refine lv_iload_n hx hb dX11_keeps_79 rfl (lv_at hl 0 rfl) ?_
  refine lv_iadd hx hb dX11_keeps_80 ?_
  refine kt_ (v := 30) (by decide +kernel) ?_
  refine lv_aload_n hx hb dX11_keeps_81 rfl (lv_at hl 2 rfl) ?_
  refine va_get (D := D) (ci := 14) (v := .ref h1) (own := RX11) (C := RX11) (T := TX11) (N := 25) hx hb hts hi_X11 hown hK hP 0 rfl rfl 1 (by decide) (hts (.fieldLink RX11 13 "CanalMapsModel" "tried" "[I") (List.mem_of_getElem? (i := 4) (by decide +kernel))) (fun _ h9 => h9) rfl dX11_keeps_82 ?_
  refine lv_iload_n hx hb dX11_keeps_85 rfl (lv_at hl 0 rfl) ?_
  refine va_iald hx hb hK hP 1 0 rfl rfl (vin_ (by decide +kernel)) dX11_keeps_86 ?_
  refine kt_ (v := 0) (by decide +kernel) ?_
  refine ka_iast (g := (fun _ => 0)) hx hb hK hP hD hS 2 1 rfl rfl (vin_ (by decide +kernel)) (up_same (by decide +kernel)) dX11_keeps_87 (fun H locs hP hD hS => ?_)
  have hP : va_P D vwCl [(h0, .inr (14, [v0, .ref h1, v1, .ref h2, .int 0, v2, v3, v4, v5, v6, v7, v8, v9, v10, v11, v12, v13, v14, v15, v16, v17, v18, v19, v20, v21])), (h1, .inl (k1, 8277, .inl (fun _ => 0))), (h2, .inl (k2, 66216, .inl (fun _ => 0)))] H := hP
  have hD : va_D A [(h0, .inr (14, [v0, .ref h1, v1, .ref h2, .int 0, v2, v3, v4, v5, v6, v7, v8, v9, v10, v11, v12, v13, v14, v15, v16, v17, v18, v19, v20, v21])), (h1, .inl (k1, 8277, .inl (fun _ => 0))), (h2, .inl (k2, 66216, .inl (fun _ => 0)))] := hD
  refine lv_iinc (v := 31) (lv' := [(3, .int 31), (2, .int 85), (0, .ref h0), (1, .int 0)]) hx hb dX11_keeps_88 hl (k := 0) rfl (by decide +kernel) (by decide) rfl (fun ls hl => ?_)
  refine lv_goto (tgt := 62) hx hb dX11_keeps_91 (by decide) ?_
  refine lv_iload_n hx hb dX11_keeps_62 rfl (lv_at hl 0 rfl) ?_
  refine lv_iload_n hx hb dX11_keeps_63 rfl (lv_at hl 1 rfl) ?_
  refine lv_icmp_ge (tgt := 94) hx hb dX11_keeps_64 (by decide) (fun c9 => absurd c9 (by decide +kernel)) (fun _ => ?_)
  refine lv_aload_n hx hb dX11_keeps_67 rfl (lv_at hl 2 rfl) ?_
  refine va_get (D := D) (ci := 14) (v := .ref h2) (own := RX11) (C := RX11) (T := TX11) (N := 25) hx hb hts hi_X11 hown hK hP 0 rfl rfl 3 (by decide) (hts (.fieldLink RX11 20 "CanalMapsModel" "kept" "[I") (List.mem_of_getElem? (i := 3) (by decide +kernel))) (fun _ h9 => h9) rfl dX11_keeps_68 ?_
  refine lv_sipush (v := 8277) hx hb dX11_keeps_71 (by decide +kernel) ?_
  refine lv_aload_n hx hb dX11_keeps_74 rfl (lv_at hl 2 rfl) ?_
  refine va_get (D := D) (ci := 14) (v := .int 0) (own := RX11) (C := RX11) (T := TX11) (N := 25) hx hb hts hi_X11 hown hK hP 0 rfl rfl 4 (by decide) (hts (.fieldLink RX11 60 "CanalMapsModel" "undos" "I") (List.mem_of_getElem? (i := 1) (by decide +kernel))) (fun _ h9 => h9) rfl dX11_keeps_75 ?_
  refine lv_imul hx hb dX11_keeps_78 ?_
  refine kt_ (v := 0) (by decide +kernel) ?_
  refine lv_iload_n hx hb dX11_keeps_79 rfl (lv_at hl 0 rfl) ?_
  refine lv_iadd hx hb dX11_keeps_80 ?_
  refine kt_ (v := 31) (by decide +kernel) ?_
  refine lv_aload_n hx hb dX11_keeps_81 rfl (lv_at hl 2 rfl) ?_
  refine va_get (D := D) (ci := 14) (v := .ref h1) (own := RX11) (C := RX11) (T := TX11) (N := 25) hx hb hts hi_X11 hown hK hP 0 rfl rfl 1 (by decide) (hts (.fieldLink RX11 13 "CanalMapsModel" "tried" "[I") (List.mem_of_getElem? (i := 4) (by decide +kernel))) (fun _ h9 => h9) rfl dX11_keeps_82 ?_
  refine lv_iload_n hx hb dX11_keeps_85 rfl (lv_at hl 0 rfl) ?_
  refine va_iald hx hb hK hP 1 0 rfl rfl (vin_ (by decide +kernel)) dX11_keeps_86 ?_
  refine kt_ (v := 0) (by decide +kernel) ?_
  refine ka_iast (g := (fun _ => 0)) hx hb hK hP hD hS 2 1 rfl rfl (vin_ (by decide +kernel)) (up_same (by decide +kernel)) dX11_keeps_87 (fun H locs hP hD hS => ?_)
  have hP : va_P D vwCl [(h0, .inr (14, [v0, .ref h1, v1, .ref h2, .int 0, v2, v3, v4, v5, v6, v7, v8, v9, v10, v11, v12, v13, v14, v15, v16, v17, v18, v19, v20, v21])), (h1, .inl (k1, 8277, .inl (fun _ => 0))), (h2, .inl (k2, 66216, .inl (fun _ => 0)))] H := hP
  have hD : va_D A [(h0, .inr (14, [v0, .ref h1, v1, .ref h2, .int 0, v2, v3, v4, v5, v6, v7, v8, v9, v10, v11, v12, v13, v14, v15, v16, v17, v18, v19, v20, v21])), (h1, .inl (k1, 8277, .inl (fun _ => 0))), (h2, .inl (k2, 66216, .inl (fun _ => 0)))] := hD
  refine lv_iinc (v := 32) (lv' := [(3, .int 32), (2, .int 85), (0, .ref h0), (1, .int 0)]) hx hb dX11_keeps_88 hl (k := 0) rfl (by decide +kernel) (by decide) rfl (fun ls hl => ?_)
  refine lv_goto (tgt := 62) hx hb dX11_keeps_91 (by decide) ?_
  refine lv_iload_n hx hb dX11_keeps_62 rfl (lv_at hl 0 rfl) ?_
  refine lv_iload_n hx hb dX11_keeps_63 rfl (lv_at hl 1 rfl) ?_
  refine lv_icmp_ge (tgt := 94) hx hb dX11_keeps_64 (by decide) (fun c9 => absurd c9 (by decide +kernel)) (fun _ => ?_)
  refine lv_aload_n hx hb dX11_keeps_67 rfl (lv_at hl 2 rfl) ?_
  refine va_get (D := D) (ci := 14) (v := .ref h2) (own := RX11) (C := RX11) (T := TX11) (N := 25) hx hb hts hi_X11 hown hK hP 0 rfl rfl 3 (by decide) (hts (.fieldLink RX11 20 "CanalMapsModel" "kept" "[I") (List.mem_of_getElem? (i := 3) (by decide +kernel))) (fun _ h9 => h9) rfl dX11_keeps_68 ?_
  refine lv_sipush (v := 8277) hx hb dX11_keeps_71 (by decide +kernel) ?_
  refine lv_aload_n hx hb dX11_keeps_74 rfl (lv_at hl 2 rfl) ?_
  refine va_get (D := D) (ci := 14) (v := .int 0) (own := RX11) (C := RX11) (T := TX11) (N := 25) hx hb hts hi_X11 hown hK hP 0 rfl rfl 4 (by decide) (hts (.fieldLink RX11 60 "CanalMapsModel" "undos" "I") (List.mem_of_getElem? (i := 1) (by decide +kernel))) (fun _ h9 => h9) rfl dX11_keeps_75 ?_
  refine lv_imul hx hb dX11_keeps_78 ?_
  refine kt_ (v := 0) (by decide +kernel) ?_
  refine lv_iload_n hx hb dX11_keeps_79 rfl (lv_at hl 0 rfl) ?_
  refine lv_iadd hx hb dX11_keeps_80 ?_
  refine kt_ (v := 32) (by decide +kernel) ?_
  refine lv_aload_n hx hb dX11_keeps_81 rfl (lv_at hl 2 rfl) ?_
  refine va_get (D := D) (ci := 14) (v := .ref h1) (own := RX11) (C := RX11) (T := TX11) (N := 25) hx hb hts hi_X11 hown hK hP 0 rfl rfl 1 (by decide) (hts (.fieldLink RX11 13 "CanalMapsModel" "tried" "[I") (List.mem_of_getElem? (i := 4) (by decide +kernel))) (fun _ h9 => h9) rfl dX11_keeps_82 ?_
  refine lv_iload_n hx hb dX11_keeps_85 rfl (lv_at hl 0 rfl) ?_
  refine va_iald hx hb hK hP 1 0 rfl rfl (vin_ (by decide +kernel)) dX11_keeps_86 ?_
  refine kt_ (v := 0) (by decide +kernel) ?_
  refine ka_iast (g := (fun _ => 0)) hx hb hK hP hD hS 2 1 rfl rfl (vin_ (by decide +kernel)) (up_same (by decide +kernel)) dX11_keeps_87 (fun H locs hP hD hS => ?_)
  have hP : va_P D vwCl [(h0, .inr (14, [v0, .ref h1, v1, .ref h2, .int 0, v2, v3, v4, v5, v6, v7, v8, v9, v10, v11, v12, v13, v14, v15, v16, v17, v18, v19, v20, v21])), (h1, .inl (k1, 8277, .inl (fun _ => 0))), (h2, .inl (k2, 66216, .inl (fun _ => 0)))] H := hP
  have hD : va_D A [(h0, .inr (14, [v0, .ref h1, v1, .ref h2, .int 0, v2, v3, v4, v5, v6, v7, v8, v9, v10, v11, v12, v13, v14, v15, v16, v17, v18, v19, v20, v21])), (h1, .inl (k1, 8277, .inl (fun _ => 0))), (h2, .inl (k2, 66216, .inl (fun _ => 0)))] := hD
  refine lv_iinc (v := 33) (lv' := [(3, .int 33), (2, .int 85), (0, .ref h0), (1, .int 0)]) hx hb dX11_keeps_88 hl (k := 0) rfl (by decide +kernel) (by decide) rfl (fun ls hl => ?_)
  refine lv_goto (tgt := 62) hx hb dX11_keeps_91 (by decide) ?_
  refine lv_iload_n hx hb dX11_keeps_62 rfl (lv_at hl 0 rfl) ?_
  refine lv_iload_n hx hb dX11_keeps_63 rfl (lv_at hl 1 rfl) ?_
  refine lv_icmp_ge (tgt := 94) hx hb dX11_keeps_64 (by decide) (fun c9 => absurd c9 (by decide +kernel)) (fun _ => ?_)
  refine lv_aload_n hx hb dX11_keeps_67 rfl (lv_at hl 2 rfl) ?_
  refine va_get (D := D) (ci := 14) (v := .ref h2) (own := RX11) (C := RX11) (T := TX11) (N := 25) hx hb hts hi_X11 hown hK hP 0 rfl rfl 3 (by decide) (hts (.fieldLink RX11 20 "CanalMapsModel" "kept" "[I") (List.mem_of_getElem? (i := 3) (by decide +kernel))) (fun _ h9 => h9) rfl dX11_keeps_68 ?_
  refine lv_sipush (v := 8277) hx hb dX11_keeps_71 (by decide +kernel) ?_
  refine lv_aload_n hx hb dX11_keeps_74 rfl (lv_at hl 2 rfl) ?_
  refine va_get (D := D) (ci := 14) (v := .int 0) (own := RX11) (C := RX11) (T := TX11) (N := 25) hx hb hts hi_X11 hown hK hP 0 rfl rfl 4 (by decide) (hts (.fieldLink RX11 60 "CanalMapsModel" "undos" "I") (List.mem_of_getElem? (i := 1) (by decide +kernel))) (fun _ h9 => h9) rfl dX11_keeps_75 ?_
  refine lv_imul hx hb dX11_keeps_78 ?_
  refine kt_ (v := 0) (by decide +kernel) ?_
  refine lv_iload_n hx hb dX11_keeps_79 rfl (lv_at hl 0 rfl) ?_
  refine lv_iadd hx hb dX11_keeps_80 ?_
  refine kt_ (v := 33) (by decide +kernel) ?_
  refine lv_aload_n hx hb dX11_keeps_81 rfl (lv_at hl 2 rfl) ?_
  refine va_get (D := D) (ci := 14) (v := .ref h1) (own := RX11) (C := RX11) (T := TX11) (N := 25) hx hb hts hi_X11 hown hK hP 0 rfl rfl 1 (by decide) (hts (.fieldLink RX11 13 "CanalMapsModel" "tried" "[I") (List.mem_of_getElem? (i := 4) (by decide +kernel))) (fun _ h9 => h9) rfl dX11_keeps_82 ?_
  refine lv_iload_n hx hb dX11_keeps_85 rfl (lv_at hl 0 rfl) ?_
  refine va_iald hx hb hK hP 1 0 rfl rfl (vin_ (by decide +kernel)) dX11_keeps_86 ?_
  refine kt_ (v := 0) (by decide +kernel) ?_
  refine ka_iast (g := (fun _ => 0)) hx hb hK hP hD hS 2 1 rfl rfl (vin_ (by decide +kernel)) (up_same (by decide +kernel)) dX11_keeps_87 (fun H locs hP hD hS => ?_)
  have hP : va_P D vwCl [(h0, .inr (14, [v0, .ref h1, v1, .ref h2, .int 0, v2, v3, v4, v5, v6, v7, v8, v9, v10, v11, v12, v13, v14, v15, v16, v17, v18, v19, v20, v21])), (h1, .inl (k1, 8277, .inl (fun _ => 0))), (h2, .inl (k2, 66216, .inl (fun _ => 0)))] H := hP
  have hD : va_D A [(h0, .inr (14, [v0, .ref h1, v1, .ref h2, .int 0, v2, v3, v4, v5, v6, v7, v8, v9, v10, v11, v12, v13, v14, v15, v16, v17, v18, v19, v20, v21])), (h1, .inl (k1, 8277, .inl (fun _ => 0))), (h2, .inl (k2, 66216, .inl (fun _ => 0)))] := hD
  refine lv_iinc (v := 34) (lv' := [(3, .int 34), (2, .int 85), (0, .ref h0), (1, .int 0)]) hx hb dX11_keeps_88 hl (k := 0) rfl (by decide +kernel) (by decide) rfl (fun ls hl => ?_)
  refine lv_goto (tgt := 62) hx hb dX11_keeps_91 (by decide) ?_
  refine lv_iload_n hx hb dX11_keeps_62 rfl (lv_at hl 0 rfl) ?_
  refine lv_iload_n hx hb dX11_keeps_63 rfl (lv_at hl 1 rfl) ?_
  refine lv_icmp_ge (tgt := 94) hx hb dX11_keeps_64 (by decide) (fun c9 => absurd c9 (by decide +kernel)) (fun _ => ?_)
  refine lv_aload_n hx hb dX11_keeps_67 rfl (lv_at hl 2 rfl) ?_
  refine va_get (D := D) (ci := 14) (v := .ref h2) (own := RX11) (C := RX11) (T := TX11) (N := 25) hx hb hts hi_X11 hown hK hP 0 rfl rfl 3 (by decide) (hts (.fieldLink RX11 20 "CanalMapsModel" "kept" "[I") (List.mem_of_getElem? (i := 3) (by decide +kernel))) (fun _ h9 => h9) rfl dX11_keeps_68 ?_
  refine lv_sipush (v := 8277) hx hb dX11_keeps_71 (by decide +kernel) ?_
  refine lv_aload_n hx hb dX11_keeps_74 rfl (lv_at hl 2 rfl) ?_
  refine va_get (D := D) (ci := 14) (v := .int 0) (own := RX11) (C := RX11) (T := TX11) (N := 25) hx hb hts hi_X11 hown hK hP 0 rfl rfl 4 (by decide) (hts (.fieldLink RX11 60 "CanalMapsModel" "undos" "I") (List.mem_of_getElem? (i := 1) (by decide +kernel))) (fun _ h9 => h9) rfl dX11_keeps_75 ?_
  refine lv_imul hx hb dX11_keeps_78 ?_
  refine kt_ (v := 0) (by decide +kernel) ?_
  refine lv_iload_n hx hb dX11_keeps_79 rfl (lv_at hl 0 rfl) ?_
  refine lv_iadd hx hb dX11_keeps_80 ?_
  refine kt_ (v := 34) (by decide +kernel) ?_
  refine lv_aload_n hx hb dX11_keeps_81 rfl (lv_at hl 2 rfl) ?_
  refine va_get (D := D) (ci := 14) (v := .ref h1) (own := RX11) (C := RX11) (T := TX11) (N := 25) hx hb hts hi_X11 hown hK hP 0 rfl rfl 1 (by decide) (hts (.fieldLink RX11 13 "CanalMapsModel" "tried" "[I") (List.mem_of_getElem? (i := 4) (by decide +kernel))) (fun _ h9 => h9) rfl dX11_keeps_82 ?_
  refine lv_iload_n hx hb dX11_keeps_85 rfl (lv_at hl 0 rfl) ?_
  refine va_iald hx hb hK hP 1 0 rfl rfl (vin_ (by decide +kernel)) dX11_keeps_86 ?_
  refine kt_ (v := 0) (by decide +kernel) ?_
  refine ka_iast (g := (fun _ => 0)) hx hb hK hP hD hS 2 1 rfl rfl (vin_ (by decide +kernel)) (up_same (by decide +kernel)) dX11_keeps_87 (fun H locs hP hD hS => ?_)
  have hP : va_P D vwCl [(h0, .inr (14, [v0, .ref h1, v1, .ref h2, .int 0, v2, v3, v4, v5, v6, v7, v8, v9, v10, v11, v12, v13, v14, v15, v16, v17, v18, v19, v20, v21])), (h1, .inl (k1, 8277, .inl (fun _ => 0))), (h2, .inl (k2, 66216, .inl (fun _ => 0)))] H := hP
  have hD : va_D A [(h0, .inr (14, [v0, .ref h1, v1, .ref h2, .int 0, v2, v3, v4, v5, v6, v7, v8, v9, v10, v11, v12, v13, v14, v15, v16, v17, v18, v19, v20, v21])), (h1, .inl (k1, 8277, .inl (fun _ => 0))), (h2, .inl (k2, 66216, .inl (fun _ => 0)))] := hD
  refine lv_iinc (v := 35) (lv' := [(3, .int 35), (2, .int 85), (0, .ref h0), (1, .int 0)]) hx hb dX11_keeps_88 hl (k := 0) rfl (by decide +kernel) (by decide) rfl (fun ls hl => ?_)
  refine lv_goto (tgt := 62) hx hb dX11_keeps_91 (by decide) ?_
  refine lv_iload_n hx hb dX11_keeps_62 rfl (lv_at hl 0 rfl) ?_
  refine lv_iload_n hx hb dX11_keeps_63 rfl (lv_at hl 1 rfl) ?_
  refine lv_icmp_ge (tgt := 94) hx hb dX11_keeps_64 (by decide) (fun c9 => absurd c9 (by decide +kernel)) (fun _ => ?_)
  refine lv_aload_n hx hb dX11_keeps_67 rfl (lv_at hl 2 rfl) ?_
  refine va_get (D := D) (ci := 14) (v := .ref h2) (own := RX11) (C := RX11) (T := TX11) (N := 25) hx hb hts hi_X11 hown hK hP 0 rfl rfl 3 (by decide) (hts (.fieldLink RX11 20 "CanalMapsModel" "kept" "[I") (List.mem_of_getElem? (i := 3) (by decide +kernel))) (fun _ h9 => h9) rfl dX11_keeps_68 ?_
  refine lv_sipush (v := 8277) hx hb dX11_keeps_71 (by decide +kernel) ?_
  refine lv_aload_n hx hb dX11_keeps_74 rfl (lv_at hl 2 rfl) ?_
  refine va_get (D := D) (ci := 14) (v := .int 0) (own := RX11) (C := RX11) (T := TX11) (N := 25) hx hb hts hi_X11 hown hK hP 0 rfl rfl 4 (by decide) (hts (.fieldLink RX11 60 "CanalMapsModel" "undos" "I") (List.mem_of_getElem? (i := 1) (by decide +kernel))) (fun _ h9 => h9) rfl dX11_keeps_75 ?_
  refine lv_imul hx hb dX11_keeps_78 ?_
  refine kt_ (v := 0) (by decide +kernel) ?_
  refine lv_iload_n hx hb dX11_keeps_79 rfl (lv_at hl 0 rfl) ?_
  refine lv_iadd hx hb dX11_keeps_80 ?_
  refine kt_ (v := 35) (by decide +kernel) ?_
  refine lv_aload_n hx hb dX11_keeps_81 rfl (lv_at hl 2 rfl) ?_
  refine va_get (D := D) (ci := 14) (v := .ref h1) (own := RX11) (C := RX11) (T := TX11) (N := 25) hx hb hts hi_X11 hown hK hP 0 rfl rfl 1 (by decide) (hts (.fieldLink RX11 13 "CanalMapsModel" "tried" "[I") (List.mem_of_getElem? (i := 4) (by decide +kernel))) (fun _ h9 => h9) rfl dX11_keeps_82 ?_
  refine lv_iload_n hx hb dX11_keeps_85 rfl (lv_at hl 0 rfl) ?_
  refine va_iald hx hb hK hP 1 0 rfl rfl (vin_ (by decide +kernel)) dX11_keeps_86 ?_
  refine kt_ (v := 0) (by decide +kernel) ?_
  refine ka_iast (g := (fun _ => 0)) hx hb hK hP hD hS 2 1 rfl rfl (vin_ (by decide +kernel)) (up_same (by decide +kernel)) dX11_keeps_87 (fun H locs hP hD hS => ?_)
  have hP : va_P D vwCl [(h0, .inr (14, [v0, .ref h1, v1, .ref h2, .int 0, v2, v3, v4, v5, v6, v7, v8, v9, v10, v11, v12, v13, v14, v15, v16, v17, v18, v19, v20, v21])), (h1, .inl (k1, 8277, .inl (fun _ => 0))), (h2, .inl (k2, 66216, .inl (fun _ => 0)))] H := hP
  have hD : va_D A [(h0, .inr (14, [v0, .ref h1, v1, .ref h2, .int 0, v2, v3, v4, v5, v6, v7, v8, v9, v10, v11, v12, v13, v14, v15, v16, v17, v18, v19, v20, v21])), (h1, .inl (k1, 8277, .inl (fun _ => 0))), (h2, .inl (k2, 66216, .inl (fun _ => 0)))] := hD
  refine lv_iinc (v := 36) (lv' := [(3, .int 36), (2, .int 85), (0, .ref h0), (1, .int 0)]) hx hb dX11_keeps_88 hl (k := 0) rfl (by decide +kernel) (by decide) rfl (fun ls hl => ?_)
  refine lv_goto (tgt := 62) hx hb dX11_keeps_91 (by decide) ?_
  refine lv_iload_n hx hb dX11_keeps_62 rfl (lv_at hl 0 rfl) ?_
  refine lv_iload_n hx hb dX11_keeps_63 rfl (lv_at hl 1 rfl) ?_
  refine lv_icmp_ge (tgt := 94) hx hb dX11_keeps_64 (by decide) (fun c9 => absurd c9 (by decide +kernel)) (fun _ => ?_)
  refine lv_aload_n hx hb dX11_keeps_67 rfl (lv_at hl 2 rfl) ?_
  refine va_get (D := D) (ci := 14) (v := .ref h2) (own := RX11) (C := RX11) (T := TX11) (N := 25) hx hb hts hi_X11 hown hK hP 0 rfl rfl 3 (by decide) (hts (.fieldLink RX11 20 "CanalMapsModel" "kept" "[I") (List.mem_of_getElem? (i := 3) (by decide +kernel))) (fun _ h9 => h9) rfl dX11_keeps_68 ?_
  refine lv_sipush (v := 8277) hx hb dX11_keeps_71 (by decide +kernel) ?_
  refine lv_aload_n hx hb dX11_keeps_74 rfl (lv_at hl 2 rfl) ?_
  refine va_get (D := D) (ci := 14) (v := .int 0) (own := RX11) (C := RX11) (T := TX11) (N := 25) hx hb hts hi_X11 hown hK hP 0 rfl rfl 4 (by decide) (hts (.fieldLink RX11 60 "CanalMapsModel" "undos" "I") (List.mem_of_getElem? (i := 1) (by decide +kernel))) (fun _ h9 => h9) rfl dX11_keeps_75 ?_
  refine lv_imul hx hb dX11_keeps_78 ?_
  refine kt_ (v := 0) (by decide +kernel) ?_
  refine lv_iload_n hx hb dX11_keeps_79 rfl (lv_at hl 0 rfl) ?_
  refine lv_iadd hx hb dX11_keeps_80 ?_
  refine kt_ (v := 36) (by decide +kernel) ?_
  refine lv_aload_n hx hb dX11_keeps_81 rfl (lv_at hl 2 rfl) ?_
  refine va_get (D := D) (ci := 14) (v := .ref h1) (own := RX11) (C := RX11) (T := TX11) (N := 25) hx hb hts hi_X11 hown hK hP 0 rfl rfl 1 (by decide) (hts (.fieldLink RX11 13 "CanalMapsModel" "tried" "[I") (List.mem_of_getElem? (i := 4) (by decide +kernel))) (fun _ h9 => h9) rfl dX11_keeps_82 ?_
  refine lv_iload_n hx hb dX11_keeps_85 rfl (lv_at hl 0 rfl) ?_
  refine va_iald hx hb hK hP 1 0 rfl rfl (vin_ (by decide +kernel)) dX11_keeps_86 ?_
  refine kt_ (v := 0) (by decide +kernel) ?_
  refine ka_iast (g := (fun _ => 0)) hx hb hK hP hD hS 2 1 rfl rfl (vin_ (by decide +kernel)) (up_same (by decide +kernel)) dX11_keeps_87 (fun H locs hP hD hS => ?_)
  have hP : va_P D vwCl [(h0, .inr (14, [v0, .ref h1, v1, .ref h2, .int 0, v2, v3, v4, v5, v6, v7, v8, v9, v10, v11, v12, v13, v14, v15, v16, v17, v18, v19, v20, v21])), (h1, .inl (k1, 8277, .inl (fun _ => 0))), (h2, .inl (k2, 66216, .inl (fun _ => 0)))] H := hP
  have hD : va_D A [(h0, .inr (14, [v0, .ref h1, v1, .ref h2, .int 0, v2, v3, v4, v5, v6, v7, v8, v9, v10, v11, v12, v13, v14, v15, v16, v17, v18, v19, v20, v21])), (h1, .inl (k1, 8277, .inl (fun _ => 0))), (h2, .inl (k2, 66216, .inl (fun _ => 0)))] := hD
  refine lv_iinc (v := 37) (lv' := [(3, .int 37), (2, .int 85), (0, .ref h0), (1, .int 0)]) hx hb dX11_keeps_88 hl (k := 0) rfl (by decide +kernel) (by decide) rfl (fun ls hl => ?_)
  refine lv_goto (tgt := 62) hx hb dX11_keeps_91 (by decide) ?_
  refine lv_iload_n hx hb dX11_keeps_62 rfl (lv_at hl 0 rfl) ?_
  refine lv_iload_n hx hb dX11_keeps_63 rfl (lv_at hl 1 rfl) ?_
  refine lv_icmp_ge (tgt := 94) hx hb dX11_keeps_64 (by decide) (fun c9 => absurd c9 (by decide +kernel)) (fun _ => ?_)
  refine lv_aload_n hx hb dX11_keeps_67 rfl (lv_at hl 2 rfl) ?_
  refine va_get (D := D) (ci := 14) (v := .ref h2) (own := RX11) (C := RX11) (T := TX11) (N := 25) hx hb hts hi_X11 hown hK hP 0 rfl rfl 3 (by decide) (hts (.fieldLink RX11 20 "CanalMapsModel" "kept" "[I") (List.mem_of_getElem? (i := 3) (by decide +kernel))) (fun _ h9 => h9) rfl dX11_keeps_68 ?_
  refine lv_sipush (v := 8277) hx hb dX11_keeps_71 (by decide +kernel) ?_
  refine lv_aload_n hx hb dX11_keeps_74 rfl (lv_at hl 2 rfl) ?_
  refine va_get (D := D) (ci := 14) (v := .int 0) (own := RX11) (C := RX11) (T := TX11) (N := 25) hx hb hts hi_X11 hown hK hP 0 rfl rfl 4 (by decide) (hts (.fieldLink RX11 60 "CanalMapsModel" "undos" "I") (List.mem_of_getElem? (i := 1) (by decide +kernel))) (fun _ h9 => h9) rfl dX11_keeps_75 ?_
  refine lv_imul hx hb dX11_keeps_78 ?_
  refine kt_ (v := 0) (by decide +kernel) ?_
  refine lv_iload_n hx hb dX11_keeps_79 rfl (lv_at hl 0 rfl) ?_
  refine lv_iadd hx hb dX11_keeps_80 ?_
  refine kt_ (v := 37) (by decide +kernel) ?_
  refine lv_aload_n hx hb dX11_keeps_81 rfl (lv_at hl 2 rfl) ?_
  refine va_get (D := D) (ci := 14) (v := .ref h1) (own := RX11) (C := RX11) (T := TX11) (N := 25) hx hb hts hi_X11 hown hK hP 0 rfl rfl 1 (by decide) (hts (.fieldLink RX11 13 "CanalMapsModel" "tried" "[I") (List.mem_of_getElem? (i := 4) (by decide +kernel))) (fun _ h9 => h9) rfl dX11_keeps_82 ?_
  refine lv_iload_n hx hb dX11_keeps_85 rfl (lv_at hl 0 rfl) ?_
  refine va_iald hx hb hK hP 1 0 rfl rfl (vin_ (by decide +kernel)) dX11_keeps_86 ?_
  refine kt_ (v := 0) (by decide +kernel) ?_
  refine ka_iast (g := (fun _ => 0)) hx hb hK hP hD hS 2 1 rfl rfl (vin_ (by decide +kernel)) (up_same (by decide +kernel)) dX11_keeps_87 (fun H locs hP hD hS => ?_)
  have hP : va_P D vwCl [(h0, .inr (14, [v0, .ref h1, v1, .ref h2, .int 0, v2, v3, v4, v5, v6, v7, v8, v9, v10, v11, v12, v13, v14, v15, v16, v17, v18, v19, v20, v21])), (h1, .inl (k1, 8277, .inl (fun _ => 0))), (h2, .inl (k2, 66216, .inl (fun _ => 0)))] H := hP
  have hD : va_D A [(h0, .inr (14, [v0, .ref h1, v1, .ref h2, .int 0, v2, v3, v4, v5, v6, v7, v8, v9, v10, v11, v12, v13, v14, v15, v16, v17, v18, v19, v20, v21])), (h1, .inl (k1, 8277, .inl (fun _ => 0))), (h2, .inl (k2, 66216, .inl (fun _ => 0)))] := hD
  refine lv_iinc (v := 38) (lv' := [(3, .int 38), (2, .int 85), (0, .ref h0), (1, .int 0)]) hx hb dX11_keeps_88 hl (k := 0) rfl (by decide +kernel) (by decide) rfl (fun ls hl => ?_)
  refine lv_goto (tgt := 62) hx hb dX11_keeps_91 (by decide) ?_
  refine lv_iload_n hx hb dX11_keeps_62 rfl (lv_at hl 0 rfl) ?_
  refine lv_iload_n hx hb dX11_keeps_63 rfl (lv_at hl 1 rfl) ?_
  refine lv_icmp_ge (tgt := 94) hx hb dX11_keeps_64 (by decide) (fun c9 => absurd c9 (by decide +kernel)) (fun _ => ?_)
  refine lv_aload_n hx hb dX11_keeps_67 rfl (lv_at hl 2 rfl) ?_
  refine va_get (D := D) (ci := 14) (v := .ref h2) (own := RX11) (C := RX11) (T := TX11) (N := 25) hx hb hts hi_X11 hown hK hP 0 rfl rfl 3 (by decide) (hts (.fieldLink RX11 20 "CanalMapsModel" "kept" "[I") (List.mem_of_getElem? (i := 3) (by decide +kernel))) (fun _ h9 => h9) rfl dX11_keeps_68 ?_
  refine lv_sipush (v := 8277) hx hb dX11_keeps_71 (by decide +kernel) ?_
  refine lv_aload_n hx hb dX11_keeps_74 rfl (lv_at hl 2 rfl) ?_
  refine va_get (D := D) (ci := 14) (v := .int 0) (own := RX11) (C := RX11) (T := TX11) (N := 25) hx hb hts hi_X11 hown hK hP 0 rfl rfl 4 (by decide) (hts (.fieldLink RX11 60 "CanalMapsModel" "undos" "I") (List.mem_of_getElem? (i := 1) (by decide +kernel))) (fun _ h9 => h9) rfl dX11_keeps_75 ?_
  refine lv_imul hx hb dX11_keeps_78 ?_
  refine kt_ (v := 0) (by decide +kernel) ?_
  refine lv_iload_n hx hb dX11_keeps_79 rfl (lv_at hl 0 rfl) ?_
  refine lv_iadd hx hb dX11_keeps_80 ?_
  refine kt_ (v := 38) (by decide +kernel) ?_
  refine lv_aload_n hx hb dX11_keeps_81 rfl (lv_at hl 2 rfl) ?_
  refine va_get (D := D) (ci := 14) (v := .ref h1) (own := RX11) (C := RX11) (T := TX11) (N := 25) hx hb hts hi_X11 hown hK hP 0 rfl rfl 1 (by decide) (hts (.fieldLink RX11 13 "CanalMapsModel" "tried" "[I") (List.mem_of_getElem? (i := 4) (by decide +kernel))) (fun _ h9 => h9) rfl dX11_keeps_82 ?_
  refine lv_iload_n hx hb dX11_keeps_85 rfl (lv_at hl 0 rfl) ?_
  refine va_iald hx hb hK hP 1 0 rfl rfl (vin_ (by decide +kernel)) dX11_keeps_86 ?_
  refine kt_ (v := 0) (by decide +kernel) ?_
  refine ka_iast (g := (fun _ => 0)) hx hb hK hP hD hS 2 1 rfl rfl (vin_ (by decide +kernel)) (up_same (by decide +kernel)) dX11_keeps_87 (fun H locs hP hD hS => ?_)
  have hP : va_P D vwCl [(h0, .inr (14, [v0, .ref h1, v1, .ref h2, .int 0, v2, v3, v4, v5, v6, v7, v8, v9, v10, v11, v12, v13, v14, v15, v16, v17, v18, v19, v20, v21])), (h1, .inl (k1, 8277, .inl (fun _ => 0))), (h2, .inl (k2, 66216, .inl (fun _ => 0)))] H := hP
  have hD : va_D A [(h0, .inr (14, [v0, .ref h1, v1, .ref h2, .int 0, v2, v3, v4, v5, v6, v7, v8, v9, v10, v11, v12, v13, v14, v15, v16, v17, v18, v19, v20, v21])), (h1, .inl (k1, 8277, .inl (fun _ => 0))), (h2, .inl (k2, 66216, .inl (fun _ => 0)))] := hD
  refine lv_iinc (v := 39) (lv' := [(3, .int 39), (2, .int 85), (0, .ref h0), (1, .int 0)]) hx hb dX11_keeps_88 hl (k := 0) rfl (by decide +kernel) (by decide) rfl (fun ls hl => ?_)
  refine lv_goto (tgt := 62) hx hb dX11_keeps_91 (by decide) ?_
  refine lv_iload_n hx hb dX11_keeps_62 rfl (lv_at hl 0 rfl) ?_
  refine lv_iload_n hx hb dX11_keeps_63 rfl (lv_at hl 1 rfl) ?_
  refine lv_icmp_ge (tgt := 94) hx hb dX11_keeps_64 (by decide) (fun c9 => absurd c9 (by decide +kernel)) (fun _ => ?_)
  refine lv_aload_n hx hb dX11_keeps_67 rfl (lv_at hl 2 rfl) ?_
  refine va_get (D := D) (ci := 14) (v := .ref h2) (own := RX11) (C := RX11) (T := TX11) (N := 25) hx hb hts hi_X11 hown hK hP 0 rfl rfl 3 (by decide) (hts (.fieldLink RX11 20 "CanalMapsModel" "kept" "[I") (List.mem_of_getElem? (i := 3) (by decide +kernel))) (fun _ h9 => h9) rfl dX11_keeps_68 ?_
  refine lv_sipush (v := 8277) hx hb dX11_keeps_71 (by decide +kernel) ?_
  refine lv_aload_n hx hb dX11_keeps_74 rfl (lv_at hl 2 rfl) ?_
  refine va_get (D := D) (ci := 14) (v := .int 0) (own := RX11) (C := RX11) (T := TX11) (N := 25) hx hb hts hi_X11 hown hK hP 0 rfl rfl 4 (by decide) (hts (.fieldLink RX11 60 "CanalMapsModel" "undos" "I") (List.mem_of_getElem? (i := 1) (by decide +kernel))) (fun _ h9 => h9) rfl dX11_keeps_75 ?_
  refine lv_imul hx hb dX11_keeps_78 ?_
  refine kt_ (v := 0) (by decide +kernel) ?_
  refine lv_iload_n hx hb dX11_keeps_79 rfl (lv_at hl 0 rfl) ?_
  refine lv_iadd hx hb dX11_keeps_80 ?_
  refine kt_ (v := 39) (by decide +kernel) ?_
  refine lv_aload_n hx hb dX11_keeps_81 rfl (lv_at hl 2 rfl) ?_
  refine va_get (D := D) (ci := 14) (v := .ref h1) (own := RX11) (C := RX11) (T := TX11) (N := 25) hx hb hts hi_X11 hown hK hP 0 rfl rfl 1 (by decide) (hts (.fieldLink RX11 13 "CanalMapsModel" "tried" "[I") (List.mem_of_getElem? (i := 4) (by decide +kernel))) (fun _ h9 => h9) rfl dX11_keeps_82 ?_
  refine lv_iload_n hx hb dX11_keeps_85 rfl (lv_at hl 0 rfl) ?_
  refine va_iald hx hb hK hP 1 0 rfl rfl (vin_ (by decide +kernel)) dX11_keeps_86 ?_
  refine kt_ (v := 0) (by decide +kernel) ?_
  refine ka_iast (g := (fun _ => 0)) hx hb hK hP hD hS 2 1 rfl rfl (vin_ (by decide +kernel)) (up_same (by decide +kernel)) dX11_keeps_87 (fun H locs hP hD hS => ?_)
  have hP : va_P D vwCl [(h0, .inr (14, [v0, .ref h1, v1, .ref h2, .int 0, v2, v3, v4, v5, v6, v7, v8, v9, v10, v11, v12, v13, v14, v15, v16, v17, v18, v19, v20, v21])), (h1, .inl (k1, 8277, .inl (fun _ => 0))), (h2, .inl (k2, 66216, .inl (fun _ => 0)))] H := hP
  have hD : va_D A [(h0, .inr (14, [v0, .ref h1, v1, .ref h2, .int 0, v2, v3, v4, v5, v6, v7, v8, v9, v10, v11, v12, v13, v14, v15, v16, v17, v18, v19, v20, v21])), (h1, .inl (k1, 8277, .inl (fun _ => 0))), (h2, .inl (k2, 66216, .inl (fun _ => 0)))] := hD
  refine lv_iinc (v := 40) (lv' := [(3, .int 40), (2, .int 85), (0, .ref h0), (1, .int 0)]) hx hb dX11_keeps_88 hl (k := 0) rfl (by decide +kernel) (by decide) rfl (fun ls hl => ?_)
  refine lv_goto (tgt := 62) hx hb dX11_keeps_91 (by decide) ?_
  refine lv_iload_n hx hb dX11_keeps_62 rfl (lv_at hl 0 rfl) ?_
  refine lv_iload_n hx hb dX11_keeps_63 rfl (lv_at hl 1 rfl) ?_
  refine lv_icmp_ge (tgt := 94) hx hb dX11_keeps_64 (by decide) (fun c9 => absurd c9 (by decide +kernel)) (fun _ => ?_)
  refine lv_aload_n hx hb dX11_keeps_67 rfl (lv_at hl 2 rfl) ?_
  refine va_get (D := D) (ci := 14) (v := .ref h2) (own := RX11) (C := RX11) (T := TX11) (N := 25) hx hb hts hi_X11 hown hK hP 0 rfl rfl 3 (by decide) (hts (.fieldLink RX11 20 "CanalMapsModel" "kept" "[I") (List.mem_of_getElem? (i := 3) (by decide +kernel))) (fun _ h9 => h9) rfl dX11_keeps_68 ?_
  refine lv_sipush (v := 8277) hx hb dX11_keeps_71 (by decide +kernel) ?_
  refine lv_aload_n hx hb dX11_keeps_74 rfl (lv_at hl 2 rfl) ?_
  refine va_get (D := D) (ci := 14) (v := .int 0) (own := RX11) (C := RX11) (T := TX11) (N := 25) hx hb hts hi_X11 hown hK hP 0 rfl rfl 4 (by decide) (hts (.fieldLink RX11 60 "CanalMapsModel" "undos" "I") (List.mem_of_getElem? (i := 1) (by decide +kernel))) (fun _ h9 => h9) rfl dX11_keeps_75 ?_
  refine lv_imul hx hb dX11_keeps_78 ?_
  refine kt_ (v := 0) (by decide +kernel) ?_
  refine lv_iload_n hx hb dX11_keeps_79 rfl (lv_at hl 0 rfl) ?_
  refine lv_iadd hx hb dX11_keeps_80 ?_
  refine kt_ (v := 40) (by decide +kernel) ?_
  refine lv_aload_n hx hb dX11_keeps_81 rfl (lv_at hl 2 rfl) ?_
  refine va_get (D := D) (ci := 14) (v := .ref h1) (own := RX11) (C := RX11) (T := TX11) (N := 25) hx hb hts hi_X11 hown hK hP 0 rfl rfl 1 (by decide) (hts (.fieldLink RX11 13 "CanalMapsModel" "tried" "[I") (List.mem_of_getElem? (i := 4) (by decide +kernel))) (fun _ h9 => h9) rfl dX11_keeps_82 ?_
  refine lv_iload_n hx hb dX11_keeps_85 rfl (lv_at hl 0 rfl) ?_
  refine va_iald hx hb hK hP 1 0 rfl rfl (vin_ (by decide +kernel)) dX11_keeps_86 ?_
  refine kt_ (v := 0) (by decide +kernel) ?_
  refine ka_iast (g := (fun _ => 0)) hx hb hK hP hD hS 2 1 rfl rfl (vin_ (by decide +kernel)) (up_same (by decide +kernel)) dX11_keeps_87 (fun H locs hP hD hS => ?_)
  have hP : va_P D vwCl [(h0, .inr (14, [v0, .ref h1, v1, .ref h2, .int 0, v2, v3, v4, v5, v6, v7, v8, v9, v10, v11, v12, v13, v14, v15, v16, v17, v18, v19, v20, v21])), (h1, .inl (k1, 8277, .inl (fun _ => 0))), (h2, .inl (k2, 66216, .inl (fun _ => 0)))] H := hP
  have hD : va_D A [(h0, .inr (14, [v0, .ref h1, v1, .ref h2, .int 0, v2, v3, v4, v5, v6, v7, v8, v9, v10, v11, v12, v13, v14, v15, v16, v17, v18, v19, v20, v21])), (h1, .inl (k1, 8277, .inl (fun _ => 0))), (h2, .inl (k2, 66216, .inl (fun _ => 0)))] := hD
  refine lv_iinc (v := 41) (lv' := [(3, .int 41), (2, .int 85), (0, .ref h0), (1, .int 0)]) hx hb dX11_keeps_88 hl (k := 0) rfl (by decide +kernel) (by decide) rfl (fun ls hl => ?_)
  refine lv_goto (tgt := 62) hx hb dX11_keeps_91 (by decide) ?_
  refine lv_iload_n hx hb dX11_keeps_62 rfl (lv_at hl 0 rfl) ?_
  refine lv_iload_n hx hb dX11_keeps_63 rfl (lv_at hl 1 rfl) ?_
  refine lv_icmp_ge (tgt := 94) hx hb dX11_keeps_64 (by decide) (fun c9 => absurd c9 (by decide +kernel)) (fun _ => ?_)
  refine lv_aload_n hx hb dX11_keeps_67 rfl (lv_at hl 2 rfl) ?_
  refine va_get (D := D) (ci := 14) (v := .ref h2) (own := RX11) (C := RX11) (T := TX11) (N := 25) hx hb hts hi_X11 hown hK hP 0 rfl rfl 3 (by decide) (hts (.fieldLink RX11 20 "CanalMapsModel" "kept" "[I") (List.mem_of_getElem? (i := 3) (by decide +kernel))) (fun _ h9 => h9) rfl dX11_keeps_68 ?_
  refine lv_sipush (v := 8277) hx hb dX11_keeps_71 (by decide +kernel) ?_
  refine lv_aload_n hx hb dX11_keeps_74 rfl (lv_at hl 2 rfl) ?_
  refine va_get (D := D) (ci := 14) (v := .int 0) (own := RX11) (C := RX11) (T := TX11) (N := 25) hx hb hts hi_X11 hown hK hP 0 rfl rfl 4 (by decide) (hts (.fieldLink RX11 60 "CanalMapsModel" "undos" "I") (List.mem_of_getElem? (i := 1) (by decide +kernel))) (fun _ h9 => h9) rfl dX11_keeps_75 ?_
  refine lv_imul hx hb dX11_keeps_78 ?_
  refine kt_ (v := 0) (by decide +kernel) ?_
  refine lv_iload_n hx hb dX11_keeps_79 rfl (lv_at hl 0 rfl) ?_
  refine lv_iadd hx hb dX11_keeps_80 ?_
  refine kt_ (v := 41) (by decide +kernel) ?_
  refine lv_aload_n hx hb dX11_keeps_81 rfl (lv_at hl 2 rfl) ?_
  refine va_get (D := D) (ci := 14) (v := .ref h1) (own := RX11) (C := RX11) (T := TX11) (N := 25) hx hb hts hi_X11 hown hK hP 0 rfl rfl 1 (by decide) (hts (.fieldLink RX11 13 "CanalMapsModel" "tried" "[I") (List.mem_of_getElem? (i := 4) (by decide +kernel))) (fun _ h9 => h9) rfl dX11_keeps_82 ?_
  refine lv_iload_n hx hb dX11_keeps_85 rfl (lv_at hl 0 rfl) ?_
  refine va_iald hx hb hK hP 1 0 rfl rfl (vin_ (by decide +kernel)) dX11_keeps_86 ?_
  refine kt_ (v := 0) (by decide +kernel) ?_
  refine ka_iast (g := (fun _ => 0)) hx hb hK hP hD hS 2 1 rfl rfl (vin_ (by decide +kernel)) (up_same (by decide +kernel)) dX11_keeps_87 (fun H locs hP hD hS => ?_)
  have hP : va_P D vwCl [(h0, .inr (14, [v0, .ref h1, v1, .ref h2, .int 0, v2, v3, v4, v5, v6, v7, v8, v9, v10, v11, v12, v13, v14, v15, v16, v17, v18, v19, v20, v21])), (h1, .inl (k1, 8277, .inl (fun _ => 0))), (h2, .inl (k2, 66216, .inl (fun _ => 0)))] H := hP
  have hD : va_D A [(h0, .inr (14, [v0, .ref h1, v1, .ref h2, .int 0, v2, v3, v4, v5, v6, v7, v8, v9, v10, v11, v12, v13, v14, v15, v16, v17, v18, v19, v20, v21])), (h1, .inl (k1, 8277, .inl (fun _ => 0))), (h2, .inl (k2, 66216, .inl (fun _ => 0)))] := hD
  refine lv_iinc (v := 42) (lv' := [(3, .int 42), (2, .int 85), (0, .ref h0), (1, .int 0)]) hx hb dX11_keeps_88 hl (k := 0) rfl (by decide +kernel) (by decide) rfl (fun ls hl => ?_)
  refine lv_goto (tgt := 62) hx hb dX11_keeps_91 (by decide) ?_
  refine lv_iload_n hx hb dX11_keeps_62 rfl (lv_at hl 0 rfl) ?_
  refine lv_iload_n hx hb dX11_keeps_63 rfl (lv_at hl 1 rfl) ?_
  refine lv_icmp_ge (tgt := 94) hx hb dX11_keeps_64 (by decide) (fun c9 => absurd c9 (by decide +kernel)) (fun _ => ?_)
  refine lv_aload_n hx hb dX11_keeps_67 rfl (lv_at hl 2 rfl) ?_
  refine va_get (D := D) (ci := 14) (v := .ref h2) (own := RX11) (C := RX11) (T := TX11) (N := 25) hx hb hts hi_X11 hown hK hP 0 rfl rfl 3 (by decide) (hts (.fieldLink RX11 20 "CanalMapsModel" "kept" "[I") (List.mem_of_getElem? (i := 3) (by decide +kernel))) (fun _ h9 => h9) rfl dX11_keeps_68 ?_
  refine lv_sipush (v := 8277) hx hb dX11_keeps_71 (by decide +kernel) ?_
  refine lv_aload_n hx hb dX11_keeps_74 rfl (lv_at hl 2 rfl) ?_
  refine va_get (D := D) (ci := 14) (v := .int 0) (own := RX11) (C := RX11) (T := TX11) (N := 25) hx hb hts hi_X11 hown hK hP 0 rfl rfl 4 (by decide) (hts (.fieldLink RX11 60 "CanalMapsModel" "undos" "I") (List.mem_of_getElem? (i := 1) (by decide +kernel))) (fun _ h9 => h9) rfl dX11_keeps_75 ?_
  refine lv_imul hx hb dX11_keeps_78 ?_
  refine kt_ (v := 0) (by decide +kernel) ?_
  refine lv_iload_n hx hb dX11_keeps_79 rfl (lv_at hl 0 rfl) ?_
  refine lv_iadd hx hb dX11_keeps_80 ?_
  refine kt_ (v := 42) (by decide +kernel) ?_
  refine lv_aload_n hx hb dX11_keeps_81 rfl (lv_at hl 2 rfl) ?_
  refine va_get (D := D) (ci := 14) (v := .ref h1) (own := RX11) (C := RX11) (T := TX11) (N := 25) hx hb hts hi_X11 hown hK hP 0 rfl rfl 1 (by decide) (hts (.fieldLink RX11 13 "CanalMapsModel" "tried" "[I") (List.mem_of_getElem? (i := 4) (by decide +kernel))) (fun _ h9 => h9) rfl dX11_keeps_82 ?_
  refine lv_iload_n hx hb dX11_keeps_85 rfl (lv_at hl 0 rfl) ?_
  refine va_iald hx hb hK hP 1 0 rfl rfl (vin_ (by decide +kernel)) dX11_keeps_86 ?_
  refine kt_ (v := 0) (by decide +kernel) ?_
  refine ka_iast (g := (fun _ => 0)) hx hb hK hP hD hS 2 1 rfl rfl (vin_ (by decide +kernel)) (up_same (by decide +kernel)) dX11_keeps_87 (fun H locs hP hD hS => ?_)
  have hP : va_P D vwCl [(h0, .inr (14, [v0, .ref h1, v1, .ref h2, .int 0, v2, v3, v4, v5, v6, v7, v8, v9, v10, v11, v12, v13, v14, v15, v16, v17, v18, v19, v20, v21])), (h1, .inl (k1, 8277, .inl (fun _ => 0))), (h2, .inl (k2, 66216, .inl (fun _ => 0)))] H := hP
  have hD : va_D A [(h0, .inr (14, [v0, .ref h1, v1, .ref h2, .int 0, v2, v3, v4, v5, v6, v7, v8, v9, v10, v11, v12, v13, v14, v15, v16, v17, v18, v19, v20, v21])), (h1, .inl (k1, 8277, .inl (fun _ => 0))), (h2, .inl (k2, 66216, .inl (fun _ => 0)))] := hD
  refine lv_iinc (v := 43) (lv' := [(3, .int 43), (2, .int 85), (0, .ref h0), (1, .int 0)]) hx hb dX11_keeps_88 hl (k := 0) rfl (by decide +kernel) (by decide) rfl (fun ls hl => ?_)
  refine lv_goto (tgt := 62) hx hb dX11_keeps_91 (by decide) ?_
  refine lv_iload_n hx hb dX11_keeps_62 rfl (lv_at hl 0 rfl) ?_
  refine lv_iload_n hx hb dX11_keeps_63 rfl (lv_at hl 1 rfl) ?_
  refine lv_icmp_ge (tgt := 94) hx hb dX11_keeps_64 (by decide) (fun c9 => absurd c9 (by decide +kernel)) (fun _ => ?_)
  refine lv_aload_n hx hb dX11_keeps_67 rfl (lv_at hl 2 rfl) ?_
  refine va_get (D := D) (ci := 14) (v := .ref h2) (own := RX11) (C := RX11) (T := TX11) (N := 25) hx hb hts hi_X11 hown hK hP 0 rfl rfl 3 (by decide) (hts (.fieldLink RX11 20 "CanalMapsModel" "kept" "[I") (List.mem_of_getElem? (i := 3) (by decide +kernel))) (fun _ h9 => h9) rfl dX11_keeps_68 ?_
  refine lv_sipush (v := 8277) hx hb dX11_keeps_71 (by decide +kernel) ?_
  refine lv_aload_n hx hb dX11_keeps_74 rfl (lv_at hl 2 rfl) ?_
  refine va_get (D := D) (ci := 14) (v := .int 0) (own := RX11) (C := RX11) (T := TX11) (N := 25) hx hb hts hi_X11 hown hK hP 0 rfl rfl 4 (by decide) (hts (.fieldLink RX11 60 "CanalMapsModel" "undos" "I") (List.mem_of_getElem? (i := 1) (by decide +kernel))) (fun _ h9 => h9) rfl dX11_keeps_75 ?_
  refine lv_imul hx hb dX11_keeps_78 ?_
  refine kt_ (v := 0) (by decide +kernel) ?_
  refine lv_iload_n hx hb dX11_keeps_79 rfl (lv_at hl 0 rfl) ?_
  refine lv_iadd hx hb dX11_keeps_80 ?_
  refine kt_ (v := 43) (by decide +kernel) ?_
  refine lv_aload_n hx hb dX11_keeps_81 rfl (lv_at hl 2 rfl) ?_
  refine va_get (D := D) (ci := 14) (v := .ref h1) (own := RX11) (C := RX11) (T := TX11) (N := 25) hx hb hts hi_X11 hown hK hP 0 rfl rfl 1 (by decide) (hts (.fieldLink RX11 13 "CanalMapsModel" "tried" "[I") (List.mem_of_getElem? (i := 4) (by decide +kernel))) (fun _ h9 => h9) rfl dX11_keeps_82 ?_
  refine lv_iload_n hx hb dX11_keeps_85 rfl (lv_at hl 0 rfl) ?_
  refine va_iald hx hb hK hP 1 0 rfl rfl (vin_ (by decide +kernel)) dX11_keeps_86 ?_
  refine kt_ (v := 0) (by decide +kernel) ?_
  refine ka_iast (g := (fun _ => 0)) hx hb hK hP hD hS 2 1 rfl rfl (vin_ (by decide +kernel)) (up_same (by decide +kernel)) dX11_keeps_87 (fun H locs hP hD hS => ?_)
  have hP : va_P D vwCl [(h0, .inr (14, [v0, .ref h1, v1, .ref h2, .int 0, v2, v3, v4, v5, v6, v7, v8, v9, v10, v11, v12, v13, v14, v15, v16, v17, v18, v19, v20, v21])), (h1, .inl (k1, 8277, .inl (fun _ => 0))), (h2, .inl (k2, 66216, .inl (fun _ => 0)))] H := hP
  have hD : va_D A [(h0, .inr (14, [v0, .ref h1, v1, .ref h2, .int 0, v2, v3, v4, v5, v6, v7, v8, v9, v10, v11, v12, v13, v14, v15, v16, v17, v18, v19, v20, v21])), (h1, .inl (k1, 8277, .inl (fun _ => 0))), (h2, .inl (k2, 66216, .inl (fun _ => 0)))] := hD
  refine lv_iinc (v := 44) (lv' := [(3, .int 44), (2, .int 85), (0, .ref h0), (1, .int 0)]) hx hb dX11_keeps_88 hl (k := 0) rfl (by decide +kernel) (by decide) rfl (fun ls hl => ?_)
  refine lv_goto (tgt := 62) hx hb dX11_keeps_91 (by decide) ?_
  refine lv_iload_n hx hb dX11_keeps_62 rfl (lv_at hl 0 rfl) ?_
  refine lv_iload_n hx hb dX11_keeps_63 rfl (lv_at hl 1 rfl) ?_
  refine lv_icmp_ge (tgt := 94) hx hb dX11_keeps_64 (by decide) (fun c9 => absurd c9 (by decide +kernel)) (fun _ => ?_)
  refine lv_aload_n hx hb dX11_keeps_67 rfl (lv_at hl 2 rfl) ?_
  refine va_get (D := D) (ci := 14) (v := .ref h2) (own := RX11) (C := RX11) (T := TX11) (N := 25) hx hb hts hi_X11 hown hK hP 0 rfl rfl 3 (by decide) (hts (.fieldLink RX11 20 "CanalMapsModel" "kept" "[I") (List.mem_of_getElem? (i := 3) (by decide +kernel))) (fun _ h9 => h9) rfl dX11_keeps_68 ?_
  refine lv_sipush (v := 8277) hx hb dX11_keeps_71 (by decide +kernel) ?_
  refine lv_aload_n hx hb dX11_keeps_74 rfl (lv_at hl 2 rfl) ?_
  refine va_get (D := D) (ci := 14) (v := .int 0) (own := RX11) (C := RX11) (T := TX11) (N := 25) hx hb hts hi_X11 hown hK hP 0 rfl rfl 4 (by decide) (hts (.fieldLink RX11 60 "CanalMapsModel" "undos" "I") (List.mem_of_getElem? (i := 1) (by decide +kernel))) (fun _ h9 => h9) rfl dX11_keeps_75 ?_
  refine lv_imul hx hb dX11_keeps_78 ?_
  refine kt_ (v := 0) (by decide +kernel) ?_
  refine lv_iload_n hx hb dX11_keeps_79 rfl (lv_at hl 0 rfl) ?_
  refine lv_iadd hx hb dX11_keeps_80 ?_
  refine kt_ (v := 44) (by decide +kernel) ?_
  refine lv_aload_n hx hb dX11_keeps_81 rfl (lv_at hl 2 rfl) ?_
  refine va_get (D := D) (ci := 14) (v := .ref h1) (own := RX11) (C := RX11) (T := TX11) (N := 25) hx hb hts hi_X11 hown hK hP 0 rfl rfl 1 (by decide) (hts (.fieldLink RX11 13 "CanalMapsModel" "tried" "[I") (List.mem_of_getElem? (i := 4) (by decide +kernel))) (fun _ h9 => h9) rfl dX11_keeps_82 ?_
  refine lv_iload_n hx hb dX11_keeps_85 rfl (lv_at hl 0 rfl) ?_
  refine va_iald hx hb hK hP 1 0 rfl rfl (vin_ (by decide +kernel)) dX11_keeps_86 ?_
  refine kt_ (v := 0) (by decide +kernel) ?_
  refine ka_iast (g := (fun _ => 0)) hx hb hK hP hD hS 2 1 rfl rfl (vin_ (by decide +kernel)) (up_same (by decide +kernel)) dX11_keeps_87 (fun H locs hP hD hS => ?_)
  have hP : va_P D vwCl [(h0, .inr (14, [v0, .ref h1, v1, .ref h2, .int 0, v2, v3, v4, v5, v6, v7, v8, v9, v10, v11, v12, v13, v14, v15, v16, v17, v18, v19, v20, v21])), (h1, .inl (k1, 8277, .inl (fun _ => 0))), (h2, .inl (k2, 66216, .inl (fun _ => 0)))] H := hP
  have hD : va_D A [(h0, .inr (14, [v0, .ref h1, v1, .ref h2, .int 0, v2, v3, v4, v5, v6, v7, v8, v9, v10, v11, v12, v13, v14, v15, v16, v17, v18, v19, v20, v21])), (h1, .inl (k1, 8277, .inl (fun _ => 0))), (h2, .inl (k2, 66216, .inl (fun _ => 0)))] := hD
  refine lv_iinc (v := 45) (lv' := [(3, .int 45), (2, .int 85), (0, .ref h0), (1, .int 0)]) hx hb dX11_keeps_88 hl (k := 0) rfl (by decide +kernel) (by decide) rfl (fun ls hl => ?_)
  refine lv_goto (tgt := 62) hx hb dX11_keeps_91 (by decide) ?_
  refine lv_iload_n hx hb dX11_keeps_62 rfl (lv_at hl 0 rfl) ?_
  refine lv_iload_n hx hb dX11_keeps_63 rfl (lv_at hl 1 rfl) ?_
  refine lv_icmp_ge (tgt := 94) hx hb dX11_keeps_64 (by decide) (fun c9 => absurd c9 (by decide +kernel)) (fun _ => ?_)
  refine lv_aload_n hx hb dX11_keeps_67 rfl (lv_at hl 2 rfl) ?_
  refine va_get (D := D) (ci := 14) (v := .ref h2) (own := RX11) (C := RX11) (T := TX11) (N := 25) hx hb hts hi_X11 hown hK hP 0 rfl rfl 3 (by decide) (hts (.fieldLink RX11 20 "CanalMapsModel" "kept" "[I") (List.mem_of_getElem? (i := 3) (by decide +kernel))) (fun _ h9 => h9) rfl dX11_keeps_68 ?_
  refine lv_sipush (v := 8277) hx hb dX11_keeps_71 (by decide +kernel) ?_
  refine lv_aload_n hx hb dX11_keeps_74 rfl (lv_at hl 2 rfl) ?_
  refine va_get (D := D) (ci := 14) (v := .int 0) (own := RX11) (C := RX11) (T := TX11) (N := 25) hx hb hts hi_X11 hown hK hP 0 rfl rfl 4 (by decide) (hts (.fieldLink RX11 60 "CanalMapsModel" "undos" "I") (List.mem_of_getElem? (i := 1) (by decide +kernel))) (fun _ h9 => h9) rfl dX11_keeps_75 ?_
  refine lv_imul hx hb dX11_keeps_78 ?_
  refine kt_ (v := 0) (by decide +kernel) ?_
  refine lv_iload_n hx hb dX11_keeps_79 rfl (lv_at hl 0 rfl) ?_
  refine lv_iadd hx hb dX11_keeps_80 ?_
  refine kt_ (v := 45) (by decide +kernel) ?_
  refine lv_aload_n hx hb dX11_keeps_81 rfl (lv_at hl 2 rfl) ?_
  refine va_get (D := D) (ci := 14) (v := .ref h1) (own := RX11) (C := RX11) (T := TX11) (N := 25) hx hb hts hi_X11 hown hK hP 0 rfl rfl 1 (by decide) (hts (.fieldLink RX11 13 "CanalMapsModel" "tried" "[I") (List.mem_of_getElem? (i := 4) (by decide +kernel))) (fun _ h9 => h9) rfl dX11_keeps_82 ?_
  refine lv_iload_n hx hb dX11_keeps_85 rfl (lv_at hl 0 rfl) ?_
  refine va_iald hx hb hK hP 1 0 rfl rfl (vin_ (by decide +kernel)) dX11_keeps_86 ?_
  refine kt_ (v := 0) (by decide +kernel) ?_
  refine ka_iast (g := (fun _ => 0)) hx hb hK hP hD hS 2 1 rfl rfl (vin_ (by decide +kernel)) (up_same (by decide +kernel)) dX11_keeps_87 (fun H locs hP hD hS => ?_)
  have hP : va_P D vwCl [(h0, .inr (14, [v0, .ref h1, v1, .ref h2, .int 0, v2, v3, v4, v5, v6, v7, v8, v9, v10, v11, v12, v13, v14, v15, v16, v17, v18, v19, v20, v21])), (h1, .inl (k1, 8277, .inl (fun _ => 0))), (h2, .inl (k2, 66216, .inl (fun _ => 0)))] H := hP
  have hD : va_D A [(h0, .inr (14, [v0, .ref h1, v1, .ref h2, .int 0, v2, v3, v4, v5, v6, v7, v8, v9, v10, v11, v12, v13, v14, v15, v16, v17, v18, v19, v20, v21])), (h1, .inl (k1, 8277, .inl (fun _ => 0))), (h2, .inl (k2, 66216, .inl (fun _ => 0)))] := hD
  refine lv_iinc (v := 46) (lv' := [(3, .int 46), (2, .int 85), (0, .ref h0), (1, .int 0)]) hx hb dX11_keeps_88 hl (k := 0) rfl (by decide +kernel) (by decide) rfl (fun ls hl => ?_)
  refine lv_goto (tgt := 62) hx hb dX11_keeps_91 (by decide) ?_
  refine lv_iload_n hx hb dX11_keeps_62 rfl (lv_at hl 0 rfl) ?_
  refine lv_iload_n hx hb dX11_keeps_63 rfl (lv_at hl 1 rfl) ?_
  refine lv_icmp_ge (tgt := 94) hx hb dX11_keeps_64 (by decide) (fun c9 => absurd c9 (by decide +kernel)) (fun _ => ?_)
  refine lv_aload_n hx hb dX11_keeps_67 rfl (lv_at hl 2 rfl) ?_
  refine va_get (D := D) (ci := 14) (v := .ref h2) (own := RX11) (C := RX11) (T := TX11) (N := 25) hx hb hts hi_X11 hown hK hP 0 rfl rfl 3 (by decide) (hts (.fieldLink RX11 20 "CanalMapsModel" "kept" "[I") (List.mem_of_getElem? (i := 3) (by decide +kernel))) (fun _ h9 => h9) rfl dX11_keeps_68 ?_
  refine lv_sipush (v := 8277) hx hb dX11_keeps_71 (by decide +kernel) ?_
  refine lv_aload_n hx hb dX11_keeps_74 rfl (lv_at hl 2 rfl) ?_
  refine va_get (D := D) (ci := 14) (v := .int 0) (own := RX11) (C := RX11) (T := TX11) (N := 25) hx hb hts hi_X11 hown hK hP 0 rfl rfl 4 (by decide) (hts (.fieldLink RX11 60 "CanalMapsModel" "undos" "I") (List.mem_of_getElem? (i := 1) (by decide +kernel))) (fun _ h9 => h9) rfl dX11_keeps_75 ?_
  refine lv_imul hx hb dX11_keeps_78 ?_
  refine kt_ (v := 0) (by decide +kernel) ?_
  refine lv_iload_n hx hb dX11_keeps_79 rfl (lv_at hl 0 rfl) ?_
  refine lv_iadd hx hb dX11_keeps_80 ?_
  refine kt_ (v := 46) (by decide +kernel) ?_
  refine lv_aload_n hx hb dX11_keeps_81 rfl (lv_at hl 2 rfl) ?_
  refine va_get (D := D) (ci := 14) (v := .ref h1) (own := RX11) (C := RX11) (T := TX11) (N := 25) hx hb hts hi_X11 hown hK hP 0 rfl rfl 1 (by decide) (hts (.fieldLink RX11 13 "CanalMapsModel" "tried" "[I") (List.mem_of_getElem? (i := 4) (by decide +kernel))) (fun _ h9 => h9) rfl dX11_keeps_82 ?_
  refine lv_iload_n hx hb dX11_keeps_85 rfl (lv_at hl 0 rfl) ?_
  refine va_iald hx hb hK hP 1 0 rfl rfl (vin_ (by decide +kernel)) dX11_keeps_86 ?_
  refine kt_ (v := 0) (by decide +kernel) ?_
  refine ka_iast (g := (fun _ => 0)) hx hb hK hP hD hS 2 1 rfl rfl (vin_ (by decide +kernel)) (up_same (by decide +kernel)) dX11_keeps_87 (fun H locs hP hD hS => ?_)
  have hP : va_P D vwCl [(h0, .inr (14, [v0, .ref h1, v1, .ref h2, .int 0, v2, v3, v4, v5, v6, v7, v8, v9, v10, v11, v12, v13, v14, v15, v16, v17, v18, v19, v20, v21])), (h1, .inl (k1, 8277, .inl (fun _ => 0))), (h2, .inl (k2, 66216, .inl (fun _ => 0)))] H := hP
  have hD : va_D A [(h0, .inr (14, [v0, .ref h1, v1, .ref h2, .int 0, v2, v3, v4, v5, v6, v7, v8, v9, v10, v11, v12, v13, v14, v15, v16, v17, v18, v19, v20, v21])), (h1, .inl (k1, 8277, .inl (fun _ => 0))), (h2, .inl (k2, 66216, .inl (fun _ => 0)))] := hD
  refine lv_iinc (v := 47) (lv' := [(3, .int 47), (2, .int 85), (0, .ref h0), (1, .int 0)]) hx hb dX11_keeps_88 hl (k := 0) rfl (by decide +kernel) (by decide) rfl (fun ls hl => ?_)
  refine lv_goto (tgt := 62) hx hb dX11_keeps_91 (by decide) ?_
  refine lv_iload_n hx hb dX11_keeps_62 rfl (lv_at hl 0 rfl) ?_
  refine lv_iload_n hx hb dX11_keeps_63 rfl (lv_at hl 1 rfl) ?_
  refine lv_icmp_ge (tgt := 94) hx hb dX11_keeps_64 (by decide) (fun c9 => absurd c9 (by decide +kernel)) (fun _ => ?_)
  refine lv_aload_n hx hb dX11_keeps_67 rfl (lv_at hl 2 rfl) ?_
  refine va_get (D := D) (ci := 14) (v := .ref h2) (own := RX11) (C := RX11) (T := TX11) (N := 25) hx hb hts hi_X11 hown hK hP 0 rfl rfl 3 (by decide) (hts (.fieldLink RX11 20 "CanalMapsModel" "kept" "[I") (List.mem_of_getElem? (i := 3) (by decide +kernel))) (fun _ h9 => h9) rfl dX11_keeps_68 ?_
  refine lv_sipush (v := 8277) hx hb dX11_keeps_71 (by decide +kernel) ?_
  refine lv_aload_n hx hb dX11_keeps_74 rfl (lv_at hl 2 rfl) ?_
  refine va_get (D := D) (ci := 14) (v := .int 0) (own := RX11) (C := RX11) (T := TX11) (N := 25) hx hb hts hi_X11 hown hK hP 0 rfl rfl 4 (by decide) (hts (.fieldLink RX11 60 "CanalMapsModel" "undos" "I") (List.mem_of_getElem? (i := 1) (by decide +kernel))) (fun _ h9 => h9) rfl dX11_keeps_75 ?_
  refine lv_imul hx hb dX11_keeps_78 ?_
  refine kt_ (v := 0) (by decide +kernel) ?_
  refine lv_iload_n hx hb dX11_keeps_79 rfl (lv_at hl 0 rfl) ?_
  refine lv_iadd hx hb dX11_keeps_80 ?_
  refine kt_ (v := 47) (by decide +kernel) ?_
  refine lv_aload_n hx hb dX11_keeps_81 rfl (lv_at hl 2 rfl) ?_
  refine va_get (D := D) (ci := 14) (v := .ref h1) (own := RX11) (C := RX11) (T := TX11) (N := 25) hx hb hts hi_X11 hown hK hP 0 rfl rfl 1 (by decide) (hts (.fieldLink RX11 13 "CanalMapsModel" "tried" "[I") (List.mem_of_getElem? (i := 4) (by decide +kernel))) (fun _ h9 => h9) rfl dX11_keeps_82 ?_
  refine lv_iload_n hx hb dX11_keeps_85 rfl (lv_at hl 0 rfl) ?_
  refine va_iald hx hb hK hP 1 0 rfl rfl (vin_ (by decide +kernel)) dX11_keeps_86 ?_
  refine kt_ (v := 0) (by decide +kernel) ?_
  refine ka_iast (g := (fun _ => 0)) hx hb hK hP hD hS 2 1 rfl rfl (vin_ (by decide +kernel)) (up_same (by decide +kernel)) dX11_keeps_87 (fun H locs hP hD hS => ?_)
  have hP : va_P D vwCl [(h0, .inr (14, [v0, .ref h1, v1, .ref h2, .int 0, v2, v3, v4, v5, v6, v7, v8, v9, v10, v11, v12, v13, v14, v15, v16, v17, v18, v19, v20, v21])), (h1, .inl (k1, 8277, .inl (fun _ => 0))), (h2, .inl (k2, 66216, .inl (fun _ => 0)))] H := hP
  have hD : va_D A [(h0, .inr (14, [v0, .ref h1, v1, .ref h2, .int 0, v2, v3, v4, v5, v6, v7, v8, v9, v10, v11, v12, v13, v14, v15, v16, v17, v18, v19, v20, v21])), (h1, .inl (k1, 8277, .inl (fun _ => 0))), (h2, .inl (k2, 66216, .inl (fun _ => 0)))] := hD
  refine lv_iinc (v := 48) (lv' := [(3, .int 48), (2, .int 85), (0, .ref h0), (1, .int 0)]) hx hb dX11_keeps_88 hl (k := 0) rfl (by decide +kernel) (by decide) rfl (fun ls hl => ?_)
  refine lv_goto (tgt := 62) hx hb dX11_keeps_91 (by decide) ?_
  refine lv_iload_n hx hb dX11_keeps_62 rfl (lv_at hl 0 rfl) ?_
  refine lv_iload_n hx hb dX11_keeps_63 rfl (lv_at hl 1 rfl) ?_
  refine lv_icmp_ge (tgt := 94) hx hb dX11_keeps_64 (by decide) (fun c9 => absurd c9 (by decide +kernel)) (fun _ => ?_)
  refine lv_aload_n hx hb dX11_keeps_67 rfl (lv_at hl 2 rfl) ?_
  refine va_get (D := D) (ci := 14) (v := .ref h2) (own := RX11) (C := RX11) (T := TX11) (N := 25) hx hb hts hi_X11 hown hK hP 0 rfl rfl 3 (by decide) (hts (.fieldLink RX11 20 "CanalMapsModel" "kept" "[I") (List.mem_of_getElem? (i := 3) (by decide +kernel))) (fun _ h9 => h9) rfl dX11_keeps_68 ?_
  refine lv_sipush (v := 8277) hx hb dX11_keeps_71 (by decide +kernel) ?_
  refine lv_aload_n hx hb dX11_keeps_74 rfl (lv_at hl 2 rfl) ?_
  refine va_get (D := D) (ci := 14) (v := .int 0) (own := RX11) (C := RX11) (T := TX11) (N := 25) hx hb hts hi_X11 hown hK hP 0 rfl rfl 4 (by decide) (hts (.fieldLink RX11 60 "CanalMapsModel" "undos" "I") (List.mem_of_getElem? (i := 1) (by decide +kernel))) (fun _ h9 => h9) rfl dX11_keeps_75 ?_
  refine lv_imul hx hb dX11_keeps_78 ?_
  refine kt_ (v := 0) (by decide +kernel) ?_
  refine lv_iload_n hx hb dX11_keeps_79 rfl (lv_at hl 0 rfl) ?_
  refine lv_iadd hx hb dX11_keeps_80 ?_
  refine kt_ (v := 48) (by decide +kernel) ?_
  refine lv_aload_n hx hb dX11_keeps_81 rfl (lv_at hl 2 rfl) ?_
  refine va_get (D := D) (ci := 14) (v := .ref h1) (own := RX11) (C := RX11) (T := TX11) (N := 25) hx hb hts hi_X11 hown hK hP 0 rfl rfl 1 (by decide) (hts (.fieldLink RX11 13 "CanalMapsModel" "tried" "[I") (List.mem_of_getElem? (i := 4) (by decide +kernel))) (fun _ h9 => h9) rfl dX11_keeps_82 ?_
  refine lv_iload_n hx hb dX11_keeps_85 rfl (lv_at hl 0 rfl) ?_
  refine va_iald hx hb hK hP 1 0 rfl rfl (vin_ (by decide +kernel)) dX11_keeps_86 ?_
  refine kt_ (v := 0) (by decide +kernel) ?_
  refine ka_iast (g := (fun _ => 0)) hx hb hK hP hD hS 2 1 rfl rfl (vin_ (by decide +kernel)) (up_same (by decide +kernel)) dX11_keeps_87 (fun H locs hP hD hS => ?_)
  have hP : va_P D vwCl [(h0, .inr (14, [v0, .ref h1, v1, .ref h2, .int 0, v2, v3, v4, v5, v6, v7, v8, v9, v10, v11, v12, v13, v14, v15, v16, v17, v18, v19, v20, v21])), (h1, .inl (k1, 8277, .inl (fun _ => 0))), (h2, .inl (k2, 66216, .inl (fun _ => 0)))] H := hP
  have hD : va_D A [(h0, .inr (14, [v0, .ref h1, v1, .ref h2, .int 0, v2, v3, v4, v5, v6, v7, v8, v9, v10, v11, v12, v13, v14, v15, v16, v17, v18, v19, v20, v21])), (h1, .inl (k1, 8277, .inl (fun _ => 0))), (h2, .inl (k2, 66216, .inl (fun _ => 0)))] := hD
  refine lv_iinc (v := 49) (lv' := [(3, .int 49), (2, .int 85), (0, .ref h0), (1, .int 0)]) hx hb dX11_keeps_88 hl (k := 0) rfl (by decide +kernel) (by decide) rfl (fun ls hl => ?_)
  refine lv_goto (tgt := 62) hx hb dX11_keeps_91 (by decide) ?_
  refine lv_iload_n hx hb dX11_keeps_62 rfl (lv_at hl 0 rfl) ?_
  refine lv_iload_n hx hb dX11_keeps_63 rfl (lv_at hl 1 rfl) ?_
  refine lv_icmp_ge (tgt := 94) hx hb dX11_keeps_64 (by decide) (fun c9 => absurd c9 (by decide +kernel)) (fun _ => ?_)
  refine lv_aload_n hx hb dX11_keeps_67 rfl (lv_at hl 2 rfl) ?_
  refine va_get (D := D) (ci := 14) (v := .ref h2) (own := RX11) (C := RX11) (T := TX11) (N := 25) hx hb hts hi_X11 hown hK hP 0 rfl rfl 3 (by decide) (hts (.fieldLink RX11 20 "CanalMapsModel" "kept" "[I") (List.mem_of_getElem? (i := 3) (by decide +kernel))) (fun _ h9 => h9) rfl dX11_keeps_68 ?_
  refine lv_sipush (v := 8277) hx hb dX11_keeps_71 (by decide +kernel) ?_
  refine lv_aload_n hx hb dX11_keeps_74 rfl (lv_at hl 2 rfl) ?_
  refine va_get (D := D) (ci := 14) (v := .int 0) (own := RX11) (C := RX11) (T := TX11) (N := 25) hx hb hts hi_X11 hown hK hP 0 rfl rfl 4 (by decide) (hts (.fieldLink RX11 60 "CanalMapsModel" "undos" "I") (List.mem_of_getElem? (i := 1) (by decide +kernel))) (fun _ h9 => h9) rfl dX11_keeps_75 ?_
  refine lv_imul hx hb dX11_keeps_78 ?_
  refine kt_ (v := 0) (by decide +kernel) ?_
  refine lv_iload_n hx hb dX11_keeps_79 rfl (lv_at hl 0 rfl) ?_
  refine lv_iadd hx hb dX11_keeps_80 ?_
  refine kt_ (v := 49) (by decide +kernel) ?_
  refine lv_aload_n hx hb dX11_keeps_81 rfl (lv_at hl 2 rfl) ?_
  refine va_get (D := D) (ci := 14) (v := .ref h1) (own := RX11) (C := RX11) (T := TX11) (N := 25) hx hb hts hi_X11 hown hK hP 0 rfl rfl 1 (by decide) (hts (.fieldLink RX11 13 "CanalMapsModel" "tried" "[I") (List.mem_of_getElem? (i := 4) (by decide +kernel))) (fun _ h9 => h9) rfl dX11_keeps_82 ?_
  refine lv_iload_n hx hb dX11_keeps_85 rfl (lv_at hl 0 rfl) ?_
  refine va_iald hx hb hK hP 1 0 rfl rfl (vin_ (by decide +kernel)) dX11_keeps_86 ?_
  refine kt_ (v := 0) (by decide +kernel) ?_
  refine ka_iast (g := (fun _ => 0)) hx hb hK hP hD hS 2 1 rfl rfl (vin_ (by decide +kernel)) (up_same (by decide +kernel)) dX11_keeps_87 (fun H locs hP hD hS => ?_)
  have hP : va_P D vwCl [(h0, .inr (14, [v0, .ref h1, v1, .ref h2, .int 0, v2, v3, v4, v5, v6, v7, v8, v9, v10, v11, v12, v13, v14, v15, v16, v17, v18, v19, v20, v21])), (h1, .inl (k1, 8277, .inl (fun _ => 0))), (h2, .inl (k2, 66216, .inl (fun _ => 0)))] H := hP
  have hD : va_D A [(h0, .inr (14, [v0, .ref h1, v1, .ref h2, .int 0, v2, v3, v4, v5, v6, v7, v8, v9, v10, v11, v12, v13, v14, v15, v16, v17, v18, v19, v20, v21])), (h1, .inl (k1, 8277, .inl (fun _ => 0))), (h2, .inl (k2, 66216, .inl (fun _ => 0)))] := hD
  refine lv_iinc (v := 50) (lv' := [(3, .int 50), (2, .int 85), (0, .ref h0), (1, .int 0)]) hx hb dX11_keeps_88 hl (k := 0) rfl (by decide +kernel) (by decide) rfl (fun ls hl => ?_)
  refine lv_goto (tgt := 62) hx hb dX11_keeps_91 (by decide) ?_
  refine lv_iload_n hx hb dX11_keeps_62 rfl (lv_at hl 0 rfl) ?_
  refine lv_iload_n hx hb dX11_keeps_63 rfl (lv_at hl 1 rfl) ?_
  refine lv_icmp_ge (tgt := 94) hx hb dX11_keeps_64 (by decide) (fun c9 => absurd c9 (by decide +kernel)) (fun _ => ?_)
  refine lv_aload_n hx hb dX11_keeps_67 rfl (lv_at hl 2 rfl) ?_
  refine va_get (D := D) (ci := 14) (v := .ref h2) (own := RX11) (C := RX11) (T := TX11) (N := 25) hx hb hts hi_X11 hown hK hP 0 rfl rfl 3 (by decide) (hts (.fieldLink RX11 20 "CanalMapsModel" "kept" "[I") (List.mem_of_getElem? (i := 3) (by decide +kernel))) (fun _ h9 => h9) rfl dX11_keeps_68 ?_
  refine lv_sipush (v := 8277) hx hb dX11_keeps_71 (by decide +kernel) ?_
  refine lv_aload_n hx hb dX11_keeps_74 rfl (lv_at hl 2 rfl) ?_
  refine va_get (D := D) (ci := 14) (v := .int 0) (own := RX11) (C := RX11) (T := TX11) (N := 25) hx hb hts hi_X11 hown hK hP 0 rfl rfl 4 (by decide) (hts (.fieldLink RX11 60 "CanalMapsModel" "undos" "I") (List.mem_of_getElem? (i := 1) (by decide +kernel))) (fun _ h9 => h9) rfl dX11_keeps_75 ?_
  refine lv_imul hx hb dX11_keeps_78 ?_
  refine kt_ (v := 0) (by decide +kernel) ?_
  refine lv_iload_n hx hb dX11_keeps_79 rfl (lv_at hl 0 rfl) ?_
  refine lv_iadd hx hb dX11_keeps_80 ?_
  refine kt_ (v := 50) (by decide +kernel) ?_
  refine lv_aload_n hx hb dX11_keeps_81 rfl (lv_at hl 2 rfl) ?_
  refine va_get (D := D) (ci := 14) (v := .ref h1) (own := RX11) (C := RX11) (T := TX11) (N := 25) hx hb hts hi_X11 hown hK hP 0 rfl rfl 1 (by decide) (hts (.fieldLink RX11 13 "CanalMapsModel" "tried" "[I") (List.mem_of_getElem? (i := 4) (by decide +kernel))) (fun _ h9 => h9) rfl dX11_keeps_82 ?_
  refine lv_iload_n hx hb dX11_keeps_85 rfl (lv_at hl 0 rfl) ?_
  refine va_iald hx hb hK hP 1 0 rfl rfl (vin_ (by decide +kernel)) dX11_keeps_86 ?_
  refine kt_ (v := 0) (by decide +kernel) ?_
  refine ka_iast (g := (fun _ => 0)) hx hb hK hP hD hS 2 1 rfl rfl (vin_ (by decide +kernel)) (up_same (by decide +kernel)) dX11_keeps_87 (fun H locs hP hD hS => ?_)
  have hP : va_P D vwCl [(h0, .inr (14, [v0, .ref h1, v1, .ref h2, .int 0, v2, v3, v4, v5, v6, v7, v8, v9, v10, v11, v12, v13, v14, v15, v16, v17, v18, v19, v20, v21])), (h1, .inl (k1, 8277, .inl (fun _ => 0))), (h2, .inl (k2, 66216, .inl (fun _ => 0)))] H := hP
  have hD : va_D A [(h0, .inr (14, [v0, .ref h1, v1, .ref h2, .int 0, v2, v3, v4, v5, v6, v7, v8, v9, v10, v11, v12, v13, v14, v15, v16, v17, v18, v19, v20, v21])), (h1, .inl (k1, 8277, .inl (fun _ => 0))), (h2, .inl (k2, 66216, .inl (fun _ => 0)))] := hD
  refine lv_iinc (v := 51) (lv' := [(3, .int 51), (2, .int 85), (0, .ref h0), (1, .int 0)]) hx hb dX11_keeps_88 hl (k := 0) rfl (by decide +kernel) (by decide) rfl (fun ls hl => ?_)
  refine lv_goto (tgt := 62) hx hb dX11_keeps_91 (by decide) ?_
  refine lv_iload_n hx hb dX11_keeps_62 rfl (lv_at hl 0 rfl) ?_
  refine lv_iload_n hx hb dX11_keeps_63 rfl (lv_at hl 1 rfl) ?_
  refine lv_icmp_ge (tgt := 94) hx hb dX11_keeps_64 (by decide) (fun c9 => absurd c9 (by decide +kernel)) (fun _ => ?_)
  refine lv_aload_n hx hb dX11_keeps_67 rfl (lv_at hl 2 rfl) ?_
  refine va_get (D := D) (ci := 14) (v := .ref h2) (own := RX11) (C := RX11) (T := TX11) (N := 25) hx hb hts hi_X11 hown hK hP 0 rfl rfl 3 (by decide) (hts (.fieldLink RX11 20 "CanalMapsModel" "kept" "[I") (List.mem_of_getElem? (i := 3) (by decide +kernel))) (fun _ h9 => h9) rfl dX11_keeps_68 ?_
  refine lv_sipush (v := 8277) hx hb dX11_keeps_71 (by decide +kernel) ?_
  refine lv_aload_n hx hb dX11_keeps_74 rfl (lv_at hl 2 rfl) ?_
  refine va_get (D := D) (ci := 14) (v := .int 0) (own := RX11) (C := RX11) (T := TX11) (N := 25) hx hb hts hi_X11 hown hK hP 0 rfl rfl 4 (by decide) (hts (.fieldLink RX11 60 "CanalMapsModel" "undos" "I") (List.mem_of_getElem? (i := 1) (by decide +kernel))) (fun _ h9 => h9) rfl dX11_keeps_75 ?_
  refine lv_imul hx hb dX11_keeps_78 ?_
  refine kt_ (v := 0) (by decide +kernel) ?_
  refine lv_iload_n hx hb dX11_keeps_79 rfl (lv_at hl 0 rfl) ?_
  refine lv_iadd hx hb dX11_keeps_80 ?_
  refine kt_ (v := 51) (by decide +kernel) ?_
  refine lv_aload_n hx hb dX11_keeps_81 rfl (lv_at hl 2 rfl) ?_
  refine va_get (D := D) (ci := 14) (v := .ref h1) (own := RX11) (C := RX11) (T := TX11) (N := 25) hx hb hts hi_X11 hown hK hP 0 rfl rfl 1 (by decide) (hts (.fieldLink RX11 13 "CanalMapsModel" "tried" "[I") (List.mem_of_getElem? (i := 4) (by decide +kernel))) (fun _ h9 => h9) rfl dX11_keeps_82 ?_
  refine lv_iload_n hx hb dX11_keeps_85 rfl (lv_at hl 0 rfl) ?_
  refine va_iald hx hb hK hP 1 0 rfl rfl (vin_ (by decide +kernel)) dX11_keeps_86 ?_
  refine kt_ (v := 0) (by decide +kernel) ?_
  refine ka_iast (g := (fun _ => 0)) hx hb hK hP hD hS 2 1 rfl rfl (vin_ (by decide +kernel)) (up_same (by decide +kernel)) dX11_keeps_87 (fun H locs hP hD hS => ?_)
  have hP : va_P D vwCl [(h0, .inr (14, [v0, .ref h1, v1, .ref h2, .int 0, v2, v3, v4, v5, v6, v7, v8, v9, v10, v11, v12, v13, v14, v15, v16, v17, v18, v19, v20, v21])), (h1, .inl (k1, 8277, .inl (fun _ => 0))), (h2, .inl (k2, 66216, .inl (fun _ => 0)))] H := hP
  have hD : va_D A [(h0, .inr (14, [v0, .ref h1, v1, .ref h2, .int 0, v2, v3, v4, v5, v6, v7, v8, v9, v10, v11, v12, v13, v14, v15, v16, v17, v18, v19, v20, v21])), (h1, .inl (k1, 8277, .inl (fun _ => 0))), (h2, .inl (k2, 66216, .inl (fun _ => 0)))] := hD
  refine lv_iinc (v := 52) (lv' := [(3, .int 52), (2, .int 85), (0, .ref h0), (1, .int 0)]) hx hb dX11_keeps_88 hl (k := 0) rfl (by decide +kernel) (by decide) rfl (fun ls hl => ?_)
  refine lv_goto (tgt := 62) hx hb dX11_keeps_91 (by decide) ?_
  refine lv_iload_n hx hb dX11_keeps_62 rfl (lv_at hl 0 rfl) ?_
  refine lv_iload_n hx hb dX11_keeps_63 rfl (lv_at hl 1 rfl) ?_
  refine lv_icmp_ge (tgt := 94) hx hb dX11_keeps_64 (by decide) (fun c9 => absurd c9 (by decide +kernel)) (fun _ => ?_)
  refine lv_aload_n hx hb dX11_keeps_67 rfl (lv_at hl 2 rfl) ?_
  refine va_get (D := D) (ci := 14) (v := .ref h2) (own := RX11) (C := RX11) (T := TX11) (N := 25) hx hb hts hi_X11 hown hK hP 0 rfl rfl 3 (by decide) (hts (.fieldLink RX11 20 "CanalMapsModel" "kept" "[I") (List.mem_of_getElem? (i := 3) (by decide +kernel))) (fun _ h9 => h9) rfl dX11_keeps_68 ?_
  refine lv_sipush (v := 8277) hx hb dX11_keeps_71 (by decide +kernel) ?_
  refine lv_aload_n hx hb dX11_keeps_74 rfl (lv_at hl 2 rfl) ?_
  refine va_get (D := D) (ci := 14) (v := .int 0) (own := RX11) (C := RX11) (T := TX11) (N := 25) hx hb hts hi_X11 hown hK hP 0 rfl rfl 4 (by decide) (hts (.fieldLink RX11 60 "CanalMapsModel" "undos" "I") (List.mem_of_getElem? (i := 1) (by decide +kernel))) (fun _ h9 => h9) rfl dX11_keeps_75 ?_
  refine lv_imul hx hb dX11_keeps_78 ?_
  refine kt_ (v := 0) (by decide +kernel) ?_
  refine lv_iload_n hx hb dX11_keeps_79 rfl (lv_at hl 0 rfl) ?_
  refine lv_iadd hx hb dX11_keeps_80 ?_
  refine kt_ (v := 52) (by decide +kernel) ?_
  refine lv_aload_n hx hb dX11_keeps_81 rfl (lv_at hl 2 rfl) ?_
  refine va_get (D := D) (ci := 14) (v := .ref h1) (own := RX11) (C := RX11) (T := TX11) (N := 25) hx hb hts hi_X11 hown hK hP 0 rfl rfl 1 (by decide) (hts (.fieldLink RX11 13 "CanalMapsModel" "tried" "[I") (List.mem_of_getElem? (i := 4) (by decide +kernel))) (fun _ h9 => h9) rfl dX11_keeps_82 ?_
  refine lv_iload_n hx hb dX11_keeps_85 rfl (lv_at hl 0 rfl) ?_
  refine va_iald hx hb hK hP 1 0 rfl rfl (vin_ (by decide +kernel)) dX11_keeps_86 ?_
  refine kt_ (v := 0) (by decide +kernel) ?_
  refine ka_iast (g := (fun _ => 0)) hx hb hK hP hD hS 2 1 rfl rfl (vin_ (by decide +kernel)) (up_same (by decide +kernel)) dX11_keeps_87 (fun H locs hP hD hS => ?_)
  have hP : va_P D vwCl [(h0, .inr (14, [v0, .ref h1, v1, .ref h2, .int 0, v2, v3, v4, v5, v6, v7, v8, v9, v10, v11, v12, v13, v14, v15, v16, v17, v18, v19, v20, v21])), (h1, .inl (k1, 8277, .inl (fun _ => 0))), (h2, .inl (k2, 66216, .inl (fun _ => 0)))] H := hP
  have hD : va_D A [(h0, .inr (14, [v0, .ref h1, v1, .ref h2, .int 0, v2, v3, v4, v5, v6, v7, v8, v9, v10, v11, v12, v13, v14, v15, v16, v17, v18, v19, v20, v21])), (h1, .inl (k1, 8277, .inl (fun _ => 0))), (h2, .inl (k2, 66216, .inl (fun _ => 0)))] := hD
  refine lv_iinc (v := 53) (lv' := [(3, .int 53), (2, .int 85), (0, .ref h0), (1, .int 0)]) hx hb dX11_keeps_88 hl (k := 0) rfl (by decide +kernel) (by decide) rfl (fun ls hl => ?_)
  refine lv_goto (tgt := 62) hx hb dX11_keeps_91 (by decide) ?_
  refine lv_iload_n hx hb dX11_keeps_62 rfl (lv_at hl 0 rfl) ?_
  refine lv_iload_n hx hb dX11_keeps_63 rfl (lv_at hl 1 rfl) ?_
  refine lv_icmp_ge (tgt := 94) hx hb dX11_keeps_64 (by decide) (fun c9 => absurd c9 (by decide +kernel)) (fun _ => ?_)
  refine lv_aload_n hx hb dX11_keeps_67 rfl (lv_at hl 2 rfl) ?_
  refine va_get (D := D) (ci := 14) (v := .ref h2) (own := RX11) (C := RX11) (T := TX11) (N := 25) hx hb hts hi_X11 hown hK hP 0 rfl rfl 3 (by decide) (hts (.fieldLink RX11 20 "CanalMapsModel" "kept" "[I") (List.mem_of_getElem? (i := 3) (by decide +kernel))) (fun _ h9 => h9) rfl dX11_keeps_68 ?_
  refine lv_sipush (v := 8277) hx hb dX11_keeps_71 (by decide +kernel) ?_
  refine lv_aload_n hx hb dX11_keeps_74 rfl (lv_at hl 2 rfl) ?_
  refine va_get (D := D) (ci := 14) (v := .int 0) (own := RX11) (C := RX11) (T := TX11) (N := 25) hx hb hts hi_X11 hown hK hP 0 rfl rfl 4 (by decide) (hts (.fieldLink RX11 60 "CanalMapsModel" "undos" "I") (List.mem_of_getElem? (i := 1) (by decide +kernel))) (fun _ h9 => h9) rfl dX11_keeps_75 ?_
  refine lv_imul hx hb dX11_keeps_78 ?_
  refine kt_ (v := 0) (by decide +kernel) ?_
  refine lv_iload_n hx hb dX11_keeps_79 rfl (lv_at hl 0 rfl) ?_
  refine lv_iadd hx hb dX11_keeps_80 ?_
  refine kt_ (v := 53) (by decide +kernel) ?_
  refine lv_aload_n hx hb dX11_keeps_81 rfl (lv_at hl 2 rfl) ?_
  refine va_get (D := D) (ci := 14) (v := .ref h1) (own := RX11) (C := RX11) (T := TX11) (N := 25) hx hb hts hi_X11 hown hK hP 0 rfl rfl 1 (by decide) (hts (.fieldLink RX11 13 "CanalMapsModel" "tried" "[I") (List.mem_of_getElem? (i := 4) (by decide +kernel))) (fun _ h9 => h9) rfl dX11_keeps_82 ?_
  refine lv_iload_n hx hb dX11_keeps_85 rfl (lv_at hl 0 rfl) ?_
  refine va_iald hx hb hK hP 1 0 rfl rfl (vin_ (by decide +kernel)) dX11_keeps_86 ?_
  refine kt_ (v := 0) (by decide +kernel) ?_
  refine ka_iast (g := (fun _ => 0)) hx hb hK hP hD hS 2 1 rfl rfl (vin_ (by decide +kernel)) (up_same (by decide +kernel)) dX11_keeps_87 (fun H locs hP hD hS => ?_)
  have hP : va_P D vwCl [(h0, .inr (14, [v0, .ref h1, v1, .ref h2, .int 0, v2, v3, v4, v5, v6, v7, v8, v9, v10, v11, v12, v13, v14, v15, v16, v17, v18, v19, v20, v21])), (h1, .inl (k1, 8277, .inl (fun _ => 0))), (h2, .inl (k2, 66216, .inl (fun _ => 0)))] H := hP
  have hD : va_D A [(h0, .inr (14, [v0, .ref h1, v1, .ref h2, .int 0, v2, v3, v4, v5, v6, v7, v8, v9, v10, v11, v12, v13, v14, v15, v16, v17, v18, v19, v20, v21])), (h1, .inl (k1, 8277, .inl (fun _ => 0))), (h2, .inl (k2, 66216, .inl (fun _ => 0)))] := hD
  refine lv_iinc (v := 54) (lv' := [(3, .int 54), (2, .int 85), (0, .ref h0), (1, .int 0)]) hx hb dX11_keeps_88 hl (k := 0) rfl (by decide +kernel) (by decide) rfl (fun ls hl => ?_)
  refine lv_goto (tgt := 62) hx hb dX11_keeps_91 (by decide) ?_
  refine lv_iload_n hx hb dX11_keeps_62 rfl (lv_at hl 0 rfl) ?_
  refine lv_iload_n hx hb dX11_keeps_63 rfl (lv_at hl 1 rfl) ?_
  refine lv_icmp_ge (tgt := 94) hx hb dX11_keeps_64 (by decide) (fun c9 => absurd c9 (by decide +kernel)) (fun _ => ?_)
  refine lv_aload_n hx hb dX11_keeps_67 rfl (lv_at hl 2 rfl) ?_
  refine va_get (D := D) (ci := 14) (v := .ref h2) (own := RX11) (C := RX11) (T := TX11) (N := 25) hx hb hts hi_X11 hown hK hP 0 rfl rfl 3 (by decide) (hts (.fieldLink RX11 20 "CanalMapsModel" "kept" "[I") (List.mem_of_getElem? (i := 3) (by decide +kernel))) (fun _ h9 => h9) rfl dX11_keeps_68 ?_
  refine lv_sipush (v := 8277) hx hb dX11_keeps_71 (by decide +kernel) ?_
  refine lv_aload_n hx hb dX11_keeps_74 rfl (lv_at hl 2 rfl) ?_
  refine va_get (D := D) (ci := 14) (v := .int 0) (own := RX11) (C := RX11) (T := TX11) (N := 25) hx hb hts hi_X11 hown hK hP 0 rfl rfl 4 (by decide) (hts (.fieldLink RX11 60 "CanalMapsModel" "undos" "I") (List.mem_of_getElem? (i := 1) (by decide +kernel))) (fun _ h9 => h9) rfl dX11_keeps_75 ?_
  refine lv_imul hx hb dX11_keeps_78 ?_
  refine kt_ (v := 0) (by decide +kernel) ?_
  refine lv_iload_n hx hb dX11_keeps_79 rfl (lv_at hl 0 rfl) ?_
  refine lv_iadd hx hb dX11_keeps_80 ?_
  refine kt_ (v := 54) (by decide +kernel) ?_
  refine lv_aload_n hx hb dX11_keeps_81 rfl (lv_at hl 2 rfl) ?_
  refine va_get (D := D) (ci := 14) (v := .ref h1) (own := RX11) (C := RX11) (T := TX11) (N := 25) hx hb hts hi_X11 hown hK hP 0 rfl rfl 1 (by decide) (hts (.fieldLink RX11 13 "CanalMapsModel" "tried" "[I") (List.mem_of_getElem? (i := 4) (by decide +kernel))) (fun _ h9 => h9) rfl dX11_keeps_82 ?_
  refine lv_iload_n hx hb dX11_keeps_85 rfl (lv_at hl 0 rfl) ?_
  refine va_iald hx hb hK hP 1 0 rfl rfl (vin_ (by decide +kernel)) dX11_keeps_86 ?_
  refine kt_ (v := 0) (by decide +kernel) ?_
  refine ka_iast (g := (fun _ => 0)) hx hb hK hP hD hS 2 1 rfl rfl (vin_ (by decide +kernel)) (up_same (by decide +kernel)) dX11_keeps_87 (fun H locs hP hD hS => ?_)
  have hP : va_P D vwCl [(h0, .inr (14, [v0, .ref h1, v1, .ref h2, .int 0, v2, v3, v4, v5, v6, v7, v8, v9, v10, v11, v12, v13, v14, v15, v16, v17, v18, v19, v20, v21])), (h1, .inl (k1, 8277, .inl (fun _ => 0))), (h2, .inl (k2, 66216, .inl (fun _ => 0)))] H := hP
  have hD : va_D A [(h0, .inr (14, [v0, .ref h1, v1, .ref h2, .int 0, v2, v3, v4, v5, v6, v7, v8, v9, v10, v11, v12, v13, v14, v15, v16, v17, v18, v19, v20, v21])), (h1, .inl (k1, 8277, .inl (fun _ => 0))), (h2, .inl (k2, 66216, .inl (fun _ => 0)))] := hD
  refine lv_iinc (v := 55) (lv' := [(3, .int 55), (2, .int 85), (0, .ref h0), (1, .int 0)]) hx hb dX11_keeps_88 hl (k := 0) rfl (by decide +kernel) (by decide) rfl (fun ls hl => ?_)
  refine lv_goto (tgt := 62) hx hb dX11_keeps_91 (by decide) ?_
  refine lv_iload_n hx hb dX11_keeps_62 rfl (lv_at hl 0 rfl) ?_
  refine lv_iload_n hx hb dX11_keeps_63 rfl (lv_at hl 1 rfl) ?_
  refine lv_icmp_ge (tgt := 94) hx hb dX11_keeps_64 (by decide) (fun c9 => absurd c9 (by decide +kernel)) (fun _ => ?_)
  refine lv_aload_n hx hb dX11_keeps_67 rfl (lv_at hl 2 rfl) ?_
  refine va_get (D := D) (ci := 14) (v := .ref h2) (own := RX11) (C := RX11) (T := TX11) (N := 25) hx hb hts hi_X11 hown hK hP 0 rfl rfl 3 (by decide) (hts (.fieldLink RX11 20 "CanalMapsModel" "kept" "[I") (List.mem_of_getElem? (i := 3) (by decide +kernel))) (fun _ h9 => h9) rfl dX11_keeps_68 ?_
  refine lv_sipush (v := 8277) hx hb dX11_keeps_71 (by decide +kernel) ?_
  refine lv_aload_n hx hb dX11_keeps_74 rfl (lv_at hl 2 rfl) ?_
  refine va_get (D := D) (ci := 14) (v := .int 0) (own := RX11) (C := RX11) (T := TX11) (N := 25) hx hb hts hi_X11 hown hK hP 0 rfl rfl 4 (by decide) (hts (.fieldLink RX11 60 "CanalMapsModel" "undos" "I") (List.mem_of_getElem? (i := 1) (by decide +kernel))) (fun _ h9 => h9) rfl dX11_keeps_75 ?_
  refine lv_imul hx hb dX11_keeps_78 ?_
  refine kt_ (v := 0) (by decide +kernel) ?_
  refine lv_iload_n hx hb dX11_keeps_79 rfl (lv_at hl 0 rfl) ?_
  refine lv_iadd hx hb dX11_keeps_80 ?_
  refine kt_ (v := 55) (by decide +kernel) ?_
  refine lv_aload_n hx hb dX11_keeps_81 rfl (lv_at hl 2 rfl) ?_
  refine va_get (D := D) (ci := 14) (v := .ref h1) (own := RX11) (C := RX11) (T := TX11) (N := 25) hx hb hts hi_X11 hown hK hP 0 rfl rfl 1 (by decide) (hts (.fieldLink RX11 13 "CanalMapsModel" "tried" "[I") (List.mem_of_getElem? (i := 4) (by decide +kernel))) (fun _ h9 => h9) rfl dX11_keeps_82 ?_
  refine lv_iload_n hx hb dX11_keeps_85 rfl (lv_at hl 0 rfl) ?_
  refine va_iald hx hb hK hP 1 0 rfl rfl (vin_ (by decide +kernel)) dX11_keeps_86 ?_
  refine kt_ (v := 0) (by decide +kernel) ?_
  refine ka_iast (g := (fun _ => 0)) hx hb hK hP hD hS 2 1 rfl rfl (vin_ (by decide +kernel)) (up_same (by decide +kernel)) dX11_keeps_87 (fun H locs hP hD hS => ?_)
  have hP : va_P D vwCl [(h0, .inr (14, [v0, .ref h1, v1, .ref h2, .int 0, v2, v3, v4, v5, v6, v7, v8, v9, v10, v11, v12, v13, v14, v15, v16, v17, v18, v19, v20, v21])), (h1, .inl (k1, 8277, .inl (fun _ => 0))), (h2, .inl (k2, 66216, .inl (fun _ => 0)))] H := hP
  have hD : va_D A [(h0, .inr (14, [v0, .ref h1, v1, .ref h2, .int 0, v2, v3, v4, v5, v6, v7, v8, v9, v10, v11, v12, v13, v14, v15, v16, v17, v18, v19, v20, v21])), (h1, .inl (k1, 8277, .inl (fun _ => 0))), (h2, .inl (k2, 66216, .inl (fun _ => 0)))] := hD
  refine lv_iinc (v := 56) (lv' := [(3, .int 56), (2, .int 85), (0, .ref h0), (1, .int 0)]) hx hb dX11_keeps_88 hl (k := 0) rfl (by decide +kernel) (by decide) rfl (fun ls hl => ?_)
  refine lv_goto (tgt := 62) hx hb dX11_keeps_91 (by decide) ?_
  refine lv_iload_n hx hb dX11_keeps_62 rfl (lv_at hl 0 rfl) ?_
  refine lv_iload_n hx hb dX11_keeps_63 rfl (lv_at hl 1 rfl) ?_
  refine lv_icmp_ge (tgt := 94) hx hb dX11_keeps_64 (by decide) (fun c9 => absurd c9 (by decide +kernel)) (fun _ => ?_)
  refine lv_aload_n hx hb dX11_keeps_67 rfl (lv_at hl 2 rfl) ?_
  refine va_get (D := D) (ci := 14) (v := .ref h2) (own := RX11) (C := RX11) (T := TX11) (N := 25) hx hb hts hi_X11 hown hK hP 0 rfl rfl 3 (by decide) (hts (.fieldLink RX11 20 "CanalMapsModel" "kept" "[I") (List.mem_of_getElem? (i := 3) (by decide +kernel))) (fun _ h9 => h9) rfl dX11_keeps_68 ?_
  refine lv_sipush (v := 8277) hx hb dX11_keeps_71 (by decide +kernel) ?_
  refine lv_aload_n hx hb dX11_keeps_74 rfl (lv_at hl 2 rfl) ?_
  refine va_get (D := D) (ci := 14) (v := .int 0) (own := RX11) (C := RX11) (T := TX11) (N := 25) hx hb hts hi_X11 hown hK hP 0 rfl rfl 4 (by decide) (hts (.fieldLink RX11 60 "CanalMapsModel" "undos" "I") (List.mem_of_getElem? (i := 1) (by decide +kernel))) (fun _ h9 => h9) rfl dX11_keeps_75 ?_
  refine lv_imul hx hb dX11_keeps_78 ?_
  refine kt_ (v := 0) (by decide +kernel) ?_
  refine lv_iload_n hx hb dX11_keeps_79 rfl (lv_at hl 0 rfl) ?_
  refine lv_iadd hx hb dX11_keeps_80 ?_
  refine kt_ (v := 56) (by decide +kernel) ?_
  refine lv_aload_n hx hb dX11_keeps_81 rfl (lv_at hl 2 rfl) ?_
  refine va_get (D := D) (ci := 14) (v := .ref h1) (own := RX11) (C := RX11) (T := TX11) (N := 25) hx hb hts hi_X11 hown hK hP 0 rfl rfl 1 (by decide) (hts (.fieldLink RX11 13 "CanalMapsModel" "tried" "[I") (List.mem_of_getElem? (i := 4) (by decide +kernel))) (fun _ h9 => h9) rfl dX11_keeps_82 ?_
  refine lv_iload_n hx hb dX11_keeps_85 rfl (lv_at hl 0 rfl) ?_
  refine va_iald hx hb hK hP 1 0 rfl rfl (vin_ (by decide +kernel)) dX11_keeps_86 ?_
  refine kt_ (v := 0) (by decide +kernel) ?_
  refine ka_iast (g := (fun _ => 0)) hx hb hK hP hD hS 2 1 rfl rfl (vin_ (by decide +kernel)) (up_same (by decide +kernel)) dX11_keeps_87 (fun H locs hP hD hS => ?_)
  have hP : va_P D vwCl [(h0, .inr (14, [v0, .ref h1, v1, .ref h2, .int 0, v2, v3, v4, v5, v6, v7, v8, v9, v10, v11, v12, v13, v14, v15, v16, v17, v18, v19, v20, v21])), (h1, .inl (k1, 8277, .inl (fun _ => 0))), (h2, .inl (k2, 66216, .inl (fun _ => 0)))] H := hP
  have hD : va_D A [(h0, .inr (14, [v0, .ref h1, v1, .ref h2, .int 0, v2, v3, v4, v5, v6, v7, v8, v9, v10, v11, v12, v13, v14, v15, v16, v17, v18, v19, v20, v21])), (h1, .inl (k1, 8277, .inl (fun _ => 0))), (h2, .inl (k2, 66216, .inl (fun _ => 0)))] := hD
  refine lv_iinc (v := 57) (lv' := [(3, .int 57), (2, .int 85), (0, .ref h0), (1, .int 0)]) hx hb dX11_keeps_88 hl (k := 0) rfl (by decide +kernel) (by decide) rfl (fun ls hl => ?_)
  refine lv_goto (tgt := 62) hx hb dX11_keeps_91 (by decide) ?_
  refine lv_iload_n hx hb dX11_keeps_62 rfl (lv_at hl 0 rfl) ?_
  refine lv_iload_n hx hb dX11_keeps_63 rfl (lv_at hl 1 rfl) ?_
  refine lv_icmp_ge (tgt := 94) hx hb dX11_keeps_64 (by decide) (fun c9 => absurd c9 (by decide +kernel)) (fun _ => ?_)
  refine lv_aload_n hx hb dX11_keeps_67 rfl (lv_at hl 2 rfl) ?_
  refine va_get (D := D) (ci := 14) (v := .ref h2) (own := RX11) (C := RX11) (T := TX11) (N := 25) hx hb hts hi_X11 hown hK hP 0 rfl rfl 3 (by decide) (hts (.fieldLink RX11 20 "CanalMapsModel" "kept" "[I") (List.mem_of_getElem? (i := 3) (by decide +kernel))) (fun _ h9 => h9) rfl dX11_keeps_68 ?_
  refine lv_sipush (v := 8277) hx hb dX11_keeps_71 (by decide +kernel) ?_
  refine lv_aload_n hx hb dX11_keeps_74 rfl (lv_at hl 2 rfl) ?_
  refine va_get (D := D) (ci := 14) (v := .int 0) (own := RX11) (C := RX11) (T := TX11) (N := 25) hx hb hts hi_X11 hown hK hP 0 rfl rfl 4 (by decide) (hts (.fieldLink RX11 60 "CanalMapsModel" "undos" "I") (List.mem_of_getElem? (i := 1) (by decide +kernel))) (fun _ h9 => h9) rfl dX11_keeps_75 ?_
  refine lv_imul hx hb dX11_keeps_78 ?_
  refine kt_ (v := 0) (by decide +kernel) ?_
  refine lv_iload_n hx hb dX11_keeps_79 rfl (lv_at hl 0 rfl) ?_
  refine lv_iadd hx hb dX11_keeps_80 ?_
  refine kt_ (v := 57) (by decide +kernel) ?_
  refine lv_aload_n hx hb dX11_keeps_81 rfl (lv_at hl 2 rfl) ?_
  refine va_get (D := D) (ci := 14) (v := .ref h1) (own := RX11) (C := RX11) (T := TX11) (N := 25) hx hb hts hi_X11 hown hK hP 0 rfl rfl 1 (by decide) (hts (.fieldLink RX11 13 "CanalMapsModel" "tried" "[I") (List.mem_of_getElem? (i := 4) (by decide +kernel))) (fun _ h9 => h9) rfl dX11_keeps_82 ?_
  refine lv_iload_n hx hb dX11_keeps_85 rfl (lv_at hl 0 rfl) ?_
  refine va_iald hx hb hK hP 1 0 rfl rfl (vin_ (by decide +kernel)) dX11_keeps_86 ?_
  refine kt_ (v := 0) (by decide +kernel) ?_
  refine ka_iast (g := (fun _ => 0)) hx hb hK hP hD hS 2 1 rfl rfl (vin_ (by decide +kernel)) (up_same (by decide +kernel)) dX11_keeps_87 (fun H locs hP hD hS => ?_)
  have hP : va_P D vwCl [(h0, .inr (14, [v0, .ref h1, v1, .ref h2, .int 0, v2, v3, v4, v5, v6, v7, v8, v9, v10, v11, v12, v13, v14, v15, v16, v17, v18, v19, v20, v21])), (h1, .inl (k1, 8277, .inl (fun _ => 0))), (h2, .inl (k2, 66216, .inl (fun _ => 0)))] H := hP
  have hD : va_D A [(h0, .inr (14, [v0, .ref h1, v1, .ref h2, .int 0, v2, v3, v4, v5, v6, v7, v8, v9, v10, v11, v12, v13, v14, v15, v16, v17, v18, v19, v20, v21])), (h1, .inl (k1, 8277, .inl (fun _ => 0))), (h2, .inl (k2, 66216, .inl (fun _ => 0)))] := hD
  refine lv_iinc (v := 58) (lv' := [(3, .int 58), (2, .int 85), (0, .ref h0), (1, .int 0)]) hx hb dX11_keeps_88 hl (k := 0) rfl (by decide +kernel) (by decide) rfl (fun ls hl => ?_)
  refine lv_goto (tgt := 62) hx hb dX11_keeps_91 (by decide) ?_
  refine lv_iload_n hx hb dX11_keeps_62 rfl (lv_at hl 0 rfl) ?_
  refine lv_iload_n hx hb dX11_keeps_63 rfl (lv_at hl 1 rfl) ?_
  refine lv_icmp_ge (tgt := 94) hx hb dX11_keeps_64 (by decide) (fun c9 => absurd c9 (by decide +kernel)) (fun _ => ?_)
  refine lv_aload_n hx hb dX11_keeps_67 rfl (lv_at hl 2 rfl) ?_
  refine va_get (D := D) (ci := 14) (v := .ref h2) (own := RX11) (C := RX11) (T := TX11) (N := 25) hx hb hts hi_X11 hown hK hP 0 rfl rfl 3 (by decide) (hts (.fieldLink RX11 20 "CanalMapsModel" "kept" "[I") (List.mem_of_getElem? (i := 3) (by decide +kernel))) (fun _ h9 => h9) rfl dX11_keeps_68 ?_
  refine lv_sipush (v := 8277) hx hb dX11_keeps_71 (by decide +kernel) ?_
  refine lv_aload_n hx hb dX11_keeps_74 rfl (lv_at hl 2 rfl) ?_
  refine va_get (D := D) (ci := 14) (v := .int 0) (own := RX11) (C := RX11) (T := TX11) (N := 25) hx hb hts hi_X11 hown hK hP 0 rfl rfl 4 (by decide) (hts (.fieldLink RX11 60 "CanalMapsModel" "undos" "I") (List.mem_of_getElem? (i := 1) (by decide +kernel))) (fun _ h9 => h9) rfl dX11_keeps_75 ?_
  refine lv_imul hx hb dX11_keeps_78 ?_
  refine kt_ (v := 0) (by decide +kernel) ?_
  refine lv_iload_n hx hb dX11_keeps_79 rfl (lv_at hl 0 rfl) ?_
  refine lv_iadd hx hb dX11_keeps_80 ?_
  refine kt_ (v := 58) (by decide +kernel) ?_
  refine lv_aload_n hx hb dX11_keeps_81 rfl (lv_at hl 2 rfl) ?_
  refine va_get (D := D) (ci := 14) (v := .ref h1) (own := RX11) (C := RX11) (T := TX11) (N := 25) hx hb hts hi_X11 hown hK hP 0 rfl rfl 1 (by decide) (hts (.fieldLink RX11 13 "CanalMapsModel" "tried" "[I") (List.mem_of_getElem? (i := 4) (by decide +kernel))) (fun _ h9 => h9) rfl dX11_keeps_82 ?_
  refine lv_iload_n hx hb dX11_keeps_85 rfl (lv_at hl 0 rfl) ?_
  refine va_iald hx hb hK hP 1 0 rfl rfl (vin_ (by decide +kernel)) dX11_keeps_86 ?_
  refine kt_ (v := 0) (by decide +kernel) ?_
  refine ka_iast (g := (fun _ => 0)) hx hb hK hP hD hS 2 1 rfl rfl (vin_ (by decide +kernel)) (up_same (by decide +kernel)) dX11_keeps_87 (fun H locs hP hD hS => ?_)
  have hP : va_P D vwCl [(h0, .inr (14, [v0, .ref h1, v1, .ref h2, .int 0, v2, v3, v4, v5, v6, v7, v8, v9, v10, v11, v12, v13, v14, v15, v16, v17, v18, v19, v20, v21])), (h1, .inl (k1, 8277, .inl (fun _ => 0))), (h2, .inl (k2, 66216, .inl (fun _ => 0)))] H := hP
  have hD : va_D A [(h0, .inr (14, [v0, .ref h1, v1, .ref h2, .int 0, v2, v3, v4, v5, v6, v7, v8, v9, v10, v11, v12, v13, v14, v15, v16, v17, v18, v19, v20, v21])), (h1, .inl (k1, 8277, .inl (fun _ => 0))), (h2, .inl (k2, 66216, .inl (fun _ => 0)))] := hD
  refine lv_iinc (v := 59) (lv' := [(3, .int 59), (2, .int 85), (0, .ref h0), (1, .int 0)]) hx hb dX11_keeps_88 hl (k := 0) rfl (by decide +kernel) (by decide) rfl (fun ls hl => ?_)
  refine lv_goto (tgt := 62) hx hb dX11_keeps_91 (by decide) ?_
  refine lv_iload_n hx hb dX11_keeps_62 rfl (lv_at hl 0 rfl) ?_
  refine lv_iload_n hx hb dX11_keeps_63 rfl (lv_at hl 1 rfl) ?_
  refine lv_icmp_ge (tgt := 94) hx hb dX11_keeps_64 (by decide) (fun c9 => absurd c9 (by decide +kernel)) (fun _ => ?_)
  refine lv_aload_n hx hb dX11_keeps_67 rfl (lv_at hl 2 rfl) ?_
  refine va_get (D := D) (ci := 14) (v := .ref h2) (own := RX11) (C := RX11) (T := TX11) (N := 25) hx hb hts hi_X11 hown hK hP 0 rfl rfl 3 (by decide) (hts (.fieldLink RX11 20 "CanalMapsModel" "kept" "[I") (List.mem_of_getElem? (i := 3) (by decide +kernel))) (fun _ h9 => h9) rfl dX11_keeps_68 ?_
  refine lv_sipush (v := 8277) hx hb dX11_keeps_71 (by decide +kernel) ?_
  refine lv_aload_n hx hb dX11_keeps_74 rfl (lv_at hl 2 rfl) ?_
  refine va_get (D := D) (ci := 14) (v := .int 0) (own := RX11) (C := RX11) (T := TX11) (N := 25) hx hb hts hi_X11 hown hK hP 0 rfl rfl 4 (by decide) (hts (.fieldLink RX11 60 "CanalMapsModel" "undos" "I") (List.mem_of_getElem? (i := 1) (by decide +kernel))) (fun _ h9 => h9) rfl dX11_keeps_75 ?_
  refine lv_imul hx hb dX11_keeps_78 ?_
  refine kt_ (v := 0) (by decide +kernel) ?_
  refine lv_iload_n hx hb dX11_keeps_79 rfl (lv_at hl 0 rfl) ?_
  refine lv_iadd hx hb dX11_keeps_80 ?_
  refine kt_ (v := 59) (by decide +kernel) ?_
  refine lv_aload_n hx hb dX11_keeps_81 rfl (lv_at hl 2 rfl) ?_
  refine va_get (D := D) (ci := 14) (v := .ref h1) (own := RX11) (C := RX11) (T := TX11) (N := 25) hx hb hts hi_X11 hown hK hP 0 rfl rfl 1 (by decide) (hts (.fieldLink RX11 13 "CanalMapsModel" "tried" "[I") (List.mem_of_getElem? (i := 4) (by decide +kernel))) (fun _ h9 => h9) rfl dX11_keeps_82 ?_
  refine lv_iload_n hx hb dX11_keeps_85 rfl (lv_at hl 0 rfl) ?_
  refine va_iald hx hb hK hP 1 0 rfl rfl (vin_ (by decide +kernel)) dX11_keeps_86 ?_
  refine kt_ (v := 0) (by decide +kernel) ?_
  refine ka_iast (g := (fun _ => 0)) hx hb hK hP hD hS 2 1 rfl rfl (vin_ (by decide +kernel)) (up_same (by decide +kernel)) dX11_keeps_87 (fun H locs hP hD hS => ?_)
  have hP : va_P D vwCl [(h0, .inr (14, [v0, .ref h1, v1, .ref h2, .int 0, v2, v3, v4, v5, v6, v7, v8, v9, v10, v11, v12, v13, v14, v15, v16, v17, v18, v19, v20, v21])), (h1, .inl (k1, 8277, .inl (fun _ => 0))), (h2, .inl (k2, 66216, .inl (fun _ => 0)))] H := hP
  have hD : va_D A [(h0, .inr (14, [v0, .ref h1, v1, .ref h2, .int 0, v2, v3, v4, v5, v6, v7, v8, v9, v10, v11, v12, v13, v14, v15, v16, v17, v18, v19, v20, v21])), (h1, .inl (k1, 8277, .inl (fun _ => 0))), (h2, .inl (k2, 66216, .inl (fun _ => 0)))] := hD
  refine lv_iinc (v := 60) (lv' := [(3, .int 60), (2, .int 85), (0, .ref h0), (1, .int 0)]) hx hb dX11_keeps_88 hl (k := 0) rfl (by decide +kernel) (by decide) rfl (fun ls hl => ?_)
  refine lv_goto (tgt := 62) hx hb dX11_keeps_91 (by decide) ?_
  refine lv_iload_n hx hb dX11_keeps_62 rfl (lv_at hl 0 rfl) ?_
  refine lv_iload_n hx hb dX11_keeps_63 rfl (lv_at hl 1 rfl) ?_
  refine lv_icmp_ge (tgt := 94) hx hb dX11_keeps_64 (by decide) (fun c9 => absurd c9 (by decide +kernel)) (fun _ => ?_)
  refine lv_aload_n hx hb dX11_keeps_67 rfl (lv_at hl 2 rfl) ?_
  refine va_get (D := D) (ci := 14) (v := .ref h2) (own := RX11) (C := RX11) (T := TX11) (N := 25) hx hb hts hi_X11 hown hK hP 0 rfl rfl 3 (by decide) (hts (.fieldLink RX11 20 "CanalMapsModel" "kept" "[I") (List.mem_of_getElem? (i := 3) (by decide +kernel))) (fun _ h9 => h9) rfl dX11_keeps_68 ?_
  refine lv_sipush (v := 8277) hx hb dX11_keeps_71 (by decide +kernel) ?_
  refine lv_aload_n hx hb dX11_keeps_74 rfl (lv_at hl 2 rfl) ?_
  refine va_get (D := D) (ci := 14) (v := .int 0) (own := RX11) (C := RX11) (T := TX11) (N := 25) hx hb hts hi_X11 hown hK hP 0 rfl rfl 4 (by decide) (hts (.fieldLink RX11 60 "CanalMapsModel" "undos" "I") (List.mem_of_getElem? (i := 1) (by decide +kernel))) (fun _ h9 => h9) rfl dX11_keeps_75 ?_
  refine lv_imul hx hb dX11_keeps_78 ?_
  refine kt_ (v := 0) (by decide +kernel) ?_
  refine lv_iload_n hx hb dX11_keeps_79 rfl (lv_at hl 0 rfl) ?_
  refine lv_iadd hx hb dX11_keeps_80 ?_
  refine kt_ (v := 60) (by decide +kernel) ?_
  refine lv_aload_n hx hb dX11_keeps_81 rfl (lv_at hl 2 rfl) ?_
  refine va_get (D := D) (ci := 14) (v := .ref h1) (own := RX11) (C := RX11) (T := TX11) (N := 25) hx hb hts hi_X11 hown hK hP 0 rfl rfl 1 (by decide) (hts (.fieldLink RX11 13 "CanalMapsModel" "tried" "[I") (List.mem_of_getElem? (i := 4) (by decide +kernel))) (fun _ h9 => h9) rfl dX11_keeps_82 ?_
  refine lv_iload_n hx hb dX11_keeps_85 rfl (lv_at hl 0 rfl) ?_
  refine va_iald hx hb hK hP 1 0 rfl rfl (vin_ (by decide +kernel)) dX11_keeps_86 ?_
  refine kt_ (v := 0) (by decide +kernel) ?_
  refine ka_iast (g := (fun _ => 0)) hx hb hK hP hD hS 2 1 rfl rfl (vin_ (by decide +kernel)) (up_same (by decide +kernel)) dX11_keeps_87 (fun H locs hP hD hS => ?_)
  have hP : va_P D vwCl [(h0, .inr (14, [v0, .ref h1, v1, .ref h2, .int 0, v2, v3, v4, v5, v6, v7, v8, v9, v10, v11, v12, v13, v14, v15, v16, v17, v18, v19, v20, v21])), (h1, .inl (k1, 8277, .inl (fun _ => 0))), (h2, .inl (k2, 66216, .inl (fun _ => 0)))] H := hP
  have hD : va_D A [(h0, .inr (14, [v0, .ref h1, v1, .ref h2, .int 0, v2, v3, v4, v5, v6, v7, v8, v9, v10, v11, v12, v13, v14, v15, v16, v17, v18, v19, v20, v21])), (h1, .inl (k1, 8277, .inl (fun _ => 0))), (h2, .inl (k2, 66216, .inl (fun _ => 0)))] := hD
  refine lv_iinc (v := 61) (lv' := [(3, .int 61), (2, .int 85), (0, .ref h0), (1, .int 0)]) hx hb dX11_keeps_88 hl (k := 0) rfl (by decide +kernel) (by decide) rfl (fun ls hl => ?_)
  refine lv_goto (tgt := 62) hx hb dX11_keeps_91 (by decide) ?_
  refine lv_iload_n hx hb dX11_keeps_62 rfl (lv_at hl 0 rfl) ?_
  refine lv_iload_n hx hb dX11_keeps_63 rfl (lv_at hl 1 rfl) ?_
  refine lv_icmp_ge (tgt := 94) hx hb dX11_keeps_64 (by decide) (fun c9 => absurd c9 (by decide +kernel)) (fun _ => ?_)
  refine lv_aload_n hx hb dX11_keeps_67 rfl (lv_at hl 2 rfl) ?_
  refine va_get (D := D) (ci := 14) (v := .ref h2) (own := RX11) (C := RX11) (T := TX11) (N := 25) hx hb hts hi_X11 hown hK hP 0 rfl rfl 3 (by decide) (hts (.fieldLink RX11 20 "CanalMapsModel" "kept" "[I") (List.mem_of_getElem? (i := 3) (by decide +kernel))) (fun _ h9 => h9) rfl dX11_keeps_68 ?_
  refine lv_sipush (v := 8277) hx hb dX11_keeps_71 (by decide +kernel) ?_
  refine lv_aload_n hx hb dX11_keeps_74 rfl (lv_at hl 2 rfl) ?_
  refine va_get (D := D) (ci := 14) (v := .int 0) (own := RX11) (C := RX11) (T := TX11) (N := 25) hx hb hts hi_X11 hown hK hP 0 rfl rfl 4 (by decide) (hts (.fieldLink RX11 60 "CanalMapsModel" "undos" "I") (List.mem_of_getElem? (i := 1) (by decide +kernel))) (fun _ h9 => h9) rfl dX11_keeps_75 ?_
  refine lv_imul hx hb dX11_keeps_78 ?_
  refine kt_ (v := 0) (by decide +kernel) ?_
  refine lv_iload_n hx hb dX11_keeps_79 rfl (lv_at hl 0 rfl) ?_
  refine lv_iadd hx hb dX11_keeps_80 ?_
  refine kt_ (v := 61) (by decide +kernel) ?_
  refine lv_aload_n hx hb dX11_keeps_81 rfl (lv_at hl 2 rfl) ?_
  refine va_get (D := D) (ci := 14) (v := .ref h1) (own := RX11) (C := RX11) (T := TX11) (N := 25) hx hb hts hi_X11 hown hK hP 0 rfl rfl 1 (by decide) (hts (.fieldLink RX11 13 "CanalMapsModel" "tried" "[I") (List.mem_of_getElem? (i := 4) (by decide +kernel))) (fun _ h9 => h9) rfl dX11_keeps_82 ?_
  refine lv_iload_n hx hb dX11_keeps_85 rfl (lv_at hl 0 rfl) ?_
  refine va_iald hx hb hK hP 1 0 rfl rfl (vin_ (by decide +kernel)) dX11_keeps_86 ?_
  refine kt_ (v := 0) (by decide +kernel) ?_
  refine ka_iast (g := (fun _ => 0)) hx hb hK hP hD hS 2 1 rfl rfl (vin_ (by decide +kernel)) (up_same (by decide +kernel)) dX11_keeps_87 (fun H locs hP hD hS => ?_)
  have hP : va_P D vwCl [(h0, .inr (14, [v0, .ref h1, v1, .ref h2, .int 0, v2, v3, v4, v5, v6, v7, v8, v9, v10, v11, v12, v13, v14, v15, v16, v17, v18, v19, v20, v21])), (h1, .inl (k1, 8277, .inl (fun _ => 0))), (h2, .inl (k2, 66216, .inl (fun _ => 0)))] H := hP
  have hD : va_D A [(h0, .inr (14, [v0, .ref h1, v1, .ref h2, .int 0, v2, v3, v4, v5, v6, v7, v8, v9, v10, v11, v12, v13, v14, v15, v16, v17, v18, v19, v20, v21])), (h1, .inl (k1, 8277, .inl (fun _ => 0))), (h2, .inl (k2, 66216, .inl (fun _ => 0)))] := hD
  refine lv_iinc (v := 62) (lv' := [(3, .int 62), (2, .int 85), (0, .ref h0), (1, .int 0)]) hx hb dX11_keeps_88 hl (k := 0) rfl (by decide +kernel) (by decide) rfl (fun ls hl => ?_)
  refine lv_goto (tgt := 62) hx hb dX11_keeps_91 (by decide) ?_
  refine lv_iload_n hx hb dX11_keeps_62 rfl (lv_at hl 0 rfl) ?_
  refine lv_iload_n hx hb dX11_keeps_63 rfl (lv_at hl 1 rfl) ?_
  refine lv_icmp_ge (tgt := 94) hx hb dX11_keeps_64 (by decide) (fun c9 => absurd c9 (by decide +kernel)) (fun _ => ?_)
  refine lv_aload_n hx hb dX11_keeps_67 rfl (lv_at hl 2 rfl) ?_
  refine va_get (D := D) (ci := 14) (v := .ref h2) (own := RX11) (C := RX11) (T := TX11) (N := 25) hx hb hts hi_X11 hown hK hP 0 rfl rfl 3 (by decide) (hts (.fieldLink RX11 20 "CanalMapsModel" "kept" "[I") (List.mem_of_getElem? (i := 3) (by decide +kernel))) (fun _ h9 => h9) rfl dX11_keeps_68 ?_
  refine lv_sipush (v := 8277) hx hb dX11_keeps_71 (by decide +kernel) ?_
  refine lv_aload_n hx hb dX11_keeps_74 rfl (lv_at hl 2 rfl) ?_
  refine va_get (D := D) (ci := 14) (v := .int 0) (own := RX11) (C := RX11) (T := TX11) (N := 25) hx hb hts hi_X11 hown hK hP 0 rfl rfl 4 (by decide) (hts (.fieldLink RX11 60 "CanalMapsModel" "undos" "I") (List.mem_of_getElem? (i := 1) (by decide +kernel))) (fun _ h9 => h9) rfl dX11_keeps_75 ?_
  refine lv_imul hx hb dX11_keeps_78 ?_
  refine kt_ (v := 0) (by decide +kernel) ?_
  refine lv_iload_n hx hb dX11_keeps_79 rfl (lv_at hl 0 rfl) ?_
  refine lv_iadd hx hb dX11_keeps_80 ?_
  refine kt_ (v := 62) (by decide +kernel) ?_
  refine lv_aload_n hx hb dX11_keeps_81 rfl (lv_at hl 2 rfl) ?_
  refine va_get (D := D) (ci := 14) (v := .ref h1) (own := RX11) (C := RX11) (T := TX11) (N := 25) hx hb hts hi_X11 hown hK hP 0 rfl rfl 1 (by decide) (hts (.fieldLink RX11 13 "CanalMapsModel" "tried" "[I") (List.mem_of_getElem? (i := 4) (by decide +kernel))) (fun _ h9 => h9) rfl dX11_keeps_82 ?_
  refine lv_iload_n hx hb dX11_keeps_85 rfl (lv_at hl 0 rfl) ?_
  refine va_iald hx hb hK hP 1 0 rfl rfl (vin_ (by decide +kernel)) dX11_keeps_86 ?_
  refine kt_ (v := 0) (by decide +kernel) ?_
  refine ka_iast (g := (fun _ => 0)) hx hb hK hP hD hS 2 1 rfl rfl (vin_ (by decide +kernel)) (up_same (by decide +kernel)) dX11_keeps_87 (fun H locs hP hD hS => ?_)
  have hP : va_P D vwCl [(h0, .inr (14, [v0, .ref h1, v1, .ref h2, .int 0, v2, v3, v4, v5, v6, v7, v8, v9, v10, v11, v12, v13, v14, v15, v16, v17, v18, v19, v20, v21])), (h1, .inl (k1, 8277, .inl (fun _ => 0))), (h2, .inl (k2, 66216, .inl (fun _ => 0)))] H := hP
  have hD : va_D A [(h0, .inr (14, [v0, .ref h1, v1, .ref h2, .int 0, v2, v3, v4, v5, v6, v7, v8, v9, v10, v11, v12, v13, v14, v15, v16, v17, v18, v19, v20, v21])), (h1, .inl (k1, 8277, .inl (fun _ => 0))), (h2, .inl (k2, 66216, .inl (fun _ => 0)))] := hD
  refine lv_iinc (v := 63) (lv' := [(3, .int 63), (2, .int 85), (0, .ref h0), (1, .int 0)]) hx hb dX11_keeps_88 hl (k := 0) rfl (by decide +kernel) (by decide) rfl (fun ls hl => ?_)
  refine lv_goto (tgt := 62) hx hb dX11_keeps_91 (by decide) ?_
  refine lv_iload_n hx hb dX11_keeps_62 rfl (lv_at hl 0 rfl) ?_
  refine lv_iload_n hx hb dX11_keeps_63 rfl (lv_at hl 1 rfl) ?_
  refine lv_icmp_ge (tgt := 94) hx hb dX11_keeps_64 (by decide) (fun c9 => absurd c9 (by decide +kernel)) (fun _ => ?_)
  refine lv_aload_n hx hb dX11_keeps_67 rfl (lv_at hl 2 rfl) ?_
  refine va_get (D := D) (ci := 14) (v := .ref h2) (own := RX11) (C := RX11) (T := TX11) (N := 25) hx hb hts hi_X11 hown hK hP 0 rfl rfl 3 (by decide) (hts (.fieldLink RX11 20 "CanalMapsModel" "kept" "[I") (List.mem_of_getElem? (i := 3) (by decide +kernel))) (fun _ h9 => h9) rfl dX11_keeps_68 ?_
  refine lv_sipush (v := 8277) hx hb dX11_keeps_71 (by decide +kernel) ?_
  refine lv_aload_n hx hb dX11_keeps_74 rfl (lv_at hl 2 rfl) ?_
  refine va_get (D := D) (ci := 14) (v := .int 0) (own := RX11) (C := RX11) (T := TX11) (N := 25) hx hb hts hi_X11 hown hK hP 0 rfl rfl 4 (by decide) (hts (.fieldLink RX11 60 "CanalMapsModel" "undos" "I") (List.mem_of_getElem? (i := 1) (by decide +kernel))) (fun _ h9 => h9) rfl dX11_keeps_75 ?_
  refine lv_imul hx hb dX11_keeps_78 ?_
  refine kt_ (v := 0) (by decide +kernel) ?_
  refine lv_iload_n hx hb dX11_keeps_79 rfl (lv_at hl 0 rfl) ?_
  refine lv_iadd hx hb dX11_keeps_80 ?_
  refine kt_ (v := 63) (by decide +kernel) ?_
  refine lv_aload_n hx hb dX11_keeps_81 rfl (lv_at hl 2 rfl) ?_
  refine va_get (D := D) (ci := 14) (v := .ref h1) (own := RX11) (C := RX11) (T := TX11) (N := 25) hx hb hts hi_X11 hown hK hP 0 rfl rfl 1 (by decide) (hts (.fieldLink RX11 13 "CanalMapsModel" "tried" "[I") (List.mem_of_getElem? (i := 4) (by decide +kernel))) (fun _ h9 => h9) rfl dX11_keeps_82 ?_
  refine lv_iload_n hx hb dX11_keeps_85 rfl (lv_at hl 0 rfl) ?_
  refine va_iald hx hb hK hP 1 0 rfl rfl (vin_ (by decide +kernel)) dX11_keeps_86 ?_
  refine kt_ (v := 0) (by decide +kernel) ?_
  refine ka_iast (g := (fun _ => 0)) hx hb hK hP hD hS 2 1 rfl rfl (vin_ (by decide +kernel)) (up_same (by decide +kernel)) dX11_keeps_87 (fun H locs hP hD hS => ?_)
  have hP : va_P D vwCl [(h0, .inr (14, [v0, .ref h1, v1, .ref h2, .int 0, v2, v3, v4, v5, v6, v7, v8, v9, v10, v11, v12, v13, v14, v15, v16, v17, v18, v19, v20, v21])), (h1, .inl (k1, 8277, .inl (fun _ => 0))), (h2, .inl (k2, 66216, .inl (fun _ => 0)))] H := hP
  have hD : va_D A [(h0, .inr (14, [v0, .ref h1, v1, .ref h2, .int 0, v2, v3, v4, v5, v6, v7, v8, v9, v10, v11, v12, v13, v14, v15, v16, v17, v18, v19, v20, v21])), (h1, .inl (k1, 8277, .inl (fun _ => 0))), (h2, .inl (k2, 66216, .inl (fun _ => 0)))] := hD
  refine lv_iinc (v := 64) (lv' := [(3, .int 64), (2, .int 85), (0, .ref h0), (1, .int 0)]) hx hb dX11_keeps_88 hl (k := 0) rfl (by decide +kernel) (by decide) rfl (fun ls hl => ?_)
  refine lv_goto (tgt := 62) hx hb dX11_keeps_91 (by decide) ?_
  refine lv_iload_n hx hb dX11_keeps_62 rfl (lv_at hl 0 rfl) ?_
  refine lv_iload_n hx hb dX11_keeps_63 rfl (lv_at hl 1 rfl) ?_
  refine lv_icmp_ge (tgt := 94) hx hb dX11_keeps_64 (by decide) (fun c9 => absurd c9 (by decide +kernel)) (fun _ => ?_)
  refine lv_aload_n hx hb dX11_keeps_67 rfl (lv_at hl 2 rfl) ?_
  refine va_get (D := D) (ci := 14) (v := .ref h2) (own := RX11) (C := RX11) (T := TX11) (N := 25) hx hb hts hi_X11 hown hK hP 0 rfl rfl 3 (by decide) (hts (.fieldLink RX11 20 "CanalMapsModel" "kept" "[I") (List.mem_of_getElem? (i := 3) (by decide +kernel))) (fun _ h9 => h9) rfl dX11_keeps_68 ?_
  refine lv_sipush (v := 8277) hx hb dX11_keeps_71 (by decide +kernel) ?_
  refine lv_aload_n hx hb dX11_keeps_74 rfl (lv_at hl 2 rfl) ?_
  refine va_get (D := D) (ci := 14) (v := .int 0) (own := RX11) (C := RX11) (T := TX11) (N := 25) hx hb hts hi_X11 hown hK hP 0 rfl rfl 4 (by decide) (hts (.fieldLink RX11 60 "CanalMapsModel" "undos" "I") (List.mem_of_getElem? (i := 1) (by decide +kernel))) (fun _ h9 => h9) rfl dX11_keeps_75 ?_
  refine lv_imul hx hb dX11_keeps_78 ?_
  refine kt_ (v := 0) (by decide +kernel) ?_
  refine lv_iload_n hx hb dX11_keeps_79 rfl (lv_at hl 0 rfl) ?_
  refine lv_iadd hx hb dX11_keeps_80 ?_
  refine kt_ (v := 64) (by decide +kernel) ?_
  refine lv_aload_n hx hb dX11_keeps_81 rfl (lv_at hl 2 rfl) ?_
  refine va_get (D := D) (ci := 14) (v := .ref h1) (own := RX11) (C := RX11) (T := TX11) (N := 25) hx hb hts hi_X11 hown hK hP 0 rfl rfl 1 (by decide) (hts (.fieldLink RX11 13 "CanalMapsModel" "tried" "[I") (List.mem_of_getElem? (i := 4) (by decide +kernel))) (fun _ h9 => h9) rfl dX11_keeps_82 ?_
  refine lv_iload_n hx hb dX11_keeps_85 rfl (lv_at hl 0 rfl) ?_
  refine va_iald hx hb hK hP 1 0 rfl rfl (vin_ (by decide +kernel)) dX11_keeps_86 ?_
  refine kt_ (v := 0) (by decide +kernel) ?_
  refine ka_iast (g := (fun _ => 0)) hx hb hK hP hD hS 2 1 rfl rfl (vin_ (by decide +kernel)) (up_same (by decide +kernel)) dX11_keeps_87 (fun H locs hP hD hS => ?_)
  have hP : va_P D vwCl [(h0, .inr (14, [v0, .ref h1, v1, .ref h2, .int 0, v2, v3, v4, v5, v6, v7, v8, v9, v10, v11, v12, v13, v14, v15, v16, v17, v18, v19, v20, v21])), (h1, .inl (k1, 8277, .inl (fun _ => 0))), (h2, .inl (k2, 66216, .inl (fun _ => 0)))] H := hP
  have hD : va_D A [(h0, .inr (14, [v0, .ref h1, v1, .ref h2, .int 0, v2, v3, v4, v5, v6, v7, v8, v9, v10, v11, v12, v13, v14, v15, v16, v17, v18, v19, v20, v21])), (h1, .inl (k1, 8277, .inl (fun _ => 0))), (h2, .inl (k2, 66216, .inl (fun _ => 0)))] := hD
  refine lv_iinc (v := 65) (lv' := [(3, .int 65), (2, .int 85), (0, .ref h0), (1, .int 0)]) hx hb dX11_keeps_88 hl (k := 0) rfl (by decide +kernel) (by decide) rfl (fun ls hl => ?_)
  refine lv_goto (tgt := 62) hx hb dX11_keeps_91 (by decide) ?_
  refine lv_iload_n hx hb dX11_keeps_62 rfl (lv_at hl 0 rfl) ?_
  refine lv_iload_n hx hb dX11_keeps_63 rfl (lv_at hl 1 rfl) ?_
  refine lv_icmp_ge (tgt := 94) hx hb dX11_keeps_64 (by decide) (fun c9 => absurd c9 (by decide +kernel)) (fun _ => ?_)
  refine lv_aload_n hx hb dX11_keeps_67 rfl (lv_at hl 2 rfl) ?_
  refine va_get (D := D) (ci := 14) (v := .ref h2) (own := RX11) (C := RX11) (T := TX11) (N := 25) hx hb hts hi_X11 hown hK hP 0 rfl rfl 3 (by decide) (hts (.fieldLink RX11 20 "CanalMapsModel" "kept" "[I") (List.mem_of_getElem? (i := 3) (by decide +kernel))) (fun _ h9 => h9) rfl dX11_keeps_68 ?_
  refine lv_sipush (v := 8277) hx hb dX11_keeps_71 (by decide +kernel) ?_
  refine lv_aload_n hx hb dX11_keeps_74 rfl (lv_at hl 2 rfl) ?_
  refine va_get (D := D) (ci := 14) (v := .int 0) (own := RX11) (C := RX11) (T := TX11) (N := 25) hx hb hts hi_X11 hown hK hP 0 rfl rfl 4 (by decide) (hts (.fieldLink RX11 60 "CanalMapsModel" "undos" "I") (List.mem_of_getElem? (i := 1) (by decide +kernel))) (fun _ h9 => h9) rfl dX11_keeps_75 ?_
  refine lv_imul hx hb dX11_keeps_78 ?_
  refine kt_ (v := 0) (by decide +kernel) ?_
  refine lv_iload_n hx hb dX11_keeps_79 rfl (lv_at hl 0 rfl) ?_
  refine lv_iadd hx hb dX11_keeps_80 ?_
  refine kt_ (v := 65) (by decide +kernel) ?_
  refine lv_aload_n hx hb dX11_keeps_81 rfl (lv_at hl 2 rfl) ?_
  refine va_get (D := D) (ci := 14) (v := .ref h1) (own := RX11) (C := RX11) (T := TX11) (N := 25) hx hb hts hi_X11 hown hK hP 0 rfl rfl 1 (by decide) (hts (.fieldLink RX11 13 "CanalMapsModel" "tried" "[I") (List.mem_of_getElem? (i := 4) (by decide +kernel))) (fun _ h9 => h9) rfl dX11_keeps_82 ?_
  refine lv_iload_n hx hb dX11_keeps_85 rfl (lv_at hl 0 rfl) ?_
  refine va_iald hx hb hK hP 1 0 rfl rfl (vin_ (by decide +kernel)) dX11_keeps_86 ?_
  refine kt_ (v := 0) (by decide +kernel) ?_
  refine ka_iast (g := (fun _ => 0)) hx hb hK hP hD hS 2 1 rfl rfl (vin_ (by decide +kernel)) (up_same (by decide +kernel)) dX11_keeps_87 (fun H locs hP hD hS => ?_)
  have hP : va_P D vwCl [(h0, .inr (14, [v0, .ref h1, v1, .ref h2, .int 0, v2, v3, v4, v5, v6, v7, v8, v9, v10, v11, v12, v13, v14, v15, v16, v17, v18, v19, v20, v21])), (h1, .inl (k1, 8277, .inl (fun _ => 0))), (h2, .inl (k2, 66216, .inl (fun _ => 0)))] H := hP
  have hD : va_D A [(h0, .inr (14, [v0, .ref h1, v1, .ref h2, .int 0, v2, v3, v4, v5, v6, v7, v8, v9, v10, v11, v12, v13, v14, v15, v16, v17, v18, v19, v20, v21])), (h1, .inl (k1, 8277, .inl (fun _ => 0))), (h2, .inl (k2, 66216, .inl (fun _ => 0)))] := hD
  refine lv_iinc (v := 66) (lv' := [(3, .int 66), (2, .int 85), (0, .ref h0), (1, .int 0)]) hx hb dX11_keeps_88 hl (k := 0) rfl (by decide +kernel) (by decide) rfl (fun ls hl => ?_)
  refine lv_goto (tgt := 62) hx hb dX11_keeps_91 (by decide) ?_
  refine lv_iload_n hx hb dX11_keeps_62 rfl (lv_at hl 0 rfl) ?_
  refine lv_iload_n hx hb dX11_keeps_63 rfl (lv_at hl 1 rfl) ?_
  refine lv_icmp_ge (tgt := 94) hx hb dX11_keeps_64 (by decide) (fun c9 => absurd c9 (by decide +kernel)) (fun _ => ?_)
  refine lv_aload_n hx hb dX11_keeps_67 rfl (lv_at hl 2 rfl) ?_
  refine va_get (D := D) (ci := 14) (v := .ref h2) (own := RX11) (C := RX11) (T := TX11) (N := 25) hx hb hts hi_X11 hown hK hP 0 rfl rfl 3 (by decide) (hts (.fieldLink RX11 20 "CanalMapsModel" "kept" "[I") (List.mem_of_getElem? (i := 3) (by decide +kernel))) (fun _ h9 => h9) rfl dX11_keeps_68 ?_
  refine lv_sipush (v := 8277) hx hb dX11_keeps_71 (by decide +kernel) ?_
  refine lv_aload_n hx hb dX11_keeps_74 rfl (lv_at hl 2 rfl) ?_
  refine va_get (D := D) (ci := 14) (v := .int 0) (own := RX11) (C := RX11) (T := TX11) (N := 25) hx hb hts hi_X11 hown hK hP 0 rfl rfl 4 (by decide) (hts (.fieldLink RX11 60 "CanalMapsModel" "undos" "I") (List.mem_of_getElem? (i := 1) (by decide +kernel))) (fun _ h9 => h9) rfl dX11_keeps_75 ?_
  refine lv_imul hx hb dX11_keeps_78 ?_
  refine kt_ (v := 0) (by decide +kernel) ?_
  refine lv_iload_n hx hb dX11_keeps_79 rfl (lv_at hl 0 rfl) ?_
  refine lv_iadd hx hb dX11_keeps_80 ?_
  refine kt_ (v := 66) (by decide +kernel) ?_
  refine lv_aload_n hx hb dX11_keeps_81 rfl (lv_at hl 2 rfl) ?_
  refine va_get (D := D) (ci := 14) (v := .ref h1) (own := RX11) (C := RX11) (T := TX11) (N := 25) hx hb hts hi_X11 hown hK hP 0 rfl rfl 1 (by decide) (hts (.fieldLink RX11 13 "CanalMapsModel" "tried" "[I") (List.mem_of_getElem? (i := 4) (by decide +kernel))) (fun _ h9 => h9) rfl dX11_keeps_82 ?_
  refine lv_iload_n hx hb dX11_keeps_85 rfl (lv_at hl 0 rfl) ?_
  refine va_iald hx hb hK hP 1 0 rfl rfl (vin_ (by decide +kernel)) dX11_keeps_86 ?_
  refine kt_ (v := 0) (by decide +kernel) ?_
  refine ka_iast (g := (fun _ => 0)) hx hb hK hP hD hS 2 1 rfl rfl (vin_ (by decide +kernel)) (up_same (by decide +kernel)) dX11_keeps_87 (fun H locs hP hD hS => ?_)
  have hP : va_P D vwCl [(h0, .inr (14, [v0, .ref h1, v1, .ref h2, .int 0, v2, v3, v4, v5, v6, v7, v8, v9, v10, v11, v12, v13, v14, v15, v16, v17, v18, v19, v20, v21])), (h1, .inl (k1, 8277, .inl (fun _ => 0))), (h2, .inl (k2, 66216, .inl (fun _ => 0)))] H := hP
  have hD : va_D A [(h0, .inr (14, [v0, .ref h1, v1, .ref h2, .int 0, v2, v3, v4, v5, v6, v7, v8, v9, v10, v11, v12, v13, v14, v15, v16, v17, v18, v19, v20, v21])), (h1, .inl (k1, 8277, .inl (fun _ => 0))), (h2, .inl (k2, 66216, .inl (fun _ => 0)))] := hD
  refine lv_iinc (v := 67) (lv' := [(3, .int 67), (2, .int 85), (0, .ref h0), (1, .int 0)]) hx hb dX11_keeps_88 hl (k := 0) rfl (by decide +kernel) (by decide) rfl (fun ls hl => ?_)
  refine lv_goto (tgt := 62) hx hb dX11_keeps_91 (by decide) ?_
  refine lv_iload_n hx hb dX11_keeps_62 rfl (lv_at hl 0 rfl) ?_
  refine lv_iload_n hx hb dX11_keeps_63 rfl (lv_at hl 1 rfl) ?_
  refine lv_icmp_ge (tgt := 94) hx hb dX11_keeps_64 (by decide) (fun c9 => absurd c9 (by decide +kernel)) (fun _ => ?_)
  refine lv_aload_n hx hb dX11_keeps_67 rfl (lv_at hl 2 rfl) ?_
  refine va_get (D := D) (ci := 14) (v := .ref h2) (own := RX11) (C := RX11) (T := TX11) (N := 25) hx hb hts hi_X11 hown hK hP 0 rfl rfl 3 (by decide) (hts (.fieldLink RX11 20 "CanalMapsModel" "kept" "[I") (List.mem_of_getElem? (i := 3) (by decide +kernel))) (fun _ h9 => h9) rfl dX11_keeps_68 ?_
  refine lv_sipush (v := 8277) hx hb dX11_keeps_71 (by decide +kernel) ?_
  refine lv_aload_n hx hb dX11_keeps_74 rfl (lv_at hl 2 rfl) ?_
  refine va_get (D := D) (ci := 14) (v := .int 0) (own := RX11) (C := RX11) (T := TX11) (N := 25) hx hb hts hi_X11 hown hK hP 0 rfl rfl 4 (by decide) (hts (.fieldLink RX11 60 "CanalMapsModel" "undos" "I") (List.mem_of_getElem? (i := 1) (by decide +kernel))) (fun _ h9 => h9) rfl dX11_keeps_75 ?_
  refine lv_imul hx hb dX11_keeps_78 ?_
  refine kt_ (v := 0) (by decide +kernel) ?_
  refine lv_iload_n hx hb dX11_keeps_79 rfl (lv_at hl 0 rfl) ?_
  refine lv_iadd hx hb dX11_keeps_80 ?_
  refine kt_ (v := 67) (by decide +kernel) ?_
  refine lv_aload_n hx hb dX11_keeps_81 rfl (lv_at hl 2 rfl) ?_
  refine va_get (D := D) (ci := 14) (v := .ref h1) (own := RX11) (C := RX11) (T := TX11) (N := 25) hx hb hts hi_X11 hown hK hP 0 rfl rfl 1 (by decide) (hts (.fieldLink RX11 13 "CanalMapsModel" "tried" "[I") (List.mem_of_getElem? (i := 4) (by decide +kernel))) (fun _ h9 => h9) rfl dX11_keeps_82 ?_
  refine lv_iload_n hx hb dX11_keeps_85 rfl (lv_at hl 0 rfl) ?_
  refine va_iald hx hb hK hP 1 0 rfl rfl (vin_ (by decide +kernel)) dX11_keeps_86 ?_
  refine kt_ (v := 0) (by decide +kernel) ?_
  refine ka_iast (g := (fun _ => 0)) hx hb hK hP hD hS 2 1 rfl rfl (vin_ (by decide +kernel)) (up_same (by decide +kernel)) dX11_keeps_87 (fun H locs hP hD hS => ?_)
  have hP : va_P D vwCl [(h0, .inr (14, [v0, .ref h1, v1, .ref h2, .int 0, v2, v3, v4, v5, v6, v7, v8, v9, v10, v11, v12, v13, v14, v15, v16, v17, v18, v19, v20, v21])), (h1, .inl (k1, 8277, .inl (fun _ => 0))), (h2, .inl (k2, 66216, .inl (fun _ => 0)))] H := hP
  have hD : va_D A [(h0, .inr (14, [v0, .ref h1, v1, .ref h2, .int 0, v2, v3, v4, v5, v6, v7, v8, v9, v10, v11, v12, v13, v14, v15, v16, v17, v18, v19, v20, v21])), (h1, .inl (k1, 8277, .inl (fun _ => 0))), (h2, .inl (k2, 66216, .inl (fun _ => 0)))] := hD
  refine lv_iinc (v := 68) (lv' := [(3, .int 68), (2, .int 85), (0, .ref h0), (1, .int 0)]) hx hb dX11_keeps_88 hl (k := 0) rfl (by decide +kernel) (by decide) rfl (fun ls hl => ?_)
  refine lv_goto (tgt := 62) hx hb dX11_keeps_91 (by decide) ?_
  refine lv_iload_n hx hb dX11_keeps_62 rfl (lv_at hl 0 rfl) ?_
  refine lv_iload_n hx hb dX11_keeps_63 rfl (lv_at hl 1 rfl) ?_
  refine lv_icmp_ge (tgt := 94) hx hb dX11_keeps_64 (by decide) (fun c9 => absurd c9 (by decide +kernel)) (fun _ => ?_)
  refine lv_aload_n hx hb dX11_keeps_67 rfl (lv_at hl 2 rfl) ?_
  refine va_get (D := D) (ci := 14) (v := .ref h2) (own := RX11) (C := RX11) (T := TX11) (N := 25) hx hb hts hi_X11 hown hK hP 0 rfl rfl 3 (by decide) (hts (.fieldLink RX11 20 "CanalMapsModel" "kept" "[I") (List.mem_of_getElem? (i := 3) (by decide +kernel))) (fun _ h9 => h9) rfl dX11_keeps_68 ?_
  refine lv_sipush (v := 8277) hx hb dX11_keeps_71 (by decide +kernel) ?_
  refine lv_aload_n hx hb dX11_keeps_74 rfl (lv_at hl 2 rfl) ?_
  refine va_get (D := D) (ci := 14) (v := .int 0) (own := RX11) (C := RX11) (T := TX11) (N := 25) hx hb hts hi_X11 hown hK hP 0 rfl rfl 4 (by decide) (hts (.fieldLink RX11 60 "CanalMapsModel" "undos" "I") (List.mem_of_getElem? (i := 1) (by decide +kernel))) (fun _ h9 => h9) rfl dX11_keeps_75 ?_
  refine lv_imul hx hb dX11_keeps_78 ?_
  refine kt_ (v := 0) (by decide +kernel) ?_
  refine lv_iload_n hx hb dX11_keeps_79 rfl (lv_at hl 0 rfl) ?_
  refine lv_iadd hx hb dX11_keeps_80 ?_
  refine kt_ (v := 68) (by decide +kernel) ?_
  refine lv_aload_n hx hb dX11_keeps_81 rfl (lv_at hl 2 rfl) ?_
  refine va_get (D := D) (ci := 14) (v := .ref h1) (own := RX11) (C := RX11) (T := TX11) (N := 25) hx hb hts hi_X11 hown hK hP 0 rfl rfl 1 (by decide) (hts (.fieldLink RX11 13 "CanalMapsModel" "tried" "[I") (List.mem_of_getElem? (i := 4) (by decide +kernel))) (fun _ h9 => h9) rfl dX11_keeps_82 ?_
  refine lv_iload_n hx hb dX11_keeps_85 rfl (lv_at hl 0 rfl) ?_
  refine va_iald hx hb hK hP 1 0 rfl rfl (vin_ (by decide +kernel)) dX11_keeps_86 ?_
  refine kt_ (v := 0) (by decide +kernel) ?_
  refine ka_iast (g := (fun _ => 0)) hx hb hK hP hD hS 2 1 rfl rfl (vin_ (by decide +kernel)) (up_same (by decide +kernel)) dX11_keeps_87 (fun H locs hP hD hS => ?_)
  have hP : va_P D vwCl [(h0, .inr (14, [v0, .ref h1, v1, .ref h2, .int 0, v2, v3, v4, v5, v6, v7, v8, v9, v10, v11, v12, v13, v14, v15, v16, v17, v18, v19, v20, v21])), (h1, .inl (k1, 8277, .inl (fun _ => 0))), (h2, .inl (k2, 66216, .inl (fun _ => 0)))] H := hP
  have hD : va_D A [(h0, .inr (14, [v0, .ref h1, v1, .ref h2, .int 0, v2, v3, v4, v5, v6, v7, v8, v9, v10, v11, v12, v13, v14, v15, v16, v17, v18, v19, v20, v21])), (h1, .inl (k1, 8277, .inl (fun _ => 0))), (h2, .inl (k2, 66216, .inl (fun _ => 0)))] := hD
  refine lv_iinc (v := 69) (lv' := [(3, .int 69), (2, .int 85), (0, .ref h0), (1, .int 0)]) hx hb dX11_keeps_88 hl (k := 0) rfl (by decide +kernel) (by decide) rfl (fun ls hl => ?_)
  refine lv_goto (tgt := 62) hx hb dX11_keeps_91 (by decide) ?_
  refine lv_iload_n hx hb dX11_keeps_62 rfl (lv_at hl 0 rfl) ?_
  refine lv_iload_n hx hb dX11_keeps_63 rfl (lv_at hl 1 rfl) ?_
  refine lv_icmp_ge (tgt := 94) hx hb dX11_keeps_64 (by decide) (fun c9 => absurd c9 (by decide +kernel)) (fun _ => ?_)
  refine lv_aload_n hx hb dX11_keeps_67 rfl (lv_at hl 2 rfl) ?_
  refine va_get (D := D) (ci := 14) (v := .ref h2) (own := RX11) (C := RX11) (T := TX11) (N := 25) hx hb hts hi_X11 hown hK hP 0 rfl rfl 3 (by decide) (hts (.fieldLink RX11 20 "CanalMapsModel" "kept" "[I") (List.mem_of_getElem? (i := 3) (by decide +kernel))) (fun _ h9 => h9) rfl dX11_keeps_68 ?_
  refine lv_sipush (v := 8277) hx hb dX11_keeps_71 (by decide +kernel) ?_
  refine lv_aload_n hx hb dX11_keeps_74 rfl (lv_at hl 2 rfl) ?_
  refine va_get (D := D) (ci := 14) (v := .int 0) (own := RX11) (C := RX11) (T := TX11) (N := 25) hx hb hts hi_X11 hown hK hP 0 rfl rfl 4 (by decide) (hts (.fieldLink RX11 60 "CanalMapsModel" "undos" "I") (List.mem_of_getElem? (i := 1) (by decide +kernel))) (fun _ h9 => h9) rfl dX11_keeps_75 ?_
  refine lv_imul hx hb dX11_keeps_78 ?_
  refine kt_ (v := 0) (by decide +kernel) ?_
  refine lv_iload_n hx hb dX11_keeps_79 rfl (lv_at hl 0 rfl) ?_
  refine lv_iadd hx hb dX11_keeps_80 ?_
  refine kt_ (v := 69) (by decide +kernel) ?_
  refine lv_aload_n hx hb dX11_keeps_81 rfl (lv_at hl 2 rfl) ?_
  refine va_get (D := D) (ci := 14) (v := .ref h1) (own := RX11) (C := RX11) (T := TX11) (N := 25) hx hb hts hi_X11 hown hK hP 0 rfl rfl 1 (by decide) (hts (.fieldLink RX11 13 "CanalMapsModel" "tried" "[I") (List.mem_of_getElem? (i := 4) (by decide +kernel))) (fun _ h9 => h9) rfl dX11_keeps_82 ?_
  refine lv_iload_n hx hb dX11_keeps_85 rfl (lv_at hl 0 rfl) ?_
  refine va_iald hx hb hK hP 1 0 rfl rfl (vin_ (by decide +kernel)) dX11_keeps_86 ?_
  refine kt_ (v := 0) (by decide +kernel) ?_
  refine ka_iast (g := (fun _ => 0)) hx hb hK hP hD hS 2 1 rfl rfl (vin_ (by decide +kernel)) (up_same (by decide +kernel)) dX11_keeps_87 (fun H locs hP hD hS => ?_)
  have hP : va_P D vwCl [(h0, .inr (14, [v0, .ref h1, v1, .ref h2, .int 0, v2, v3, v4, v5, v6, v7, v8, v9, v10, v11, v12, v13, v14, v15, v16, v17, v18, v19, v20, v21])), (h1, .inl (k1, 8277, .inl (fun _ => 0))), (h2, .inl (k2, 66216, .inl (fun _ => 0)))] H := hP
  have hD : va_D A [(h0, .inr (14, [v0, .ref h1, v1, .ref h2, .int 0, v2, v3, v4, v5, v6, v7, v8, v9, v10, v11, v12, v13, v14, v15, v16, v17, v18, v19, v20, v21])), (h1, .inl (k1, 8277, .inl (fun _ => 0))), (h2, .inl (k2, 66216, .inl (fun _ => 0)))] := hD
  refine lv_iinc (v := 70) (lv' := [(3, .int 70), (2, .int 85), (0, .ref h0), (1, .int 0)]) hx hb dX11_keeps_88 hl (k := 0) rfl (by decide +kernel) (by decide) rfl (fun ls hl => ?_)
  refine lv_goto (tgt := 62) hx hb dX11_keeps_91 (by decide) ?_
  refine lv_iload_n hx hb dX11_keeps_62 rfl (lv_at hl 0 rfl) ?_
  refine lv_iload_n hx hb dX11_keeps_63 rfl (lv_at hl 1 rfl) ?_
  refine lv_icmp_ge (tgt := 94) hx hb dX11_keeps_64 (by decide) (fun c9 => absurd c9 (by decide +kernel)) (fun _ => ?_)
  refine lv_aload_n hx hb dX11_keeps_67 rfl (lv_at hl 2 rfl) ?_
  refine va_get (D := D) (ci := 14) (v := .ref h2) (own := RX11) (C := RX11) (T := TX11) (N := 25) hx hb hts hi_X11 hown hK hP 0 rfl rfl 3 (by decide) (hts (.fieldLink RX11 20 "CanalMapsModel" "kept" "[I") (List.mem_of_getElem? (i := 3) (by decide +kernel))) (fun _ h9 => h9) rfl dX11_keeps_68 ?_
  refine lv_sipush (v := 8277) hx hb dX11_keeps_71 (by decide +kernel) ?_
  refine lv_aload_n hx hb dX11_keeps_74 rfl (lv_at hl 2 rfl) ?_
  refine va_get (D := D) (ci := 14) (v := .int 0) (own := RX11) (C := RX11) (T := TX11) (N := 25) hx hb hts hi_X11 hown hK hP 0 rfl rfl 4 (by decide) (hts (.fieldLink RX11 60 "CanalMapsModel" "undos" "I") (List.mem_of_getElem? (i := 1) (by decide +kernel))) (fun _ h9 => h9) rfl dX11_keeps_75 ?_
  refine lv_imul hx hb dX11_keeps_78 ?_
  refine kt_ (v := 0) (by decide +kernel) ?_
  refine lv_iload_n hx hb dX11_keeps_79 rfl (lv_at hl 0 rfl) ?_
  refine lv_iadd hx hb dX11_keeps_80 ?_
  refine kt_ (v := 70) (by decide +kernel) ?_
  refine lv_aload_n hx hb dX11_keeps_81 rfl (lv_at hl 2 rfl) ?_
  refine va_get (D := D) (ci := 14) (v := .ref h1) (own := RX11) (C := RX11) (T := TX11) (N := 25) hx hb hts hi_X11 hown hK hP 0 rfl rfl 1 (by decide) (hts (.fieldLink RX11 13 "CanalMapsModel" "tried" "[I") (List.mem_of_getElem? (i := 4) (by decide +kernel))) (fun _ h9 => h9) rfl dX11_keeps_82 ?_
  refine lv_iload_n hx hb dX11_keeps_85 rfl (lv_at hl 0 rfl) ?_
  refine va_iald hx hb hK hP 1 0 rfl rfl (vin_ (by decide +kernel)) dX11_keeps_86 ?_
  refine kt_ (v := 0) (by decide +kernel) ?_
  refine ka_iast (g := (fun _ => 0)) hx hb hK hP hD hS 2 1 rfl rfl (vin_ (by decide +kernel)) (up_same (by decide +kernel)) dX11_keeps_87 (fun H locs hP hD hS => ?_)
  have hP : va_P D vwCl [(h0, .inr (14, [v0, .ref h1, v1, .ref h2, .int 0, v2, v3, v4, v5, v6, v7, v8, v9, v10, v11, v12, v13, v14, v15, v16, v17, v18, v19, v20, v21])), (h1, .inl (k1, 8277, .inl (fun _ => 0))), (h2, .inl (k2, 66216, .inl (fun _ => 0)))] H := hP
  have hD : va_D A [(h0, .inr (14, [v0, .ref h1, v1, .ref h2, .int 0, v2, v3, v4, v5, v6, v7, v8, v9, v10, v11, v12, v13, v14, v15, v16, v17, v18, v19, v20, v21])), (h1, .inl (k1, 8277, .inl (fun _ => 0))), (h2, .inl (k2, 66216, .inl (fun _ => 0)))] := hD
  refine lv_iinc (v := 71) (lv' := [(3, .int 71), (2, .int 85), (0, .ref h0), (1, .int 0)]) hx hb dX11_keeps_88 hl (k := 0) rfl (by decide +kernel) (by decide) rfl (fun ls hl => ?_)
  refine lv_goto (tgt := 62) hx hb dX11_keeps_91 (by decide) ?_
  refine lv_iload_n hx hb dX11_keeps_62 rfl (lv_at hl 0 rfl) ?_
  refine lv_iload_n hx hb dX11_keeps_63 rfl (lv_at hl 1 rfl) ?_
  refine lv_icmp_ge (tgt := 94) hx hb dX11_keeps_64 (by decide) (fun c9 => absurd c9 (by decide +kernel)) (fun _ => ?_)
  refine lv_aload_n hx hb dX11_keeps_67 rfl (lv_at hl 2 rfl) ?_
  refine va_get (D := D) (ci := 14) (v := .ref h2) (own := RX11) (C := RX11) (T := TX11) (N := 25) hx hb hts hi_X11 hown hK hP 0 rfl rfl 3 (by decide) (hts (.fieldLink RX11 20 "CanalMapsModel" "kept" "[I") (List.mem_of_getElem? (i := 3) (by decide +kernel))) (fun _ h9 => h9) rfl dX11_keeps_68 ?_
  refine lv_sipush (v := 8277) hx hb dX11_keeps_71 (by decide +kernel) ?_
  refine lv_aload_n hx hb dX11_keeps_74 rfl (lv_at hl 2 rfl) ?_
  refine va_get (D := D) (ci := 14) (v := .int 0) (own := RX11) (C := RX11) (T := TX11) (N := 25) hx hb hts hi_X11 hown hK hP 0 rfl rfl 4 (by decide) (hts (.fieldLink RX11 60 "CanalMapsModel" "undos" "I") (List.mem_of_getElem? (i := 1) (by decide +kernel))) (fun _ h9 => h9) rfl dX11_keeps_75 ?_
  refine lv_imul hx hb dX11_keeps_78 ?_
  refine kt_ (v := 0) (by decide +kernel) ?_
  refine lv_iload_n hx hb dX11_keeps_79 rfl (lv_at hl 0 rfl) ?_
  refine lv_iadd hx hb dX11_keeps_80 ?_
  refine kt_ (v := 71) (by decide +kernel) ?_
  refine lv_aload_n hx hb dX11_keeps_81 rfl (lv_at hl 2 rfl) ?_
  refine va_get (D := D) (ci := 14) (v := .ref h1) (own := RX11) (C := RX11) (T := TX11) (N := 25) hx hb hts hi_X11 hown hK hP 0 rfl rfl 1 (by decide) (hts (.fieldLink RX11 13 "CanalMapsModel" "tried" "[I") (List.mem_of_getElem? (i := 4) (by decide +kernel))) (fun _ h9 => h9) rfl dX11_keeps_82 ?_
  refine lv_iload_n hx hb dX11_keeps_85 rfl (lv_at hl 0 rfl) ?_
  refine va_iald hx hb hK hP 1 0 rfl rfl (vin_ (by decide +kernel)) dX11_keeps_86 ?_
  refine kt_ (v := 0) (by decide +kernel) ?_
  refine ka_iast (g := (fun _ => 0)) hx hb hK hP hD hS 2 1 rfl rfl (vin_ (by decide +kernel)) (up_same (by decide +kernel)) dX11_keeps_87 (fun H locs hP hD hS => ?_)
  have hP : va_P D vwCl [(h0, .inr (14, [v0, .ref h1, v1, .ref h2, .int 0, v2, v3, v4, v5, v6, v7, v8, v9, v10, v11, v12, v13, v14, v15, v16, v17, v18, v19, v20, v21])), (h1, .inl (k1, 8277, .inl (fun _ => 0))), (h2, .inl (k2, 66216, .inl (fun _ => 0)))] H := hP
  have hD : va_D A [(h0, .inr (14, [v0, .ref h1, v1, .ref h2, .int 0, v2, v3, v4, v5, v6, v7, v8, v9, v10, v11, v12, v13, v14, v15, v16, v17, v18, v19, v20, v21])), (h1, .inl (k1, 8277, .inl (fun _ => 0))), (h2, .inl (k2, 66216, .inl (fun _ => 0)))] := hD
  refine lv_iinc (v := 72) (lv' := [(3, .int 72), (2, .int 85), (0, .ref h0), (1, .int 0)]) hx hb dX11_keeps_88 hl (k := 0) rfl (by decide +kernel) (by decide) rfl (fun ls hl => ?_)
  refine lv_goto (tgt := 62) hx hb dX11_keeps_91 (by decide) ?_
  refine lv_iload_n hx hb dX11_keeps_62 rfl (lv_at hl 0 rfl) ?_
  refine lv_iload_n hx hb dX11_keeps_63 rfl (lv_at hl 1 rfl) ?_
  refine lv_icmp_ge (tgt := 94) hx hb dX11_keeps_64 (by decide) (fun c9 => absurd c9 (by decide +kernel)) (fun _ => ?_)
  refine lv_aload_n hx hb dX11_keeps_67 rfl (lv_at hl 2 rfl) ?_
  refine va_get (D := D) (ci := 14) (v := .ref h2) (own := RX11) (C := RX11) (T := TX11) (N := 25) hx hb hts hi_X11 hown hK hP 0 rfl rfl 3 (by decide) (hts (.fieldLink RX11 20 "CanalMapsModel" "kept" "[I") (List.mem_of_getElem? (i := 3) (by decide +kernel))) (fun _ h9 => h9) rfl dX11_keeps_68 ?_
  refine lv_sipush (v := 8277) hx hb dX11_keeps_71 (by decide +kernel) ?_
  refine lv_aload_n hx hb dX11_keeps_74 rfl (lv_at hl 2 rfl) ?_
  refine va_get (D := D) (ci := 14) (v := .int 0) (own := RX11) (C := RX11) (T := TX11) (N := 25) hx hb hts hi_X11 hown hK hP 0 rfl rfl 4 (by decide) (hts (.fieldLink RX11 60 "CanalMapsModel" "undos" "I") (List.mem_of_getElem? (i := 1) (by decide +kernel))) (fun _ h9 => h9) rfl dX11_keeps_75 ?_
  refine lv_imul hx hb dX11_keeps_78 ?_
  refine kt_ (v := 0) (by decide +kernel) ?_
  refine lv_iload_n hx hb dX11_keeps_79 rfl (lv_at hl 0 rfl) ?_
  refine lv_iadd hx hb dX11_keeps_80 ?_
  refine kt_ (v := 72) (by decide +kernel) ?_
  refine lv_aload_n hx hb dX11_keeps_81 rfl (lv_at hl 2 rfl) ?_
  refine va_get (D := D) (ci := 14) (v := .ref h1) (own := RX11) (C := RX11) (T := TX11) (N := 25) hx hb hts hi_X11 hown hK hP 0 rfl rfl 1 (by decide) (hts (.fieldLink RX11 13 "CanalMapsModel" "tried" "[I") (List.mem_of_getElem? (i := 4) (by decide +kernel))) (fun _ h9 => h9) rfl dX11_keeps_82 ?_
  refine lv_iload_n hx hb dX11_keeps_85 rfl (lv_at hl 0 rfl) ?_
  refine va_iald hx hb hK hP 1 0 rfl rfl (vin_ (by decide +kernel)) dX11_keeps_86 ?_
  refine kt_ (v := 0) (by decide +kernel) ?_
  refine ka_iast (g := (fun _ => 0)) hx hb hK hP hD hS 2 1 rfl rfl (vin_ (by decide +kernel)) (up_same (by decide +kernel)) dX11_keeps_87 (fun H locs hP hD hS => ?_)
  have hP : va_P D vwCl [(h0, .inr (14, [v0, .ref h1, v1, .ref h2, .int 0, v2, v3, v4, v5, v6, v7, v8, v9, v10, v11, v12, v13, v14, v15, v16, v17, v18, v19, v20, v21])), (h1, .inl (k1, 8277, .inl (fun _ => 0))), (h2, .inl (k2, 66216, .inl (fun _ => 0)))] H := hP
  have hD : va_D A [(h0, .inr (14, [v0, .ref h1, v1, .ref h2, .int 0, v2, v3, v4, v5, v6, v7, v8, v9, v10, v11, v12, v13, v14, v15, v16, v17, v18, v19, v20, v21])), (h1, .inl (k1, 8277, .inl (fun _ => 0))), (h2, .inl (k2, 66216, .inl (fun _ => 0)))] := hD
  refine lv_iinc (v := 73) (lv' := [(3, .int 73), (2, .int 85), (0, .ref h0), (1, .int 0)]) hx hb dX11_keeps_88 hl (k := 0) rfl (by decide +kernel) (by decide) rfl (fun ls hl => ?_)
  refine lv_goto (tgt := 62) hx hb dX11_keeps_91 (by decide) ?_
  refine lv_iload_n hx hb dX11_keeps_62 rfl (lv_at hl 0 rfl) ?_
  refine lv_iload_n hx hb dX11_keeps_63 rfl (lv_at hl 1 rfl) ?_
  refine lv_icmp_ge (tgt := 94) hx hb dX11_keeps_64 (by decide) (fun c9 => absurd c9 (by decide +kernel)) (fun _ => ?_)
  refine lv_aload_n hx hb dX11_keeps_67 rfl (lv_at hl 2 rfl) ?_
  refine va_get (D := D) (ci := 14) (v := .ref h2) (own := RX11) (C := RX11) (T := TX11) (N := 25) hx hb hts hi_X11 hown hK hP 0 rfl rfl 3 (by decide) (hts (.fieldLink RX11 20 "CanalMapsModel" "kept" "[I") (List.mem_of_getElem? (i := 3) (by decide +kernel))) (fun _ h9 => h9) rfl dX11_keeps_68 ?_
  refine lv_sipush (v := 8277) hx hb dX11_keeps_71 (by decide +kernel) ?_
  refine lv_aload_n hx hb dX11_keeps_74 rfl (lv_at hl 2 rfl) ?_
  refine va_get (D := D) (ci := 14) (v := .int 0) (own := RX11) (C := RX11) (T := TX11) (N := 25) hx hb hts hi_X11 hown hK hP 0 rfl rfl 4 (by decide) (hts (.fieldLink RX11 60 "CanalMapsModel" "undos" "I") (List.mem_of_getElem? (i := 1) (by decide +kernel))) (fun _ h9 => h9) rfl dX11_keeps_75 ?_
  refine lv_imul hx hb dX11_keeps_78 ?_
  refine kt_ (v := 0) (by decide +kernel) ?_
  refine lv_iload_n hx hb dX11_keeps_79 rfl (lv_at hl 0 rfl) ?_
  refine lv_iadd hx hb dX11_keeps_80 ?_
  refine kt_ (v := 73) (by decide +kernel) ?_
  refine lv_aload_n hx hb dX11_keeps_81 rfl (lv_at hl 2 rfl) ?_
  refine va_get (D := D) (ci := 14) (v := .ref h1) (own := RX11) (C := RX11) (T := TX11) (N := 25) hx hb hts hi_X11 hown hK hP 0 rfl rfl 1 (by decide) (hts (.fieldLink RX11 13 "CanalMapsModel" "tried" "[I") (List.mem_of_getElem? (i := 4) (by decide +kernel))) (fun _ h9 => h9) rfl dX11_keeps_82 ?_
  refine lv_iload_n hx hb dX11_keeps_85 rfl (lv_at hl 0 rfl) ?_
  refine va_iald hx hb hK hP 1 0 rfl rfl (vin_ (by decide +kernel)) dX11_keeps_86 ?_
  refine kt_ (v := 0) (by decide +kernel) ?_
  refine ka_iast (g := (fun _ => 0)) hx hb hK hP hD hS 2 1 rfl rfl (vin_ (by decide +kernel)) (up_same (by decide +kernel)) dX11_keeps_87 (fun H locs hP hD hS => ?_)
  have hP : va_P D vwCl [(h0, .inr (14, [v0, .ref h1, v1, .ref h2, .int 0, v2, v3, v4, v5, v6, v7, v8, v9, v10, v11, v12, v13, v14, v15, v16, v17, v18, v19, v20, v21])), (h1, .inl (k1, 8277, .inl (fun _ => 0))), (h2, .inl (k2, 66216, .inl (fun _ => 0)))] H := hP
  have hD : va_D A [(h0, .inr (14, [v0, .ref h1, v1, .ref h2, .int 0, v2, v3, v4, v5, v6, v7, v8, v9, v10, v11, v12, v13, v14, v15, v16, v17, v18, v19, v20, v21])), (h1, .inl (k1, 8277, .inl (fun _ => 0))), (h2, .inl (k2, 66216, .inl (fun _ => 0)))] := hD
  refine lv_iinc (v := 74) (lv' := [(3, .int 74), (2, .int 85), (0, .ref h0), (1, .int 0)]) hx hb dX11_keeps_88 hl (k := 0) rfl (by decide +kernel) (by decide) rfl (fun ls hl => ?_)
  refine lv_goto (tgt := 62) hx hb dX11_keeps_91 (by decide) ?_
  refine lv_iload_n hx hb dX11_keeps_62 rfl (lv_at hl 0 rfl) ?_
  refine lv_iload_n hx hb dX11_keeps_63 rfl (lv_at hl 1 rfl) ?_
  refine lv_icmp_ge (tgt := 94) hx hb dX11_keeps_64 (by decide) (fun c9 => absurd c9 (by decide +kernel)) (fun _ => ?_)
  refine lv_aload_n hx hb dX11_keeps_67 rfl (lv_at hl 2 rfl) ?_
  refine va_get (D := D) (ci := 14) (v := .ref h2) (own := RX11) (C := RX11) (T := TX11) (N := 25) hx hb hts hi_X11 hown hK hP 0 rfl rfl 3 (by decide) (hts (.fieldLink RX11 20 "CanalMapsModel" "kept" "[I") (List.mem_of_getElem? (i := 3) (by decide +kernel))) (fun _ h9 => h9) rfl dX11_keeps_68 ?_
  refine lv_sipush (v := 8277) hx hb dX11_keeps_71 (by decide +kernel) ?_
  refine lv_aload_n hx hb dX11_keeps_74 rfl (lv_at hl 2 rfl) ?_
  refine va_get (D := D) (ci := 14) (v := .int 0) (own := RX11) (C := RX11) (T := TX11) (N := 25) hx hb hts hi_X11 hown hK hP 0 rfl rfl 4 (by decide) (hts (.fieldLink RX11 60 "CanalMapsModel" "undos" "I") (List.mem_of_getElem? (i := 1) (by decide +kernel))) (fun _ h9 => h9) rfl dX11_keeps_75 ?_
  refine lv_imul hx hb dX11_keeps_78 ?_
  refine kt_ (v := 0) (by decide +kernel) ?_
  refine lv_iload_n hx hb dX11_keeps_79 rfl (lv_at hl 0 rfl) ?_
  refine lv_iadd hx hb dX11_keeps_80 ?_
  refine kt_ (v := 74) (by decide +kernel) ?_
  refine lv_aload_n hx hb dX11_keeps_81 rfl (lv_at hl 2 rfl) ?_
  refine va_get (D := D) (ci := 14) (v := .ref h1) (own := RX11) (C := RX11) (T := TX11) (N := 25) hx hb hts hi_X11 hown hK hP 0 rfl rfl 1 (by decide) (hts (.fieldLink RX11 13 "CanalMapsModel" "tried" "[I") (List.mem_of_getElem? (i := 4) (by decide +kernel))) (fun _ h9 => h9) rfl dX11_keeps_82 ?_
  refine lv_iload_n hx hb dX11_keeps_85 rfl (lv_at hl 0 rfl) ?_
  refine va_iald hx hb hK hP 1 0 rfl rfl (vin_ (by decide +kernel)) dX11_keeps_86 ?_
  refine kt_ (v := 0) (by decide +kernel) ?_
  refine ka_iast (g := (fun _ => 0)) hx hb hK hP hD hS 2 1 rfl rfl (vin_ (by decide +kernel)) (up_same (by decide +kernel)) dX11_keeps_87 (fun H locs hP hD hS => ?_)
  have hP : va_P D vwCl [(h0, .inr (14, [v0, .ref h1, v1, .ref h2, .int 0, v2, v3, v4, v5, v6, v7, v8, v9, v10, v11, v12, v13, v14, v15, v16, v17, v18, v19, v20, v21])), (h1, .inl (k1, 8277, .inl (fun _ => 0))), (h2, .inl (k2, 66216, .inl (fun _ => 0)))] H := hP
  have hD : va_D A [(h0, .inr (14, [v0, .ref h1, v1, .ref h2, .int 0, v2, v3, v4, v5, v6, v7, v8, v9, v10, v11, v12, v13, v14, v15, v16, v17, v18, v19, v20, v21])), (h1, .inl (k1, 8277, .inl (fun _ => 0))), (h2, .inl (k2, 66216, .inl (fun _ => 0)))] := hD
  refine lv_iinc (v := 75) (lv' := [(3, .int 75), (2, .int 85), (0, .ref h0), (1, .int 0)]) hx hb dX11_keeps_88 hl (k := 0) rfl (by decide +kernel) (by decide) rfl (fun ls hl => ?_)
  refine lv_goto (tgt := 62) hx hb dX11_keeps_91 (by decide) ?_
  refine lv_iload_n hx hb dX11_keeps_62 rfl (lv_at hl 0 rfl) ?_
  refine lv_iload_n hx hb dX11_keeps_63 rfl (lv_at hl 1 rfl) ?_
  refine lv_icmp_ge (tgt := 94) hx hb dX11_keeps_64 (by decide) (fun c9 => absurd c9 (by decide +kernel)) (fun _ => ?_)
  refine lv_aload_n hx hb dX11_keeps_67 rfl (lv_at hl 2 rfl) ?_
  refine va_get (D := D) (ci := 14) (v := .ref h2) (own := RX11) (C := RX11) (T := TX11) (N := 25) hx hb hts hi_X11 hown hK hP 0 rfl rfl 3 (by decide) (hts (.fieldLink RX11 20 "CanalMapsModel" "kept" "[I") (List.mem_of_getElem? (i := 3) (by decide +kernel))) (fun _ h9 => h9) rfl dX11_keeps_68 ?_
  refine lv_sipush (v := 8277) hx hb dX11_keeps_71 (by decide +kernel) ?_
  refine lv_aload_n hx hb dX11_keeps_74 rfl (lv_at hl 2 rfl) ?_
  refine va_get (D := D) (ci := 14) (v := .int 0) (own := RX11) (C := RX11) (T := TX11) (N := 25) hx hb hts hi_X11 hown hK hP 0 rfl rfl 4 (by decide) (hts (.fieldLink RX11 60 "CanalMapsModel" "undos" "I") (List.mem_of_getElem? (i := 1) (by decide +kernel))) (fun _ h9 => h9) rfl dX11_keeps_75 ?_
  refine lv_imul hx hb dX11_keeps_78 ?_
  refine kt_ (v := 0) (by decide +kernel) ?_
  refine lv_iload_n hx hb dX11_keeps_79 rfl (lv_at hl 0 rfl) ?_
  refine lv_iadd hx hb dX11_keeps_80 ?_
  refine kt_ (v := 75) (by decide +kernel) ?_
  refine lv_aload_n hx hb dX11_keeps_81 rfl (lv_at hl 2 rfl) ?_
  refine va_get (D := D) (ci := 14) (v := .ref h1) (own := RX11) (C := RX11) (T := TX11) (N := 25) hx hb hts hi_X11 hown hK hP 0 rfl rfl 1 (by decide) (hts (.fieldLink RX11 13 "CanalMapsModel" "tried" "[I") (List.mem_of_getElem? (i := 4) (by decide +kernel))) (fun _ h9 => h9) rfl dX11_keeps_82 ?_
  refine lv_iload_n hx hb dX11_keeps_85 rfl (lv_at hl 0 rfl) ?_
  refine va_iald hx hb hK hP 1 0 rfl rfl (vin_ (by decide +kernel)) dX11_keeps_86 ?_
  refine kt_ (v := 0) (by decide +kernel) ?_
  refine ka_iast (g := (fun _ => 0)) hx hb hK hP hD hS 2 1 rfl rfl (vin_ (by decide +kernel)) (up_same (by decide +kernel)) dX11_keeps_87 (fun H locs hP hD hS => ?_)
  have hP : va_P D vwCl [(h0, .inr (14, [v0, .ref h1, v1, .ref h2, .int 0, v2, v3, v4, v5, v6, v7, v8, v9, v10, v11, v12, v13, v14, v15, v16, v17, v18, v19, v20, v21])), (h1, .inl (k1, 8277, .inl (fun _ => 0))), (h2, .inl (k2, 66216, .inl (fun _ => 0)))] H := hP
  have hD : va_D A [(h0, .inr (14, [v0, .ref h1, v1, .ref h2, .int 0, v2, v3, v4, v5, v6, v7, v8, v9, v10, v11, v12, v13, v14, v15, v16, v17, v18, v19, v20, v21])), (h1, .inl (k1, 8277, .inl (fun _ => 0))), (h2, .inl (k2, 66216, .inl (fun _ => 0)))] := hD
  refine lv_iinc (v := 76) (lv' := [(3, .int 76), (2, .int 85), (0, .ref h0), (1, .int 0)]) hx hb dX11_keeps_88 hl (k := 0) rfl (by decide +kernel) (by decide) rfl (fun ls hl => ?_)
  refine lv_goto (tgt := 62) hx hb dX11_keeps_91 (by decide) ?_
  refine lv_iload_n hx hb dX11_keeps_62 rfl (lv_at hl 0 rfl) ?_
  refine lv_iload_n hx hb dX11_keeps_63 rfl (lv_at hl 1 rfl) ?_
  refine lv_icmp_ge (tgt := 94) hx hb dX11_keeps_64 (by decide) (fun c9 => absurd c9 (by decide +kernel)) (fun _ => ?_)
  refine lv_aload_n hx hb dX11_keeps_67 rfl (lv_at hl 2 rfl) ?_
  refine va_get (D := D) (ci := 14) (v := .ref h2) (own := RX11) (C := RX11) (T := TX11) (N := 25) hx hb hts hi_X11 hown hK hP 0 rfl rfl 3 (by decide) (hts (.fieldLink RX11 20 "CanalMapsModel" "kept" "[I") (List.mem_of_getElem? (i := 3) (by decide +kernel))) (fun _ h9 => h9) rfl dX11_keeps_68 ?_
  refine lv_sipush (v := 8277) hx hb dX11_keeps_71 (by decide +kernel) ?_
  refine lv_aload_n hx hb dX11_keeps_74 rfl (lv_at hl 2 rfl) ?_
  refine va_get (D := D) (ci := 14) (v := .int 0) (own := RX11) (C := RX11) (T := TX11) (N := 25) hx hb hts hi_X11 hown hK hP 0 rfl rfl 4 (by decide) (hts (.fieldLink RX11 60 "CanalMapsModel" "undos" "I") (List.mem_of_getElem? (i := 1) (by decide +kernel))) (fun _ h9 => h9) rfl dX11_keeps_75 ?_
  refine lv_imul hx hb dX11_keeps_78 ?_
  refine kt_ (v := 0) (by decide +kernel) ?_
  refine lv_iload_n hx hb dX11_keeps_79 rfl (lv_at hl 0 rfl) ?_
  refine lv_iadd hx hb dX11_keeps_80 ?_
  refine kt_ (v := 76) (by decide +kernel) ?_
  refine lv_aload_n hx hb dX11_keeps_81 rfl (lv_at hl 2 rfl) ?_
  refine va_get (D := D) (ci := 14) (v := .ref h1) (own := RX11) (C := RX11) (T := TX11) (N := 25) hx hb hts hi_X11 hown hK hP 0 rfl rfl 1 (by decide) (hts (.fieldLink RX11 13 "CanalMapsModel" "tried" "[I") (List.mem_of_getElem? (i := 4) (by decide +kernel))) (fun _ h9 => h9) rfl dX11_keeps_82 ?_
  refine lv_iload_n hx hb dX11_keeps_85 rfl (lv_at hl 0 rfl) ?_
  refine va_iald hx hb hK hP 1 0 rfl rfl (vin_ (by decide +kernel)) dX11_keeps_86 ?_
  refine kt_ (v := 0) (by decide +kernel) ?_
  refine ka_iast (g := (fun _ => 0)) hx hb hK hP hD hS 2 1 rfl rfl (vin_ (by decide +kernel)) (up_same (by decide +kernel)) dX11_keeps_87 (fun H locs hP hD hS => ?_)
  have hP : va_P D vwCl [(h0, .inr (14, [v0, .ref h1, v1, .ref h2, .int 0, v2, v3, v4, v5, v6, v7, v8, v9, v10, v11, v12, v13, v14, v15, v16, v17, v18, v19, v20, v21])), (h1, .inl (k1, 8277, .inl (fun _ => 0))), (h2, .inl (k2, 66216, .inl (fun _ => 0)))] H := hP
  have hD : va_D A [(h0, .inr (14, [v0, .ref h1, v1, .ref h2, .int 0, v2, v3, v4, v5, v6, v7, v8, v9, v10, v11, v12, v13, v14, v15, v16, v17, v18, v19, v20, v21])), (h1, .inl (k1, 8277, .inl (fun _ => 0))), (h2, .inl (k2, 66216, .inl (fun _ => 0)))] := hD
  refine lv_iinc (v := 77) (lv' := [(3, .int 77), (2, .int 85), (0, .ref h0), (1, .int 0)]) hx hb dX11_keeps_88 hl (k := 0) rfl (by decide +kernel) (by decide) rfl (fun ls hl => ?_)
  refine lv_goto (tgt := 62) hx hb dX11_keeps_91 (by decide) ?_
  refine lv_iload_n hx hb dX11_keeps_62 rfl (lv_at hl 0 rfl) ?_
  refine lv_iload_n hx hb dX11_keeps_63 rfl (lv_at hl 1 rfl) ?_
  refine lv_icmp_ge (tgt := 94) hx hb dX11_keeps_64 (by decide) (fun c9 => absurd c9 (by decide +kernel)) (fun _ => ?_)
  refine lv_aload_n hx hb dX11_keeps_67 rfl (lv_at hl 2 rfl) ?_
  refine va_get (D := D) (ci := 14) (v := .ref h2) (own := RX11) (C := RX11) (T := TX11) (N := 25) hx hb hts hi_X11 hown hK hP 0 rfl rfl 3 (by decide) (hts (.fieldLink RX11 20 "CanalMapsModel" "kept" "[I") (List.mem_of_getElem? (i := 3) (by decide +kernel))) (fun _ h9 => h9) rfl dX11_keeps_68 ?_
  refine lv_sipush (v := 8277) hx hb dX11_keeps_71 (by decide +kernel) ?_
  refine lv_aload_n hx hb dX11_keeps_74 rfl (lv_at hl 2 rfl) ?_
  refine va_get (D := D) (ci := 14) (v := .int 0) (own := RX11) (C := RX11) (T := TX11) (N := 25) hx hb hts hi_X11 hown hK hP 0 rfl rfl 4 (by decide) (hts (.fieldLink RX11 60 "CanalMapsModel" "undos" "I") (List.mem_of_getElem? (i := 1) (by decide +kernel))) (fun _ h9 => h9) rfl dX11_keeps_75 ?_
  refine lv_imul hx hb dX11_keeps_78 ?_
  refine kt_ (v := 0) (by decide +kernel) ?_
  refine lv_iload_n hx hb dX11_keeps_79 rfl (lv_at hl 0 rfl) ?_
  refine lv_iadd hx hb dX11_keeps_80 ?_
  refine kt_ (v := 77) (by decide +kernel) ?_
  refine lv_aload_n hx hb dX11_keeps_81 rfl (lv_at hl 2 rfl) ?_
  refine va_get (D := D) (ci := 14) (v := .ref h1) (own := RX11) (C := RX11) (T := TX11) (N := 25) hx hb hts hi_X11 hown hK hP 0 rfl rfl 1 (by decide) (hts (.fieldLink RX11 13 "CanalMapsModel" "tried" "[I") (List.mem_of_getElem? (i := 4) (by decide +kernel))) (fun _ h9 => h9) rfl dX11_keeps_82 ?_
  refine lv_iload_n hx hb dX11_keeps_85 rfl (lv_at hl 0 rfl) ?_
  refine va_iald hx hb hK hP 1 0 rfl rfl (vin_ (by decide +kernel)) dX11_keeps_86 ?_
  refine kt_ (v := 0) (by decide +kernel) ?_
  refine ka_iast (g := (fun _ => 0)) hx hb hK hP hD hS 2 1 rfl rfl (vin_ (by decide +kernel)) (up_same (by decide +kernel)) dX11_keeps_87 (fun H locs hP hD hS => ?_)
  have hP : va_P D vwCl [(h0, .inr (14, [v0, .ref h1, v1, .ref h2, .int 0, v2, v3, v4, v5, v6, v7, v8, v9, v10, v11, v12, v13, v14, v15, v16, v17, v18, v19, v20, v21])), (h1, .inl (k1, 8277, .inl (fun _ => 0))), (h2, .inl (k2, 66216, .inl (fun _ => 0)))] H := hP
  have hD : va_D A [(h0, .inr (14, [v0, .ref h1, v1, .ref h2, .int 0, v2, v3, v4, v5, v6, v7, v8, v9, v10, v11, v12, v13, v14, v15, v16, v17, v18, v19, v20, v21])), (h1, .inl (k1, 8277, .inl (fun _ => 0))), (h2, .inl (k2, 66216, .inl (fun _ => 0)))] := hD
  refine lv_iinc (v := 78) (lv' := [(3, .int 78), (2, .int 85), (0, .ref h0), (1, .int 0)]) hx hb dX11_keeps_88 hl (k := 0) rfl (by decide +kernel) (by decide) rfl (fun ls hl => ?_)
  refine lv_goto (tgt := 62) hx hb dX11_keeps_91 (by decide) ?_
  refine lv_iload_n hx hb dX11_keeps_62 rfl (lv_at hl 0 rfl) ?_
  refine lv_iload_n hx hb dX11_keeps_63 rfl (lv_at hl 1 rfl) ?_
  refine lv_icmp_ge (tgt := 94) hx hb dX11_keeps_64 (by decide) (fun c9 => absurd c9 (by decide +kernel)) (fun _ => ?_)
  refine lv_aload_n hx hb dX11_keeps_67 rfl (lv_at hl 2 rfl) ?_
  refine va_get (D := D) (ci := 14) (v := .ref h2) (own := RX11) (C := RX11) (T := TX11) (N := 25) hx hb hts hi_X11 hown hK hP 0 rfl rfl 3 (by decide) (hts (.fieldLink RX11 20 "CanalMapsModel" "kept" "[I") (List.mem_of_getElem? (i := 3) (by decide +kernel))) (fun _ h9 => h9) rfl dX11_keeps_68 ?_
  refine lv_sipush (v := 8277) hx hb dX11_keeps_71 (by decide +kernel) ?_
  refine lv_aload_n hx hb dX11_keeps_74 rfl (lv_at hl 2 rfl) ?_
  refine va_get (D := D) (ci := 14) (v := .int 0) (own := RX11) (C := RX11) (T := TX11) (N := 25) hx hb hts hi_X11 hown hK hP 0 rfl rfl 4 (by decide) (hts (.fieldLink RX11 60 "CanalMapsModel" "undos" "I") (List.mem_of_getElem? (i := 1) (by decide +kernel))) (fun _ h9 => h9) rfl dX11_keeps_75 ?_
  refine lv_imul hx hb dX11_keeps_78 ?_
  refine kt_ (v := 0) (by decide +kernel) ?_
  refine lv_iload_n hx hb dX11_keeps_79 rfl (lv_at hl 0 rfl) ?_
  refine lv_iadd hx hb dX11_keeps_80 ?_
  refine kt_ (v := 78) (by decide +kernel) ?_
  refine lv_aload_n hx hb dX11_keeps_81 rfl (lv_at hl 2 rfl) ?_
  refine va_get (D := D) (ci := 14) (v := .ref h1) (own := RX11) (C := RX11) (T := TX11) (N := 25) hx hb hts hi_X11 hown hK hP 0 rfl rfl 1 (by decide) (hts (.fieldLink RX11 13 "CanalMapsModel" "tried" "[I") (List.mem_of_getElem? (i := 4) (by decide +kernel))) (fun _ h9 => h9) rfl dX11_keeps_82 ?_
  refine lv_iload_n hx hb dX11_keeps_85 rfl (lv_at hl 0 rfl) ?_
  refine va_iald hx hb hK hP 1 0 rfl rfl (vin_ (by decide +kernel)) dX11_keeps_86 ?_
  refine kt_ (v := 0) (by decide +kernel) ?_
  refine ka_iast (g := (fun _ => 0)) hx hb hK hP hD hS 2 1 rfl rfl (vin_ (by decide +kernel)) (up_same (by decide +kernel)) dX11_keeps_87 (fun H locs hP hD hS => ?_)
  have hP : va_P D vwCl [(h0, .inr (14, [v0, .ref h1, v1, .ref h2, .int 0, v2, v3, v4, v5, v6, v7, v8, v9, v10, v11, v12, v13, v14, v15, v16, v17, v18, v19, v20, v21])), (h1, .inl (k1, 8277, .inl (fun _ => 0))), (h2, .inl (k2, 66216, .inl (fun _ => 0)))] H := hP
  have hD : va_D A [(h0, .inr (14, [v0, .ref h1, v1, .ref h2, .int 0, v2, v3, v4, v5, v6, v7, v8, v9, v10, v11, v12, v13, v14, v15, v16, v17, v18, v19, v20, v21])), (h1, .inl (k1, 8277, .inl (fun _ => 0))), (h2, .inl (k2, 66216, .inl (fun _ => 0)))] := hD
  refine lv_iinc (v := 79) (lv' := [(3, .int 79), (2, .int 85), (0, .ref h0), (1, .int 0)]) hx hb dX11_keeps_88 hl (k := 0) rfl (by decide +kernel) (by decide) rfl (fun ls hl => ?_)
  refine lv_goto (tgt := 62) hx hb dX11_keeps_91 (by decide) ?_
  refine lv_iload_n hx hb dX11_keeps_62 rfl (lv_at hl 0 rfl) ?_
  refine lv_iload_n hx hb dX11_keeps_63 rfl (lv_at hl 1 rfl) ?_
  refine lv_icmp_ge (tgt := 94) hx hb dX11_keeps_64 (by decide) (fun c9 => absurd c9 (by decide +kernel)) (fun _ => ?_)
  refine lv_aload_n hx hb dX11_keeps_67 rfl (lv_at hl 2 rfl) ?_
  refine va_get (D := D) (ci := 14) (v := .ref h2) (own := RX11) (C := RX11) (T := TX11) (N := 25) hx hb hts hi_X11 hown hK hP 0 rfl rfl 3 (by decide) (hts (.fieldLink RX11 20 "CanalMapsModel" "kept" "[I") (List.mem_of_getElem? (i := 3) (by decide +kernel))) (fun _ h9 => h9) rfl dX11_keeps_68 ?_
  refine lv_sipush (v := 8277) hx hb dX11_keeps_71 (by decide +kernel) ?_
  refine lv_aload_n hx hb dX11_keeps_74 rfl (lv_at hl 2 rfl) ?_
  refine va_get (D := D) (ci := 14) (v := .int 0) (own := RX11) (C := RX11) (T := TX11) (N := 25) hx hb hts hi_X11 hown hK hP 0 rfl rfl 4 (by decide) (hts (.fieldLink RX11 60 "CanalMapsModel" "undos" "I") (List.mem_of_getElem? (i := 1) (by decide +kernel))) (fun _ h9 => h9) rfl dX11_keeps_75 ?_
  refine lv_imul hx hb dX11_keeps_78 ?_
  refine kt_ (v := 0) (by decide +kernel) ?_
  refine lv_iload_n hx hb dX11_keeps_79 rfl (lv_at hl 0 rfl) ?_
  refine lv_iadd hx hb dX11_keeps_80 ?_
  refine kt_ (v := 79) (by decide +kernel) ?_
  refine lv_aload_n hx hb dX11_keeps_81 rfl (lv_at hl 2 rfl) ?_
  refine va_get (D := D) (ci := 14) (v := .ref h1) (own := RX11) (C := RX11) (T := TX11) (N := 25) hx hb hts hi_X11 hown hK hP 0 rfl rfl 1 (by decide) (hts (.fieldLink RX11 13 "CanalMapsModel" "tried" "[I") (List.mem_of_getElem? (i := 4) (by decide +kernel))) (fun _ h9 => h9) rfl dX11_keeps_82 ?_
  refine lv_iload_n hx hb dX11_keeps_85 rfl (lv_at hl 0 rfl) ?_
  refine va_iald hx hb hK hP 1 0 rfl rfl (vin_ (by decide +kernel)) dX11_keeps_86 ?_
  refine kt_ (v := 0) (by decide +kernel) ?_
  refine ka_iast (g := (fun _ => 0)) hx hb hK hP hD hS 2 1 rfl rfl (vin_ (by decide +kernel)) (up_same (by decide +kernel)) dX11_keeps_87 (fun H locs hP hD hS => ?_)
  have hP : va_P D vwCl [(h0, .inr (14, [v0, .ref h1, v1, .ref h2, .int 0, v2, v3, v4, v5, v6, v7, v8, v9, v10, v11, v12, v13, v14, v15, v16, v17, v18, v19, v20, v21])), (h1, .inl (k1, 8277, .inl (fun _ => 0))), (h2, .inl (k2, 66216, .inl (fun _ => 0)))] H := hP
  have hD : va_D A [(h0, .inr (14, [v0, .ref h1, v1, .ref h2, .int 0, v2, v3, v4, v5, v6, v7, v8, v9, v10, v11, v12, v13, v14, v15, v16, v17, v18, v19, v20, v21])), (h1, .inl (k1, 8277, .inl (fun _ => 0))), (h2, .inl (k2, 66216, .inl (fun _ => 0)))] := hD
  refine lv_iinc (v := 80) (lv' := [(3, .int 80), (2, .int 85), (0, .ref h0), (1, .int 0)]) hx hb dX11_keeps_88 hl (k := 0) rfl (by decide +kernel) (by decide) rfl (fun ls hl => ?_)
  refine lv_goto (tgt := 62) hx hb dX11_keeps_91 (by decide) ?_
  refine lv_iload_n hx hb dX11_keeps_62 rfl (lv_at hl 0 rfl) ?_
  refine lv_iload_n hx hb dX11_keeps_63 rfl (lv_at hl 1 rfl) ?_
  refine lv_icmp_ge (tgt := 94) hx hb dX11_keeps_64 (by decide) (fun c9 => absurd c9 (by decide +kernel)) (fun _ => ?_)
  refine lv_aload_n hx hb dX11_keeps_67 rfl (lv_at hl 2 rfl) ?_
  refine va_get (D := D) (ci := 14) (v := .ref h2) (own := RX11) (C := RX11) (T := TX11) (N := 25) hx hb hts hi_X11 hown hK hP 0 rfl rfl 3 (by decide) (hts (.fieldLink RX11 20 "CanalMapsModel" "kept" "[I") (List.mem_of_getElem? (i := 3) (by decide +kernel))) (fun _ h9 => h9) rfl dX11_keeps_68 ?_
  refine lv_sipush (v := 8277) hx hb dX11_keeps_71 (by decide +kernel) ?_
  refine lv_aload_n hx hb dX11_keeps_74 rfl (lv_at hl 2 rfl) ?_
  refine va_get (D := D) (ci := 14) (v := .int 0) (own := RX11) (C := RX11) (T := TX11) (N := 25) hx hb hts hi_X11 hown hK hP 0 rfl rfl 4 (by decide) (hts (.fieldLink RX11 60 "CanalMapsModel" "undos" "I") (List.mem_of_getElem? (i := 1) (by decide +kernel))) (fun _ h9 => h9) rfl dX11_keeps_75 ?_
  refine lv_imul hx hb dX11_keeps_78 ?_
  refine kt_ (v := 0) (by decide +kernel) ?_
  refine lv_iload_n hx hb dX11_keeps_79 rfl (lv_at hl 0 rfl) ?_
  refine lv_iadd hx hb dX11_keeps_80 ?_
  refine kt_ (v := 80) (by decide +kernel) ?_
  refine lv_aload_n hx hb dX11_keeps_81 rfl (lv_at hl 2 rfl) ?_
  refine va_get (D := D) (ci := 14) (v := .ref h1) (own := RX11) (C := RX11) (T := TX11) (N := 25) hx hb hts hi_X11 hown hK hP 0 rfl rfl 1 (by decide) (hts (.fieldLink RX11 13 "CanalMapsModel" "tried" "[I") (List.mem_of_getElem? (i := 4) (by decide +kernel))) (fun _ h9 => h9) rfl dX11_keeps_82 ?_
  refine lv_iload_n hx hb dX11_keeps_85 rfl (lv_at hl 0 rfl) ?_
  refine va_iald hx hb hK hP 1 0 rfl rfl (vin_ (by decide +kernel)) dX11_keeps_86 ?_
  refine kt_ (v := 0) (by decide +kernel) ?_
  refine ka_iast (g := (fun _ => 0)) hx hb hK hP hD hS 2 1 rfl rfl (vin_ (by decide +kernel)) (up_same (by decide +kernel)) dX11_keeps_87 (fun H locs hP hD hS => ?_)
  have hP : va_P D vwCl [(h0, .inr (14, [v0, .ref h1, v1, .ref h2, .int 0, v2, v3, v4, v5, v6, v7, v8, v9, v10, v11, v12, v13, v14, v15, v16, v17, v18, v19, v20, v21])), (h1, .inl (k1, 8277, .inl (fun _ => 0))), (h2, .inl (k2, 66216, .inl (fun _ => 0)))] H := hP
  have hD : va_D A [(h0, .inr (14, [v0, .ref h1, v1, .ref h2, .int 0, v2, v3, v4, v5, v6, v7, v8, v9, v10, v11, v12, v13, v14, v15, v16, v17, v18, v19, v20, v21])), (h1, .inl (k1, 8277, .inl (fun _ => 0))), (h2, .inl (k2, 66216, .inl (fun _ => 0)))] := hD
  refine lv_iinc (v := 81) (lv' := [(3, .int 81), (2, .int 85), (0, .ref h0), (1, .int 0)]) hx hb dX11_keeps_88 hl (k := 0) rfl (by decide +kernel) (by decide) rfl (fun ls hl => ?_)
  refine lv_goto (tgt := 62) hx hb dX11_keeps_91 (by decide) ?_
  refine lv_iload_n hx hb dX11_keeps_62 rfl (lv_at hl 0 rfl) ?_
  refine lv_iload_n hx hb dX11_keeps_63 rfl (lv_at hl 1 rfl) ?_
  refine lv_icmp_ge (tgt := 94) hx hb dX11_keeps_64 (by decide) (fun c9 => absurd c9 (by decide +kernel)) (fun _ => ?_)
  refine lv_aload_n hx hb dX11_keeps_67 rfl (lv_at hl 2 rfl) ?_
  refine va_get (D := D) (ci := 14) (v := .ref h2) (own := RX11) (C := RX11) (T := TX11) (N := 25) hx hb hts hi_X11 hown hK hP 0 rfl rfl 3 (by decide) (hts (.fieldLink RX11 20 "CanalMapsModel" "kept" "[I") (List.mem_of_getElem? (i := 3) (by decide +kernel))) (fun _ h9 => h9) rfl dX11_keeps_68 ?_
  refine lv_sipush (v := 8277) hx hb dX11_keeps_71 (by decide +kernel) ?_
  refine lv_aload_n hx hb dX11_keeps_74 rfl (lv_at hl 2 rfl) ?_
  refine va_get (D := D) (ci := 14) (v := .int 0) (own := RX11) (C := RX11) (T := TX11) (N := 25) hx hb hts hi_X11 hown hK hP 0 rfl rfl 4 (by decide) (hts (.fieldLink RX11 60 "CanalMapsModel" "undos" "I") (List.mem_of_getElem? (i := 1) (by decide +kernel))) (fun _ h9 => h9) rfl dX11_keeps_75 ?_
  refine lv_imul hx hb dX11_keeps_78 ?_
  refine kt_ (v := 0) (by decide +kernel) ?_
  refine lv_iload_n hx hb dX11_keeps_79 rfl (lv_at hl 0 rfl) ?_
  refine lv_iadd hx hb dX11_keeps_80 ?_
  refine kt_ (v := 81) (by decide +kernel) ?_
  refine lv_aload_n hx hb dX11_keeps_81 rfl (lv_at hl 2 rfl) ?_
  refine va_get (D := D) (ci := 14) (v := .ref h1) (own := RX11) (C := RX11) (T := TX11) (N := 25) hx hb hts hi_X11 hown hK hP 0 rfl rfl 1 (by decide) (hts (.fieldLink RX11 13 "CanalMapsModel" "tried" "[I") (List.mem_of_getElem? (i := 4) (by decide +kernel))) (fun _ h9 => h9) rfl dX11_keeps_82 ?_
  refine lv_iload_n hx hb dX11_keeps_85 rfl (lv_at hl 0 rfl) ?_
  refine va_iald hx hb hK hP 1 0 rfl rfl (vin_ (by decide +kernel)) dX11_keeps_86 ?_
  refine kt_ (v := 0) (by decide +kernel) ?_
  refine ka_iast (g := (fun _ => 0)) hx hb hK hP hD hS 2 1 rfl rfl (vin_ (by decide +kernel)) (up_same (by decide +kernel)) dX11_keeps_87 (fun H locs hP hD hS => ?_)
  have hP : va_P D vwCl [(h0, .inr (14, [v0, .ref h1, v1, .ref h2, .int 0, v2, v3, v4, v5, v6, v7, v8, v9, v10, v11, v12, v13, v14, v15, v16, v17, v18, v19, v20, v21])), (h1, .inl (k1, 8277, .inl (fun _ => 0))), (h2, .inl (k2, 66216, .inl (fun _ => 0)))] H := hP
  have hD : va_D A [(h0, .inr (14, [v0, .ref h1, v1, .ref h2, .int 0, v2, v3, v4, v5, v6, v7, v8, v9, v10, v11, v12, v13, v14, v15, v16, v17, v18, v19, v20, v21])), (h1, .inl (k1, 8277, .inl (fun _ => 0))), (h2, .inl (k2, 66216, .inl (fun _ => 0)))] := hD
  refine lv_iinc (v := 82) (lv' := [(3, .int 82), (2, .int 85), (0, .ref h0), (1, .int 0)]) hx hb dX11_keeps_88 hl (k := 0) rfl (by decide +kernel) (by decide) rfl (fun ls hl => ?_)
  refine lv_goto (tgt := 62) hx hb dX11_keeps_91 (by decide) ?_
  refine lv_iload_n hx hb dX11_keeps_62 rfl (lv_at hl 0 rfl) ?_
  refine lv_iload_n hx hb dX11_keeps_63 rfl (lv_at hl 1 rfl) ?_
  refine lv_icmp_ge (tgt := 94) hx hb dX11_keeps_64 (by decide) (fun c9 => absurd c9 (by decide +kernel)) (fun _ => ?_)
  refine lv_aload_n hx hb dX11_keeps_67 rfl (lv_at hl 2 rfl) ?_
  refine va_get (D := D) (ci := 14) (v := .ref h2) (own := RX11) (C := RX11) (T := TX11) (N := 25) hx hb hts hi_X11 hown hK hP 0 rfl rfl 3 (by decide) (hts (.fieldLink RX11 20 "CanalMapsModel" "kept" "[I") (List.mem_of_getElem? (i := 3) (by decide +kernel))) (fun _ h9 => h9) rfl dX11_keeps_68 ?_
  refine lv_sipush (v := 8277) hx hb dX11_keeps_71 (by decide +kernel) ?_
  refine lv_aload_n hx hb dX11_keeps_74 rfl (lv_at hl 2 rfl) ?_
  refine va_get (D := D) (ci := 14) (v := .int 0) (own := RX11) (C := RX11) (T := TX11) (N := 25) hx hb hts hi_X11 hown hK hP 0 rfl rfl 4 (by decide) (hts (.fieldLink RX11 60 "CanalMapsModel" "undos" "I") (List.mem_of_getElem? (i := 1) (by decide +kernel))) (fun _ h9 => h9) rfl dX11_keeps_75 ?_
  refine lv_imul hx hb dX11_keeps_78 ?_
  refine kt_ (v := 0) (by decide +kernel) ?_
  refine lv_iload_n hx hb dX11_keeps_79 rfl (lv_at hl 0 rfl) ?_
  refine lv_iadd hx hb dX11_keeps_80 ?_
  refine kt_ (v := 82) (by decide +kernel) ?_
  refine lv_aload_n hx hb dX11_keeps_81 rfl (lv_at hl 2 rfl) ?_
  refine va_get (D := D) (ci := 14) (v := .ref h1) (own := RX11) (C := RX11) (T := TX11) (N := 25) hx hb hts hi_X11 hown hK hP 0 rfl rfl 1 (by decide) (hts (.fieldLink RX11 13 "CanalMapsModel" "tried" "[I") (List.mem_of_getElem? (i := 4) (by decide +kernel))) (fun _ h9 => h9) rfl dX11_keeps_82 ?_
  refine lv_iload_n hx hb dX11_keeps_85 rfl (lv_at hl 0 rfl) ?_
  refine va_iald hx hb hK hP 1 0 rfl rfl (vin_ (by decide +kernel)) dX11_keeps_86 ?_
  refine kt_ (v := 0) (by decide +kernel) ?_
  refine ka_iast (g := (fun _ => 0)) hx hb hK hP hD hS 2 1 rfl rfl (vin_ (by decide +kernel)) (up_same (by decide +kernel)) dX11_keeps_87 (fun H locs hP hD hS => ?_)
  have hP : va_P D vwCl [(h0, .inr (14, [v0, .ref h1, v1, .ref h2, .int 0, v2, v3, v4, v5, v6, v7, v8, v9, v10, v11, v12, v13, v14, v15, v16, v17, v18, v19, v20, v21])), (h1, .inl (k1, 8277, .inl (fun _ => 0))), (h2, .inl (k2, 66216, .inl (fun _ => 0)))] H := hP
  have hD : va_D A [(h0, .inr (14, [v0, .ref h1, v1, .ref h2, .int 0, v2, v3, v4, v5, v6, v7, v8, v9, v10, v11, v12, v13, v14, v15, v16, v17, v18, v19, v20, v21])), (h1, .inl (k1, 8277, .inl (fun _ => 0))), (h2, .inl (k2, 66216, .inl (fun _ => 0)))] := hD
  refine lv_iinc (v := 83) (lv' := [(3, .int 83), (2, .int 85), (0, .ref h0), (1, .int 0)]) hx hb dX11_keeps_88 hl (k := 0) rfl (by decide +kernel) (by decide) rfl (fun ls hl => ?_)
  refine lv_goto (tgt := 62) hx hb dX11_keeps_91 (by decide) ?_
  refine lv_iload_n hx hb dX11_keeps_62 rfl (lv_at hl 0 rfl) ?_
  refine lv_iload_n hx hb dX11_keeps_63 rfl (lv_at hl 1 rfl) ?_
  refine lv_icmp_ge (tgt := 94) hx hb dX11_keeps_64 (by decide) (fun c9 => absurd c9 (by decide +kernel)) (fun _ => ?_)
  refine lv_aload_n hx hb dX11_keeps_67 rfl (lv_at hl 2 rfl) ?_
  refine va_get (D := D) (ci := 14) (v := .ref h2) (own := RX11) (C := RX11) (T := TX11) (N := 25) hx hb hts hi_X11 hown hK hP 0 rfl rfl 3 (by decide) (hts (.fieldLink RX11 20 "CanalMapsModel" "kept" "[I") (List.mem_of_getElem? (i := 3) (by decide +kernel))) (fun _ h9 => h9) rfl dX11_keeps_68 ?_
  refine lv_sipush (v := 8277) hx hb dX11_keeps_71 (by decide +kernel) ?_
  refine lv_aload_n hx hb dX11_keeps_74 rfl (lv_at hl 2 rfl) ?_
  refine va_get (D := D) (ci := 14) (v := .int 0) (own := RX11) (C := RX11) (T := TX11) (N := 25) hx hb hts hi_X11 hown hK hP 0 rfl rfl 4 (by decide) (hts (.fieldLink RX11 60 "CanalMapsModel" "undos" "I") (List.mem_of_getElem? (i := 1) (by decide +kernel))) (fun _ h9 => h9) rfl dX11_keeps_75 ?_
  refine lv_imul hx hb dX11_keeps_78 ?_
  refine kt_ (v := 0) (by decide +kernel) ?_
  refine lv_iload_n hx hb dX11_keeps_79 rfl (lv_at hl 0 rfl) ?_
  refine lv_iadd hx hb dX11_keeps_80 ?_
  refine kt_ (v := 83) (by decide +kernel) ?_
  refine lv_aload_n hx hb dX11_keeps_81 rfl (lv_at hl 2 rfl) ?_
  refine va_get (D := D) (ci := 14) (v := .ref h1) (own := RX11) (C := RX11) (T := TX11) (N := 25) hx hb hts hi_X11 hown hK hP 0 rfl rfl 1 (by decide) (hts (.fieldLink RX11 13 "CanalMapsModel" "tried" "[I") (List.mem_of_getElem? (i := 4) (by decide +kernel))) (fun _ h9 => h9) rfl dX11_keeps_82 ?_
  refine lv_iload_n hx hb dX11_keeps_85 rfl (lv_at hl 0 rfl) ?_
  refine va_iald hx hb hK hP 1 0 rfl rfl (vin_ (by decide +kernel)) dX11_keeps_86 ?_
  refine kt_ (v := 0) (by decide +kernel) ?_
  refine ka_iast (g := (fun _ => 0)) hx hb hK hP hD hS 2 1 rfl rfl (vin_ (by decide +kernel)) (up_same (by decide +kernel)) dX11_keeps_87 (fun H locs hP hD hS => ?_)
  have hP : va_P D vwCl [(h0, .inr (14, [v0, .ref h1, v1, .ref h2, .int 0, v2, v3, v4, v5, v6, v7, v8, v9, v10, v11, v12, v13, v14, v15, v16, v17, v18, v19, v20, v21])), (h1, .inl (k1, 8277, .inl (fun _ => 0))), (h2, .inl (k2, 66216, .inl (fun _ => 0)))] H := hP
  have hD : va_D A [(h0, .inr (14, [v0, .ref h1, v1, .ref h2, .int 0, v2, v3, v4, v5, v6, v7, v8, v9, v10, v11, v12, v13, v14, v15, v16, v17, v18, v19, v20, v21])), (h1, .inl (k1, 8277, .inl (fun _ => 0))), (h2, .inl (k2, 66216, .inl (fun _ => 0)))] := hD
  refine lv_iinc (v := 84) (lv' := [(3, .int 84), (2, .int 85), (0, .ref h0), (1, .int 0)]) hx hb dX11_keeps_88 hl (k := 0) rfl (by decide +kernel) (by decide) rfl (fun ls hl => ?_)
  refine lv_goto (tgt := 62) hx hb dX11_keeps_91 (by decide) ?_
  refine lv_iload_n hx hb dX11_keeps_62 rfl (lv_at hl 0 rfl) ?_
  refine lv_iload_n hx hb dX11_keeps_63 rfl (lv_at hl 1 rfl) ?_
  refine lv_icmp_ge (tgt := 94) hx hb dX11_keeps_64 (by decide) (fun c9 => absurd c9 (by decide +kernel)) (fun _ => ?_)
  refine lv_aload_n hx hb dX11_keeps_67 rfl (lv_at hl 2 rfl) ?_
  refine va_get (D := D) (ci := 14) (v := .ref h2) (own := RX11) (C := RX11) (T := TX11) (N := 25) hx hb hts hi_X11 hown hK hP 0 rfl rfl 3 (by decide) (hts (.fieldLink RX11 20 "CanalMapsModel" "kept" "[I") (List.mem_of_getElem? (i := 3) (by decide +kernel))) (fun _ h9 => h9) rfl dX11_keeps_68 ?_
  refine lv_sipush (v := 8277) hx hb dX11_keeps_71 (by decide +kernel) ?_
  refine lv_aload_n hx hb dX11_keeps_74 rfl (lv_at hl 2 rfl) ?_
  refine va_get (D := D) (ci := 14) (v := .int 0) (own := RX11) (C := RX11) (T := TX11) (N := 25) hx hb hts hi_X11 hown hK hP 0 rfl rfl 4 (by decide) (hts (.fieldLink RX11 60 "CanalMapsModel" "undos" "I") (List.mem_of_getElem? (i := 1) (by decide +kernel))) (fun _ h9 => h9) rfl dX11_keeps_75 ?_
  refine lv_imul hx hb dX11_keeps_78 ?_
  refine kt_ (v := 0) (by decide +kernel) ?_
  refine lv_iload_n hx hb dX11_keeps_79 rfl (lv_at hl 0 rfl) ?_
  refine lv_iadd hx hb dX11_keeps_80 ?_
  refine kt_ (v := 84) (by decide +kernel) ?_
  refine lv_aload_n hx hb dX11_keeps_81 rfl (lv_at hl 2 rfl) ?_
  refine va_get (D := D) (ci := 14) (v := .ref h1) (own := RX11) (C := RX11) (T := TX11) (N := 25) hx hb hts hi_X11 hown hK hP 0 rfl rfl 1 (by decide) (hts (.fieldLink RX11 13 "CanalMapsModel" "tried" "[I") (List.mem_of_getElem? (i := 4) (by decide +kernel))) (fun _ h9 => h9) rfl dX11_keeps_82 ?_
  refine lv_iload_n hx hb dX11_keeps_85 rfl (lv_at hl 0 rfl) ?_
  refine va_iald hx hb hK hP 1 0 rfl rfl (vin_ (by decide +kernel)) dX11_keeps_86 ?_
  refine kt_ (v := 0) (by decide +kernel) ?_
  refine ka_iast (g := (fun _ => 0)) hx hb hK hP hD hS 2 1 rfl rfl (vin_ (by decide +kernel)) (up_same (by decide +kernel)) dX11_keeps_87 (fun H locs hP hD hS => ?_)
  have hP : va_P D vwCl [(h0, .inr (14, [v0, .ref h1, v1, .ref h2, .int 0, v2, v3, v4, v5, v6, v7, v8, v9, v10, v11, v12, v13, v14, v15, v16, v17, v18, v19, v20, v21])), (h1, .inl (k1, 8277, .inl (fun _ => 0))), (h2, .inl (k2, 66216, .inl (fun _ => 0)))] H := hP
  have hD : va_D A [(h0, .inr (14, [v0, .ref h1, v1, .ref h2, .int 0, v2, v3, v4, v5, v6, v7, v8, v9, v10, v11, v12, v13, v14, v15, v16, v17, v18, v19, v20, v21])), (h1, .inl (k1, 8277, .inl (fun _ => 0))), (h2, .inl (k2, 66216, .inl (fun _ => 0)))] := hD
  refine lv_iinc (v := 85) (lv' := [(3, .int 85), (2, .int 85), (0, .ref h0), (1, .int 0)]) hx hb dX11_keeps_88 hl (k := 0) rfl (by decide +kernel) (by decide) rfl (fun ls hl => ?_)
  refine lv_goto (tgt := 62) hx hb dX11_keeps_91 (by decide) ?_
  refine lv_iload_n hx hb dX11_keeps_62 rfl (lv_at hl 0 rfl) ?_
  refine lv_iload_n hx hb dX11_keeps_63 rfl (lv_at hl 1 rfl) ?_
  refine lv_icmp_ge (tgt := 94) hx hb dX11_keeps_64 (by decide) (fun _ => ?_) (fun c9 => absurd (by decide +kernel) c9)
  refine lv_aload_n hx hb dX11_keeps_94 rfl (lv_at hl 2 rfl) ?_
  refine lv_dup hx hb dX11_keeps_95 rfl ?_
  refine va_get (D := D) (ci := 14) (v := .int 0) (own := RX11) (C := RX11) (T := TX11) (N := 25) hx hb hts hi_X11 hown hK hP 0 rfl rfl 4 (by decide) (hts (.fieldLink RX11 60 "CanalMapsModel" "undos" "I") (List.mem_of_getElem? (i := 1) (by decide +kernel))) (fun _ h9 => h9) rfl dX11_keeps_96 ?_
  refine lv_iconst (v := 1) hx hb dX11_keeps_99 (by decide) ?_
  refine lv_iadd hx hb dX11_keeps_100 ?_
  refine kt_ (v := 1) (by decide +kernel) ?_
  refine va_put (D := D) (ci := 14) (v := .int 1) (ty := .int) (own := RX11) (C := RX11) (T := TX11) (N := 25) hx hb hts hi_X11 tyX11 tyX11_ok nmX11 hown hK hP hD hS 0 rfl rfl 4 (by decide) (hts (.fieldLink RX11 60 "CanalMapsModel" "undos" "I") (List.mem_of_getElem? (i := 1) (by decide +kernel))) (fun _ h9 => h9) rfl (by decide +kernel) rfl rfl (Nat.le_of_ble_eq_true rfl) dX11_keeps_101 (fun H locs hP hD hS => ?_)
  have hP : va_P D vwCl [(h0, .inr (14, [v0, .ref h1, v1, .ref h2, .int 1, v2, v3, v4, v5, v6, v7, v8, v9, v10, v11, v12, v13, v14, v15, v16, v17, v18, v19, v20, v21])), (h1, .inl (k1, 8277, .inl (fun _ => 0))), (h2, .inl (k2, 66216, .inl (fun _ => 0)))] H := hP
  have hD : va_D A [(h0, .inr (14, [v0, .ref h1, v1, .ref h2, .int 1, v2, v3, v4, v5, v6, v7, v8, v9, v10, v11, v12, v13, v14, v15, v16, v17, v18, v19, v20, v21])), (h1, .inl (k1, 8277, .inl (fun _ => 0))), (h2, .inl (k2, 66216, .inl (fun _ => 0)))] := hD
  refine lv_iload_n hx hb dX11_keeps_104 rfl (lv_at hl 3 rfl) ?_
  refine W.widen (k := 0) (n := 0) (Nat.le_of_ble_eq_true rfl) (Nat.le_of_ble_eq_true rfl) ?_
  exact W.iret (v := 0) hx hb hr (QG_.mk (fun _ => 0) (fun _ => 0) (fun _ => 0) [0, 1, 2] [0, 1] hP hD hK hS rfl trivial rfl (by decide) rfl) hS.2.2 dX11_keeps_105
set_option maxHeartbeats 4000000 in
set_option maxRecDepth 100000 in
theorem c_X11_ends_0 (l : Launch) (hl0 : l.stackTraces = false) (D : va_G) (ad : Nat → Nat) (sz : Nat) (h0 : Nat) (h1 : Nat) (h2 : Nat) (k1 : ClassId) (k2 : ClassId) (v0 : Value) (v1 : Value) (v2 : Value) (v3 : Value) (v4 : Value) (v5 : Value) (v6 : Value) (v7 : Value) (v8 : Value) (v9 : Value) (v10 : Value) (v11 : Value) (v12 : Value) (v13 : Value) (v14 : Value) (v15 : Value) (v16 : Value) (v17 : Value) (v18 : Value) (v19 : Value) (v20 : Value) : Met l yX11_ends wsX11_ends ({ frames := 1, cells := 0, slots := 0, locals := 25 }) (PC_ D ad [(h0, .inr (14, [v0, .ref h1, v1, .ref h2, .int 0, v2, v3, v4, v5, v6, v7, v8, v9, v10, v11, v12, v13, v14, v15, v16, v17, v18, .int 0, v19, v20])), (h1, .inl (k1, 8277, .inl (fun _ => 0))), (h2, .inl (k2, 66216, .inl (fun _ => 0)))] [(k1, .int), (k2, .int)] sz [.ref h0, .int 1]) (QG_ D (fun q i => some (.int 0)) (fun q i => True) (fun q k i => [(h0, .inr (14, [v0, .ref h1, v1, .ref h2, .int 1, v2, v3, v4, v5, v6, v7, v8, v9, v10, v11, v12, v13, v14, v15, v16, v17, v18, .int 0, v19, v20])), (h1, .inl (k1, 8277, .inl (fun _ => 0))), (h2, .inl (k2, 66216, .inl (fun _ => 0)))]) (fun q k i => [(k1, .int), (k2, .int)]) (va_A [(h0, .inr (14, [v0, .ref h1, v1, .ref h2, .int 0, v2, v3, v4, v5, v6, v7, v8, v9, v10, v11, v12, v13, v14, v15, v16, v17, v18, .int 0, v19, v20])), (h1, .inl (k1, 8277, .inl (fun _ => 0))), (h2, .inl (k2, 66216, .inl (fun _ => 0)))] sz)) 0 0 (va_A [(h0, .inr (14, [v0, .ref h1, v1, .ref h2, .int 0, v2, v3, v4, v5, v6, v7, v8, v9, v10, v11, v12, v13, v14, v15, v16, v17, v18, .int 0, v19, v20])), (h1, .inl (k1, 8277, .inl (fun _ => 0))), (h2, .inl (k2, 66216, .inl (fun _ => 0)))] sz) := by
  refine Met.ofW (cc := cX11_ends) (maxL := 2) (ret := (some .int)) (by decide) rfl ?_
  intro p e s m args below meth c s₁ B hml hv
  obtain ⟨rfl, hsz, hP, hK, hD0, hF⟩ := hv
  have hx := B.exec
  have hb := B.bytes
  have hr := B.returns
  have hts := atoms_spec (ws := wsX11_ends) B.pre
  have hown : s.vm.findClass RX11 = some m.cls := findClass_of_methodNamed B.named
  have hlocks := B.notSynchronized
  subst hsz
  have hD := hD0.self (sz := s.heap.size)
  generalize hAe : va_A [(h0, .inr (14, [v0, .ref h1, v1, .ref h2, .int 0, v2, v3, v4, v5, v6, v7, v8, v9, v10, v11, v12, v13, v14, v15, v16, v17, v18, .int 0, v19, v20])), (h1, .inl (k1, 8277, .inl (fun _ => 0))), (h2, .inl (k2, 66216, .inl (fun _ => 0)))] s.heap.size = A at hD hF ⊢
  have hA : ∀ q : Nat, s.heap.size ≤ q → A q := fun q h => by rw [← hAe]; exact Or.inr h
  obtain ⟨H, hHe⟩ : ∃ H : Heap, H = s.heap := ⟨_, rfl⟩
  have hS : va_S A s.heap H [] := by rw [hHe]; exact va_S.rf
  have hP : va_P D vwCl [(h0, .inr (14, [v0, .ref h1, v1, .ref h2, .int 0, v2, v3, v4, v5, v6, v7, v8, v9, v10, v11, v12, v13, v14, v15, v16, v17, v18, .int 0, v19, v20])), (h1, .inl (k1, 8277, .inl (fun _ => 0))), (h2, .inl (k2, 66216, .inl (fun _ => 0)))] H := by rw [hHe]; exact hP
  rw [← hHe]
  have hi_X11 : ∀ w ∈ wsX110, w ∈ wsX11_ends := by decide +kernel
  have hl := lv_entry [.ref h0, .int 1] (n := 2) (Nat.le_of_ble_eq_true rfl)
  rw [lg_entry_eq]
  generalize (lg_sl [.ref h0, .int 1] ++ List.replicate (2 - (lg_sl [.ref h0, .int 1]).length) Slot.unset).toArray = ls at hl ⊢
  have hl : lv_has ls 2 [(0, .ref h0), (1, .int 1)] := hl
  refine lv_iload_n hx hb dX11_ends_0 rfl (lv_at hl 1 rfl) ?_
  refine lv_if_eq (tgt := 13) hx hb dX11_ends_1 (by decide) (fun c9 => absurd c9 (by decide +kernel)) (fun _ => ?_)
  refine lv_aload_n hx hb dX11_ends_4 rfl (lv_at hl 0 rfl) ?_
  refine lv_aload_n hx hb dX11_ends_5 rfl (lv_at hl 0 rfl) ?_
  refine va_get (D := D) (ci := 14) (v := .int 0) (own := RX11) (C := RX11) (T := TX11) (N := 25) hx hb hts hi_X11 hown hK hP 0 rfl rfl 22 (by decide) (hts (.fieldLink RX11 64 "CanalMapsModel" "answer" "I") (List.mem_of_getElem? (i := 1) (by decide +kernel))) (fun _ h9 => h9) rfl dX11_ends_6 ?_
  refine kc_ (wc := [(h0, .inr (14, [v0, .ref h1, v1, .ref h2, .int 0, v2, v3, v4, v5, v6, v7, v8, v9, v10, v11, v12, v13, v14, v15, v16, v17, v18, .int 0, v19, v20])), (h1, .inl (k1, 8277, .inl (fun _ => 0))), (h2, .inl (k2, 66216, .inl (fun _ => 0)))]) (wr := []) (va_runV (As := [.int 0]) (rest := []) ⟨hx, hb, hml, hown, hts⟩ (c_X11_keeps_0 l hl0 D ad H.size h0 h1 h2 k1 k2 (v0) (v1) (v2) (v3) (v4) (v5) (v6) (v7) (v8) (v9) (v10) (v11) (v12) (v13) (v14) (v15) (v16) (v17) (v18) (.int 0) (v19) (v20)) (cwV 1 hts gX11_ends_X11_keeps rfl rfl rfl (by decide +kernel) ⟨Nat.le_of_ble_eq_true rfl, Nat.le_of_ble_eq_true rfl⟩) ⟨PC_.blind, va_recv hK hP (ci := 14) (q0 := 0) rfl rfl, PC_.pre hF hK hP hD hS hA [0, 1, 2] [0, 1] rfl (by decide) rfl⟩ rfl rfl hl.1 rfl (lv_room (Nat.le_of_ble_eq_true rfl)) dX11_ends_9 ⟨Nat.le_of_ble_eq_true rfl, Nat.le_of_ble_eq_true rfl⟩) hK hP hD hS hA [0, 1, 2] [] [] rfl rfl (by decide) (by decide) rfl (fun qa_1 ka_1 ia_1 H locs hpo hP hD hK hS => ?_)
  have hP : va_P D vwCl [(h0, .inr (14, [v0, .ref h1, v1, .ref h2, .int 1, v2, v3, v4, v5, v6, v7, v8, v9, v10, v11, v12, v13, v14, v15, v16, v17, v18, .int 0, v19, v20])), (h1, .inl (k1, 8277, .inl (fun _ => 0))), (h2, .inl (k2, 66216, .inl (fun _ => 0)))] H := hP
  have hD : va_D A [(h0, .inr (14, [v0, .ref h1, v1, .ref h2, .int 1, v2, v3, v4, v5, v6, v7, v8, v9, v10, v11, v12, v13, v14, v15, v16, v17, v18, .int 0, v19, v20])), (h1, .inl (k1, 8277, .inl (fun _ => 0))), (h2, .inl (k2, 66216, .inl (fun _ => 0)))] := hD
  have hK : va_K D vwCl [(k1, .int), (k2, .int)] s := hK
  refine W.eq (g2 := F0 m 12 ls [.int 0]) rfl ?_
  refine W.widen (k := 0) (n := 0) (Nat.le_of_ble_eq_true rfl) (Nat.le_of_ble_eq_true rfl) ?_
  exact W.iret (v := 0) hx hb hr (QG_.mk (fun _ => 0) (fun _ => 0) (fun _ => 0) [0, 1, 2] [0, 1] hP hD hK hS rfl trivial rfl (by decide) rfl) hS.2.2 dX11_ends_12
set_option maxHeartbeats 4000000 in
set_option maxRecDepth 100000 in
theorem c_X11_come_0 (l : Launch) (hl0 : l.stackTraces = false) (D : va_G) (ad : Nat → Nat) (sz : Nat) (h0 : Nat) (h1 : Nat) (h2 : Nat) (h3 : Nat) (h4 : Nat) (k1 : ClassId) (k2 : ClassId) (k3 : ClassId) (k4 : ClassId) (v0 : Value) (v1 : Value) (v2 : Value) (v3 : Value) (v4 : Value) (v5 : Value) (v6 : Value) (v7 : Value) (v8 : Value) (v9 : Value) (v10 : Value) (v11 : Value) (v12 : Value) (v13 : Value) (v14 : Value) (v15 : Value) (v16 : Value) (v17 : Value) : Met l yX11_come wsX11_come ({ frames := 4, cells := 0, slots := 0, locals := 99 }) (PC_ D ad [(h0, .inr (14, [.ref h1, .ref h2, v0, .ref h4, .int 0, v1, v2, .ref h3, .int 0, v3, v4, v5, v6, v7, v8, v9, v10, v11, v12, v13, v14, v15, .int 0, v16, v17])), (h1, .inl (k1, 8277, .inl (fun _ => 0))), (h2, .inl (k2, 8277, .inl (fun _ => 0))), (h3, .inl (k3, 147456, .inl (fun _ => 0))), (h4, .inl (k4, 66216, .inl (fun _ => 0)))] [(k1, .int), (k2, .int), (k3, .int), (k4, .int)] sz [.ref h0]) (QG_ D (fun q i => some (.int 0)) (fun q i => True) (fun q k i => [(h0, .inr (14, [.ref h1, .ref h2, v0, .ref h4, .int 1, v1, v2, .ref h3, .int 1, .int 0, v4, v5, v6, v7, v8, v9, v10, v11, v12, v13, v14, v15, .int 0, .int 0, v17])), (h1, .inl (k1, 8277, .inl (upd (upd (upd (fun _ => 0) 0 1) 48 1) 5 1))), (h2, .inl (k2, 8277, .inl (fun _ => 0))), (h3, .inl (k3, 147456, .inl (upd (fun _ => 0) 1 1))), (h4, .inl (k4, 66216, .inl (fun _ => 0)))]) (fun q k i => [(k1, .int), (k2, .int), (k3, .int), (k4, .int)]) (va_A [(h0, .inr (14, [.ref h1, .ref h2, v0, .ref h4, .int 0, v1, v2, .ref h3, .int 0, v3, v4, v5, v6, v7, v8, v9, v10, v11, v12, v13, v14, v15, .int 0, v16, v17])), (h1, .inl (k1, 8277, .inl (fun _ => 0))), (h2, .inl (k2, 8277, .inl (fun _ => 0))), (h3, .inl (k3, 147456, .inl (fun _ => 0))), (h4, .inl (k4, 66216, .inl (fun _ => 0)))] sz)) 0 0 (va_A [(h0, .inr (14, [.ref h1, .ref h2, v0, .ref h4, .int 0, v1, v2, .ref h3, .int 0, v3, v4, v5, v6, v7, v8, v9, v10, v11, v12, v13, v14, v15, .int 0, v16, v17])), (h1, .inl (k1, 8277, .inl (fun _ => 0))), (h2, .inl (k2, 8277, .inl (fun _ => 0))), (h3, .inl (k3, 147456, .inl (fun _ => 0))), (h4, .inl (k4, 66216, .inl (fun _ => 0)))] sz) := by
  refine Met.ofW (cc := cX11_come) (maxL := 1) (ret := (some .int)) (by decide) rfl ?_
  intro p e s m args below meth c s₁ B hml hv
  obtain ⟨rfl, hsz, hP, hK, hD0, hF⟩ := hv
  have hx := B.exec
  have hb := B.bytes
  have hr := B.returns
  have hts := atoms_spec (ws := wsX11_come) B.pre
  have hown : s.vm.findClass RX11 = some m.cls := findClass_of_methodNamed B.named
  have hlocks := B.notSynchronized
  subst hsz
  have hD := hD0.self (sz := s.heap.size)
  generalize hAe : va_A [(h0, .inr (14, [.ref h1, .ref h2, v0, .ref h4, .int 0, v1, v2, .ref h3, .int 0, v3, v4, v5, v6, v7, v8, v9, v10, v11, v12, v13, v14, v15, .int 0, v16, v17])), (h1, .inl (k1, 8277, .inl (fun _ => 0))), (h2, .inl (k2, 8277, .inl (fun _ => 0))), (h3, .inl (k3, 147456, .inl (fun _ => 0))), (h4, .inl (k4, 66216, .inl (fun _ => 0)))] s.heap.size = A at hD hF ⊢
  have hA : ∀ q : Nat, s.heap.size ≤ q → A q := fun q h => by rw [← hAe]; exact Or.inr h
  obtain ⟨H, hHe⟩ : ∃ H : Heap, H = s.heap := ⟨_, rfl⟩
  have hS : va_S A s.heap H [] := by rw [hHe]; exact va_S.rf
  have hP : va_P D vwCl [(h0, .inr (14, [.ref h1, .ref h2, v0, .ref h4, .int 0, v1, v2, .ref h3, .int 0, v3, v4, v5, v6, v7, v8, v9, v10, v11, v12, v13, v14, v15, .int 0, v16, v17])), (h1, .inl (k1, 8277, .inl (fun _ => 0))), (h2, .inl (k2, 8277, .inl (fun _ => 0))), (h3, .inl (k3, 147456, .inl (fun _ => 0))), (h4, .inl (k4, 66216, .inl (fun _ => 0)))] H := by rw [hHe]; exact hP
  rw [← hHe]
  have hl := lv_entry [.ref h0] (n := 1) (Nat.le_of_ble_eq_true rfl)
  rw [lg_entry_eq]
  generalize (lg_sl [.ref h0] ++ List.replicate (1 - (lg_sl [.ref h0]).length) Slot.unset).toArray = ls at hl ⊢
  have hl : lv_has ls 1 [(0, .ref h0)] := hl
  refine lv_aload_n hx hb dX11_come_0 rfl (lv_at hl 0 rfl) ?_
  refine kc_ (wc := [(h0, .inr (14, [.ref h1, .ref h2, v0, .ref h4, .int 0, v1, v2, .ref h3, .int 0, v3, v4, v5, v6, v7, v8, v9, v10, v11, v12, v13, v14, v15, .int 0, v16, v17])), (h1, .inl (k1, 8277, .inl (fun _ => 0))), (h2, .inl (k2, 8277, .inl (fun _ => 0)))]) (wr := [(h3, .inl (k3, 147456, .inl (fun _ => 0))), (h4, .inl (k4, 66216, .inl (fun _ => 0)))]) (va_runV (As := []) (rest := []) ⟨hx, hb, hml, hown, hts⟩ (c_X11_tries_0 l hl0 D ad H.size h0 h1 h2 k1 k2 (v0) (.ref h4) (.int 0) (v1) (v2) (.ref h3) (v3) (v4) (v5) (v6) (v7) (v8) (v9) (v10) (v11) (v12) (v13) (v14) (v15) (.int 0) (v16) (v17)) (cwV 0 hts gX11_come_X11_tries rfl rfl rfl (by decide +kernel) ⟨Nat.le_of_ble_eq_true rfl, Nat.le_of_ble_eq_true rfl⟩) ⟨PC_.blind, va_recv hK hP (ci := 14) (q0 := 0) rfl rfl, PC_.pre hF hK hP hD hS hA [0, 1, 2] [0, 1] rfl (by decide) rfl⟩ rfl rfl hl.1 rfl (lv_room (Nat.le_of_ble_eq_true rfl)) dX11_come_1 ⟨Nat.le_of_ble_eq_true rfl, Nat.le_of_ble_eq_true rfl⟩) hK hP hD hS hA [0, 1, 2] [3, 4] [2, 3] rfl rfl (by decide) (by decide) rfl (fun qa_1 ka_1 ia_1 H locs hpo hP hD hK hS => ?_)
  have hP : va_P D vwCl [(h3, .inl (k3, 147456, .inl (fun _ => 0))), (h4, .inl (k4, 66216, .inl (fun _ => 0))), (h0, .inr (14, [.ref h1, .ref h2, v0, .ref h4, .int 0, v1, v2, .ref h3, .int 0, .int 0, v4, v5, v6, v7, v8, v9, v10, v11, v12, v13, v14, v15, .int 0, .int 0, v17])), (h1, .inl (k1, 8277, .inl (fun _ => 0))), (h2, .inl (k2, 8277, .inl (fun _ => 0)))] H := hP
  have hD : va_D A [(h3, .inl (k3, 147456, .inl (fun _ => 0))), (h4, .inl (k4, 66216, .inl (fun _ => 0))), (h0, .inr (14, [.ref h1, .ref h2, v0, .ref h4, .int 0, v1, v2, .ref h3, .int 0, .int 0, v4, v5, v6, v7, v8, v9, v10, v11, v12, v13, v14, v15, .int 0, .int 0, v17])), (h1, .inl (k1, 8277, .inl (fun _ => 0))), (h2, .inl (k2, 8277, .inl (fun _ => 0)))] := hD
  have hK : va_K D vwCl [(k3, .int), (k4, .int), (k1, .int), (k2, .int)] s := hK
  refine W.eq (g2 := F0 m 4 ls []) rfl ?_
  refine lv_aload_n hx hb dX11_come_4 rfl (lv_at hl 0 rfl) ?_
  refine lv_aload_n hx hb dX11_come_5 rfl (lv_at hl 0 rfl) ?_
  refine kc_ (wc := [(h0, .inr (14, [.ref h1, .ref h2, v0, .ref h4, .int 0, v1, v2, .ref h3, .int 0, .int 0, v4, v5, v6, v7, v8, v9, v10, v11, v12, v13, v14, v15, .int 0, .int 0, v17])), (h1, .inl (k1, 8277, .inl (fun _ => 0))), (h3, .inl (k3, 147456, .inl (fun _ => 0)))]) (wr := [(h4, .inl (k4, 66216, .inl (fun _ => 0))), (h2, .inl (k2, 8277, .inl (fun _ => 0)))]) (va_runV (As := []) (rest := [.ref h0]) ⟨hx, hb, hml, hown, hts⟩ (c_X11_comes_0 l hl0 D ad H.size h0 h1 h3 k1 k3 (.ref h2) (v0) (.ref h4) (.int 0) (v1) (v2) (.int 0) (v4) (v5) (v6) (v7) (v8) (v9) (v10) (v11) (v12) (v13) (v14) (v15) (.int 0) (.int 0) (v17)) (cwV 0 hts gX11_come_X11_comes rfl rfl rfl (by decide +kernel) ⟨Nat.le_of_ble_eq_true rfl, Nat.le_of_ble_eq_true rfl⟩) ⟨PC_.blind, va_recv hK hP (ci := 14) (q0 := 2) rfl rfl, PC_.pre hF hK hP hD hS hA [2, 3, 0] [2, 0] rfl (by decide) rfl⟩ rfl rfl hl.1 rfl (lv_room (Nat.le_of_ble_eq_true rfl)) dX11_come_6 ⟨Nat.le_of_ble_eq_true rfl, Nat.le_of_ble_eq_true rfl⟩) hK hP hD hS hA [2, 3, 0] [1, 4] [1, 3] rfl rfl (by decide) (by decide) rfl (fun qa_2 ka_2 ia_2 H locs hpo hP hD hK hS => ?_)
  have hP : va_P D vwCl [(h4, .inl (k4, 66216, .inl (fun _ => 0))), (h2, .inl (k2, 8277, .inl (fun _ => 0))), (h0, .inr (14, [.ref h1, .ref h2, v0, .ref h4, .int 0, v1, v2, .ref h3, .int 1, .int 0, v4, v5, v6, v7, v8, v9, v10, v11, v12, v13, v14, v15, .int 0, .int 0, v17])), (h1, .inl (k1, 8277, .inl (upd (upd (upd (fun _ => 0) 0 1) 48 1) 5 1))), (h3, .inl (k3, 147456, .inl (upd (fun _ => 0) 1 1)))] H := hP
  have hD : va_D A [(h4, .inl (k4, 66216, .inl (fun _ => 0))), (h2, .inl (k2, 8277, .inl (fun _ => 0))), (h0, .inr (14, [.ref h1, .ref h2, v0, .ref h4, .int 0, v1, v2, .ref h3, .int 1, .int 0, v4, v5, v6, v7, v8, v9, v10, v11, v12, v13, v14, v15, .int 0, .int 0, v17])), (h1, .inl (k1, 8277, .inl (upd (upd (upd (fun _ => 0) 0 1) 48 1) 5 1))), (h3, .inl (k3, 147456, .inl (upd (fun _ => 0) 1 1)))] := hD
  have hK : va_K D vwCl [(k4, .int), (k2, .int), (k1, .int), (k3, .int)] s := hK
  refine W.eq (g2 := F0 m 9 ls [.int 1, .ref h0]) rfl ?_
  refine kc_ (wc := [(h0, .inr (14, [.ref h1, .ref h2, v0, .ref h4, .int 0, v1, v2, .ref h3, .int 1, .int 0, v4, v5, v6, v7, v8, v9, v10, v11, v12, v13, v14, v15, .int 0, .int 0, v17])), (h2, .inl (k2, 8277, .inl (fun _ => 0))), (h4, .inl (k4, 66216, .inl (fun _ => 0)))]) (wr := [(h1, .inl (k1, 8277, .inl (upd (upd (upd (fun _ => 0) 0 1) 48 1) 5 1))), (h3, .inl (k3, 147456, .inl (upd (fun _ => 0) 1 1)))]) (va_runV (As := [.int 1]) (rest := []) ⟨hx, hb, hml, hown, hts⟩ (c_X11_ends_0 l hl0 D ad H.size h0 h2 h4 k2 k4 (.ref h1) (v0) (v1) (v2) (.ref h3) (.int 1) (.int 0) (v4) (v5) (v6) (v7) (v8) (v9) (v10) (v11) (v12) (v13) (v14) (v15) (.int 0) (v17)) (cwV 1 hts gX11_come_X11_ends rfl rfl rfl (by decide +kernel) ⟨Nat.le_of_ble_eq_true rfl, Nat.le_of_ble_eq_true rfl⟩) ⟨PC_.blind, va_recv hK hP (ci := 14) (q0 := 2) rfl rfl, PC_.pre hF hK hP hD hS hA [2, 1, 0] [1, 0] rfl (by decide) rfl⟩ rfl rfl hl.1 rfl (lv_room (Nat.le_of_ble_eq_true rfl)) dX11_come_9 ⟨Nat.le_of_ble_eq_true rfl, Nat.le_of_ble_eq_true rfl⟩) hK hP hD hS hA [2, 1, 0] [3, 4] [2, 3] rfl rfl (by decide) (by decide) rfl (fun qa_3 ka_3 ia_3 H locs hpo hP hD hK hS => ?_)
  have hP : va_P D vwCl [(h1, .inl (k1, 8277, .inl (upd (upd (upd (fun _ => 0) 0 1) 48 1) 5 1))), (h3, .inl (k3, 147456, .inl (upd (fun _ => 0) 1 1))), (h0, .inr (14, [.ref h1, .ref h2, v0, .ref h4, .int 1, v1, v2, .ref h3, .int 1, .int 0, v4, v5, v6, v7, v8, v9, v10, v11, v12, v13, v14, v15, .int 0, .int 0, v17])), (h2, .inl (k2, 8277, .inl (fun _ => 0))), (h4, .inl (k4, 66216, .inl (fun _ => 0)))] H := hP
  have hD : va_D A [(h1, .inl (k1, 8277, .inl (upd (upd (upd (fun _ => 0) 0 1) 48 1) 5 1))), (h3, .inl (k3, 147456, .inl (upd (fun _ => 0) 1 1))), (h0, .inr (14, [.ref h1, .ref h2, v0, .ref h4, .int 1, v1, v2, .ref h3, .int 1, .int 0, v4, v5, v6, v7, v8, v9, v10, v11, v12, v13, v14, v15, .int 0, .int 0, v17])), (h2, .inl (k2, 8277, .inl (fun _ => 0))), (h4, .inl (k4, 66216, .inl (fun _ => 0)))] := hD
  have hK : va_K D vwCl [(k1, .int), (k3, .int), (k2, .int), (k4, .int)] s := hK
  refine W.eq (g2 := F0 m 12 ls [.int 0]) rfl ?_
  refine W.widen (k := 0) (n := 0) (Nat.le_of_ble_eq_true rfl) (Nat.le_of_ble_eq_true rfl) ?_
  exact W.iret (v := 0) hx hb hr (QG_.mk (fun _ => 0) (fun _ => 0) (fun _ => 0) [2, 0, 3, 1, 4] [0, 2, 1, 3] hP hD hK hS rfl trivial rfl (by decide) rfl) hS.2.2 dX11_come_12
set_option maxHeartbeats 4000000 in
set_option maxRecDepth 100000 in
theorem c_X11_thrown_0 (l : Launch) (hl0 : l.stackTraces = false) (D : va_G) (ad : Nat → Nat) (sz : Nat) (h0 : Nat) (v0 : Value) (v1 : Value) (v2 : Value) (v3 : Value) (v4 : Value) (v5 : Value) (v6 : Value) (v7 : Value) (v8 : Value) (v9 : Value) (v10 : Value) (v11 : Value) (v12 : Value) (v13 : Value) (v14 : Value) (v15 : Value) (v16 : Value) (v17 : Value) (v18 : Value) (v19 : Value) (v20 : Value) (v21 : Value) (v22 : Value) (v23 : Value) : Met l yX11_thrown wsX11_thrown ({ frames := 0, cells := 0, slots := 0, locals := 0 }) (PC_ D ad [(h0, .inr (14, [v0, v1, v2, v3, v4, v5, v6, v7, v8, v9, v10, v11, v12, v13, v14, v15, v16, v17, v18, v19, v20, v21, v22, .int 0, v23]))] [] sz [.ref h0]) (QG_ D (fun q i => some (.int 0)) (fun q i => True) (fun q k i => [(h0, .inr (14, [v0, v1, v2, v3, v4, v5, v6, v7, v8, v9, v10, v11, v12, v13, v14, v15, v16, v17, v18, v19, v20, v21, v22, .int 0, v23]))]) (fun q k i => []) (va_A [(h0, .inr (14, [v0, v1, v2, v3, v4, v5, v6, v7, v8, v9, v10, v11, v12, v13, v14, v15, v16, v17, v18, v19, v20, v21, v22, .int 0, v23]))] sz)) 0 0 (va_A [(h0, .inr (14, [v0, v1, v2, v3, v4, v5, v6, v7, v8, v9, v10, v11, v12, v13, v14, v15, v16, v17, v18, v19, v20, v21, v22, .int 0, v23]))] sz) := by
  refine Met.ofW (cc := cX11_thrown) (maxL := 1) (ret := (some .int)) (by decide) rfl ?_
  intro p e s m args below meth c s₁ B hml hv
  obtain ⟨rfl, hsz, hP, hK, hD0, hF⟩ := hv
  have hx := B.exec
  have hb := B.bytes
  have hr := B.returns
  have hts := atoms_spec (ws := wsX11_thrown) B.pre
  have hown : s.vm.findClass RX11 = some m.cls := findClass_of_methodNamed B.named
  have hlocks := B.notSynchronized
  subst hsz
  have hD := hD0.self (sz := s.heap.size)
  generalize hAe : va_A [(h0, .inr (14, [v0, v1, v2, v3, v4, v5, v6, v7, v8, v9, v10, v11, v12, v13, v14, v15, v16, v17, v18, v19, v20, v21, v22, .int 0, v23]))] s.heap.size = A at hD hF ⊢
  have hA : ∀ q : Nat, s.heap.size ≤ q → A q := fun q h => by rw [← hAe]; exact Or.inr h
  obtain ⟨H, hHe⟩ : ∃ H : Heap, H = s.heap := ⟨_, rfl⟩
  have hS : va_S A s.heap H [] := by rw [hHe]; exact va_S.rf
  have hP : va_P D vwCl [(h0, .inr (14, [v0, v1, v2, v3, v4, v5, v6, v7, v8, v9, v10, v11, v12, v13, v14, v15, v16, v17, v18, v19, v20, v21, v22, .int 0, v23]))] H := by rw [hHe]; exact hP
  rw [← hHe]
  have hi_X11 : ∀ w ∈ wsX110, w ∈ wsX11_thrown := by decide +kernel
  have hl := lv_entry [.ref h0] (n := 1) (Nat.le_of_ble_eq_true rfl)
  rw [lg_entry_eq]
  generalize (lg_sl [.ref h0] ++ List.replicate (1 - (lg_sl [.ref h0]).length) Slot.unset).toArray = ls at hl ⊢
  have hl : lv_has ls 1 [(0, .ref h0)] := hl
  refine lv_aload_n hx hb dX11_thrown_0 rfl (lv_at hl 0 rfl) ?_
  refine va_get (D := D) (ci := 14) (v := .int 0) (own := RX11) (C := RX11) (T := TX11) (N := 25) hx hb hts hi_X11 hown hK hP 0 rfl rfl 23 (by decide) (hts (.fieldLink RX11 47 "CanalMapsModel" "thrown" "I") (List.mem_of_getElem? (i := 1) (by decide +kernel))) (fun _ h9 => h9) rfl dX11_thrown_1 ?_
  refine W.widen (k := 0) (n := 0) (Nat.le_of_ble_eq_true rfl) (Nat.le_of_ble_eq_true rfl) ?_
  exact W.iret (v := 0) hx hb hr (QG_.mk (fun _ => 0) (fun _ => 0) (fun _ => 0) [0] [] hP hD hK hS rfl trivial rfl (by decide) rfl) hS.2.2 dX11_thrown_4
set_option maxHeartbeats 4000000 in
set_option maxRecDepth 100000 in
theorem c_Jx29ce0_ordinal_8abf5_1 (l : Launch) (hl0 : l.stackTraces = false) (D : va_G) (ad : Nat → Nat) (sz : Nat)  : Met l yJx29ce0_ordinal_8abf5 wsJx29ce0_ordinal_8abf5 ({ frames := 0, cells := 0, slots := 0, locals := 0 }) (PC_ D ad [] [] sz [.ref (ad 1)]) (QG_ D (fun q i => some (.int 1)) (fun q i => True) (fun q k i => []) (fun q k i => []) (va_A [] sz)) 0 0 (va_A [] sz) := by
  refine Met.ofW (cc := cJx29ce0_ordinal_8abf5) (maxL := 1) (ret := (some .int)) (by decide) rfl ?_
  intro p e s m args below meth c s₁ B hml hv
  obtain ⟨rfl, hsz, hP, hK, hD0, hF⟩ := hv
  have hx := B.exec
  have hb := B.bytes
  have hr := B.returns
  have hts := atoms_spec (ws := wsJx29ce0_ordinal_8abf5) B.pre
  have hown : s.vm.findClass RJx29ce0 = some m.cls := findClass_of_methodNamed B.named
  have hlocks := B.notSynchronized
  subst hsz
  have hD := hD0.self (sz := s.heap.size)
  generalize hAe : va_A [] s.heap.size = A at hD hF ⊢
  have hA : ∀ q : Nat, s.heap.size ≤ q → A q := fun q h => by rw [← hAe]; exact Or.inr h
  obtain ⟨H, hHe⟩ : ∃ H : Heap, H = s.heap := ⟨_, rfl⟩
  have hS : va_S A s.heap H [] := by rw [hHe]; exact va_S.rf
  have hP : va_P D vwCl [] H := by rw [hHe]; exact hP
  rw [← hHe]
  have hl := lv_entry [.ref (ad 1)] (n := 1) (Nat.le_of_ble_eq_true rfl)
  rw [lg_entry_eq]
  generalize (lg_sl [.ref (ad 1)] ++ List.replicate (1 - (lg_sl [.ref (ad 1)]).length) Slot.unset).toArray = ls at hl ⊢
  have hl : lv_has ls 1 [(0, .ref (ad 1))] := hl
  refine lv_aload_n hx hb dJx29ce0_ordinal_8abf5_0 rfl (lv_at hl 0 rfl) ?_
  refine va_getE (E := "CanalMaps$Change") (d := "LCanalMaps$Change;") (nm := fx_nm) (F := fx_F) (ad := ad) (i := 1) (own := RJx29ce0) (q := ("java/lang/Enum", "ordinal", "I", [0, 1, 2, 3, 4, 5])) hx hb hF.1 (by decide) hS hown List.mem_cons_self (hts (.fieldLink RJx29ce0 7 "java/lang/Enum" "ordinal" "I") (List.mem_of_getElem? (i := 1) (by decide +kernel))) (fun _ h9 => h9) dJx29ce0_ordinal_8abf5_1 ?_
  refine kt_ (v := 1) (by decide +kernel) ?_
  refine W.widen (k := 0) (n := 0) (Nat.le_of_ble_eq_true rfl) (Nat.le_of_ble_eq_true rfl) ?_
  exact W.iret (v := 1) hx hb hr (QG_.mk (fun _ => 0) (fun _ => 0) (fun _ => 0) [] [] hP hD hK hS rfl trivial rfl (by decide) rfl) hS.2.2 dJx29ce0_ordinal_8abf5_4
set_option maxHeartbeats 4000000 in
set_option maxRecDepth 100000 in
theorem c_X8_has_1 (l : Launch) (hl0 : l.stackTraces = false) (D : va_G) (ad : Nat → Nat) (sz : Nat) (h0 : Nat) (v0 : Value) (v1 : Value) (v2 : Value) (v3 : Value) (v4 : Value) (v5 : Value) (v6 : Value) (v7 : Value) (v8 : Value) (p0 : Int32) : Met l yX8_has wsX8_has ({ frames := 0, cells := 0, slots := 0, locals := 0 }) (PC_ D ad [(h0, .inr (11, [v0, v1, v2, v3, v4, .int 0, v5, v6, v7, v8]))] [] sz [.ref h0, .int p0]) (QG_ D (fun q i => some (.int 0)) (fun q i => True) (fun q k i => [(h0, .inr (11, [v0, v1, v2, v3, v4, .int 0, v5, v6, v7, v8]))]) (fun q k i => []) (va_A [(h0, .inr (11, [v0, v1, v2, v3, v4, .int 0, v5, v6, v7, v8]))] sz)) 0 0 (va_A [(h0, .inr (11, [v0, v1, v2, v3, v4, .int 0, v5, v6, v7, v8]))] sz) := by
  refine Met.ofW (cc := cX8_has) (maxL := 2) (ret := (some .boolean)) (by decide) rfl ?_
  intro p e s m args below meth c s₁ B hml hv
  obtain ⟨rfl, hsz, hP, hK, hD0, hF⟩ := hv
  have hx := B.exec
  have hb := B.bytes
  have hr := B.returns
  have hts := atoms_spec (ws := wsX8_has) B.pre
  have hown : s.vm.findClass RX8 = some m.cls := findClass_of_methodNamed B.named
  have hlocks := B.notSynchronized
  subst hsz
  have hD := hD0.self (sz := s.heap.size)
  generalize hAe : va_A [(h0, .inr (11, [v0, v1, v2, v3, v4, .int 0, v5, v6, v7, v8]))] s.heap.size = A at hD hF ⊢
  have hA : ∀ q : Nat, s.heap.size ≤ q → A q := fun q h => by rw [← hAe]; exact Or.inr h
  obtain ⟨H, hHe⟩ : ∃ H : Heap, H = s.heap := ⟨_, rfl⟩
  have hS : va_S A s.heap H [] := by rw [hHe]; exact va_S.rf
  have hP : va_P D vwCl [(h0, .inr (11, [v0, v1, v2, v3, v4, .int 0, v5, v6, v7, v8]))] H := by rw [hHe]; exact hP
  rw [← hHe]
  have hi_X8 : ∀ w ∈ wsX80, w ∈ wsX8_has := by decide +kernel
  have hl := lv_entry [.ref h0, .int p0] (n := 2) (Nat.le_of_ble_eq_true rfl)
  rw [lg_entry_eq]
  generalize (lg_sl [.ref h0, .int p0] ++ List.replicate (2 - (lg_sl [.ref h0, .int p0]).length) Slot.unset).toArray = ls at hl ⊢
  have hl : lv_has ls 2 [(0, .ref h0), (1, .int p0)] := hl
  refine lv_iload_n hx hb dX8_has_0 rfl (lv_at hl 1 rfl) ?_
  refine lv_if_lt (tgt := 16) hx hb dX8_has_1 (by decide) (fun c_1 => ?_) (fun c_1 => ?_)
  · refine lv_iconst (v := 0) hx hb dX8_has_16 (by decide) ?_
    refine W.widen (k := 0) (n := 0) (Nat.le_of_ble_eq_true rfl) (Nat.le_of_ble_eq_true rfl) ?_
    exact W.zret (v := 0) hx hb hr rfl (QG_.mk (fun _ => 0) (fun _ => 0) (fun _ => 0) [0] [] hP hD hK hS rfl trivial rfl (by decide) rfl) hS.2.2 dX8_has_17
  · refine lv_iload_n hx hb dX8_has_4 rfl (lv_at hl 1 rfl) ?_
    refine lv_aload_n hx hb dX8_has_5 rfl (lv_at hl 0 rfl) ?_
    refine va_get (D := D) (ci := 11) (v := .int 0) (own := RX8) (C := RX8) (T := TX8) (N := 10) hx hb hts hi_X8 hown hK hP 0 rfl rfl 5 (by decide) (hts (.fieldLink RX8 28 "CanalMaps$Survey" "surveyors" "I") (List.mem_of_getElem? (i := 1) (by decide +kernel))) (fun _ h9 => h9) rfl dX8_has_6 ?_
    refine lv_icmp_ge (tgt := 16) hx hb dX8_has_9 (by decide) (fun _ => ?_) (fun c9 => absurd (Int32.le_iff_toInt_le.mpr (by have y0 := f_nlt c_1; have e0 : (0 : Int32).toInt = 0 := (by decide +kernel); omega)) c9)
    refine lv_iconst (v := 0) hx hb dX8_has_16 (by decide) ?_
    refine W.widen (k := 0) (n := 0) (Nat.le_of_ble_eq_true rfl) (Nat.le_of_ble_eq_true rfl) ?_
    exact W.zret (v := 0) hx hb hr rfl (QG_.mk (fun _ => 0) (fun _ => 0) (fun _ => 0) [0] [] hP hD hK hS rfl trivial rfl (by decide) rfl) hS.2.2 dX8_has_17
set_option maxHeartbeats 4000000 in
set_option maxRecDepth 100000 in
theorem c_X7_init_0 (l : Launch) (hl0 : l.stackTraces = false) (D : va_G) (ad : Nat → Nat) (sz : Nat) (h0 : Nat) (v0 : Value) (v1 : Value) (v2 : Value) (p0 : Int32) : Met l yX7_init wsX7_init ({ frames := 1, cells := 0, slots := 0, locals := 40 }) (PC_ D ad [(h0, .inr (10, [v0, v1, v2]))] [] sz [.ref h0, .int 3, .int p0, .null]) (QG_ D (fun q i => none) (fun q i => True) (fun q k i => [(h0, .inr (10, [.int 3, .int p0, .null]))]) (fun q k i => []) (va_A [(h0, .inr (10, [v0, v1, v2]))] sz)) 0 0 (va_A [(h0, .inr (10, [v0, v1, v2]))] sz) := by
  refine Met.ofW (cc := cX7_init) (maxL := 4) (ret := none) (by decide) rfl ?_
  intro p e s m args below meth c s₁ B hml hv
  obtain ⟨rfl, hsz, hP, hK, hD0, hF⟩ := hv
  have hx := B.exec
  have hb := B.bytes
  have hr := B.returns
  have hts := atoms_spec (ws := wsX7_init) B.pre
  have hown : s.vm.findClass RX7 = some m.cls := findClass_of_methodNamed B.named
  have hlocks := B.notSynchronized
  have hin : meth.name = "<init>" := (name_of_methodNamed B.named B.method).1
  subst hsz
  have hD := hD0.self (sz := s.heap.size)
  generalize hAe : va_A [(h0, .inr (10, [v0, v1, v2]))] s.heap.size = A at hD hF ⊢
  have hA : ∀ q : Nat, s.heap.size ≤ q → A q := fun q h => by rw [← hAe]; exact Or.inr h
  obtain ⟨H, hHe⟩ : ∃ H : Heap, H = s.heap := ⟨_, rfl⟩
  have hS : va_S A s.heap H [] := by rw [hHe]; exact va_S.rf
  have hP : va_P D vwCl [(h0, .inr (10, [v0, v1, v2]))] H := by rw [hHe]; exact hP
  rw [← hHe]
  have hi_X7 : ∀ w ∈ wsX70, w ∈ wsX7_init := by decide +kernel
  have hl := lv_entry [.ref h0, .int 3, .int p0, .null] (n := 4) (Nat.le_of_ble_eq_true rfl)
  rw [lg_entry_eq]
  generalize (lg_sl [.ref h0, .int 3, .int p0, .null] ++ List.replicate (4 - (lg_sl [.ref h0, .int 3, .int p0, .null]).length) Slot.unset).toArray = ls at hl ⊢
  have hl : lv_has ls 4 [(0, .ref h0), (1, .int 3), (2, .int p0), (3, .null)] := hl
  refine lv_aload_n hx hb dX7_init_0 rfl (lv_at hl 0 rfl) ?_
  refine W.objInit hx hb hown (hts (.methodLink RX7 1 objectInit) (List.mem_of_getElem? (i := 1) (by decide +kernel))) (hts (.instanceMethod objectInit) (List.mem_of_getElem? (i := 2) (by decide +kernel))) (hts (.code objectInit ⟨#[0xb1]⟩ 1 none) (List.mem_of_getElem? (i := 3) (by decide +kernel))) rfl (by rw [hml]; exact hl.1) rfl dX7_init_1 (Nat.le_of_ble_eq_true rfl) (Nat.le_of_ble_eq_true rfl) ?_
  refine W.eq (g2 := F0 m 4 ls []) rfl ?_
  refine lv_aload_n hx hb dX7_init_4 rfl (lv_at hl 0 rfl) ?_
  refine lv_iload_n hx hb dX7_init_5 rfl (lv_at hl 1 rfl) ?_
  refine va_putF (D := D) (ci := 10) (v := .int 3) (ty := .int) (own := RX7) (C := RX7) (T := TX7) (N := 3) hx hb hts hi_X7 tyX7 tyX7_ok nmX7 hown hK hP hD hS 0 rfl rfl 0 (by decide) (hts (.fieldLink RX7 7 "CanalMaps$Refusal" "reason" "I") (List.mem_of_getElem? (i := 4) (by decide +kernel))) (fun _ h9 => h9) rfl hin rfl (by decide +kernel) rfl rfl (Nat.le_of_ble_eq_true rfl) dX7_init_6 (fun H locs hP hD hS => ?_)
  have hP : va_P D vwCl [(h0, .inr (10, [.int 3, v1, v2]))] H := hP
  have hD : va_D A [(h0, .inr (10, [.int 3, v1, v2]))] := hD
  refine lv_aload_n hx hb dX7_init_9 rfl (lv_at hl 0 rfl) ?_
  refine lv_iload_n hx hb dX7_init_10 rfl (lv_at hl 2 rfl) ?_
  refine va_putF (D := D) (ci := 10) (v := .int p0) (ty := .int) (own := RX7) (C := RX7) (T := TX7) (N := 3) hx hb hts hi_X7 tyX7 tyX7_ok nmX7 hown hK hP hD hS 0 rfl rfl 1 (by decide) (hts (.fieldLink RX7 13 "CanalMaps$Refusal" "detail" "I") (List.mem_of_getElem? (i := 5) (by decide +kernel))) (fun _ h9 => h9) rfl hin rfl (by decide +kernel) rfl rfl (Nat.le_of_ble_eq_true rfl) dX7_init_11 (fun H locs hP hD hS => ?_)
  have hP : va_P D vwCl [(h0, .inr (10, [.int 3, .int p0, v2]))] H := hP
  have hD : va_D A [(h0, .inr (10, [.int 3, .int p0, v2]))] := hD
  refine lv_aload_n hx hb dX7_init_14 rfl (lv_at hl 0 rfl) ?_
  refine lv_aload_nN hx hb dX7_init_15 rfl (lv_at hl 3 rfl) ?_
  refine va_putF (D := D) (ci := 10) (v := .null) (ty := tyX7 2) (own := RX7) (C := RX7) (T := TX7) (N := 3) hx hb hts hi_X7 tyX7 tyX7_ok nmX7 hown hK hP hD hS 0 rfl rfl 2 (by decide) (hts (.fieldLink RX7 16 "CanalMaps$Refusal" "cause" "LCanalMaps$Refusal;") (List.mem_of_getElem? (i := 6) (by decide +kernel))) (fun _ h9 => h9) rfl hin rfl (by decide +kernel) rfl rfl (Nat.le_of_ble_eq_true rfl) dX7_init_16 (fun H locs hP hD hS => ?_)
  have hP : va_P D vwCl [(h0, .inr (10, [.int 3, .int p0, .null]))] H := hP
  have hD : va_D A [(h0, .inr (10, [.int 3, .int p0, .null]))] := hD
  refine W.widen (k := 0) (n := 0) (Nat.le_of_ble_eq_true rfl) (Nat.le_of_ble_eq_true rfl) ?_
  exact W.vret hx hb hr (QG_.mk (fun _ => 0) (fun _ => 0) (fun _ => 0) [0] [] hP hD hK hS rfl trivial rfl (by decide) rfl) hS.2.2 dX7_init_19
set_option maxHeartbeats 4000000 in
set_option maxRecDepth 100000 in
theorem c_X8_because_0 (l : Launch) (hl0 : l.stackTraces = false) (D : va_G) (ad : Nat → Nat) (sz : Nat) (p0 : Int32) : Met l yX8_because wsX8_because ({ frames := 2, cells := 1, slots := 3, locals := 65 }) (PC_ D ad [] [] sz [.int 3, .int p0]) (QG_ D (fun q i => some (.ref (q 0))) (fun q i => True) (fun q k i => [((q 0), .inr (10, [.int 3, .int p0, .null]))]) (fun q k i => []) (va_A [] sz)) 1 3 (va_A [] sz) := by
  refine Met.ofW (cc := cX8_because) (maxL := 2) (ret := (some (.object "CanalMaps$Refusal"))) (by decide) rfl ?_
  intro p e s m args below meth c s₁ B hml hv
  obtain ⟨rfl, hsz, hP, hK, hD0, hF⟩ := hv
  have hx := B.exec
  have hb := B.bytes
  have hr := B.returns
  have hts := atoms_spec (ws := wsX8_because) B.pre
  have hown : s.vm.findClass RX8 = some m.cls := findClass_of_methodNamed B.named
  have hlocks := B.notSynchronized
  subst hsz
  have hD := hD0.self (sz := s.heap.size)
  generalize hAe : va_A [] s.heap.size = A at hD hF ⊢
  have hA : ∀ q : Nat, s.heap.size ≤ q → A q := fun q h => by rw [← hAe]; exact Or.inr h
  obtain ⟨H, hHe⟩ : ∃ H : Heap, H = s.heap := ⟨_, rfl⟩
  have hS : va_S A s.heap H [] := by rw [hHe]; exact va_S.rf
  have hP : va_P D vwCl [] H := by rw [hHe]; exact hP
  rw [← hHe]
  have hi_X7 : ∀ w ∈ wsX70, w ∈ wsX8_because := by decide +kernel
  have hl := lv_entry [.int 3, .int p0] (n := 2) (Nat.le_of_ble_eq_true rfl)
  rw [lg_entry_eq]
  generalize (lg_sl [.int 3, .int p0] ++ List.replicate (2 - (lg_sl [.int 3, .int p0]).length) Slot.unset).toArray = ls at hl ⊢
  have hl : lv_has ls 2 [(0, .int 3), (1, .int p0)] := hl
  refine va_new (ci := 10) (fs := [.int 0, .int 0, .null]) (own := RX8) (C := RX7) (T := TX7) (N := 3) hx hb hts hi_X7 tyX7 tyX7_ok hown (hts (.classLink RX8 144 RX7) (List.mem_of_getElem? (i := 1) (by decide +kernel))) (hts (.instantiable RX7 3) (List.mem_of_getElem? (i := 2) (by decide +kernel))) (hts (.initialized RX7) (List.mem_of_getElem? (i := 3) (by decide +kernel))) hK hP hD hS hA rfl (fun j hj => by rcases (show j = 0 ∨ j = 1 ∨ j = 2 by omega) with rfl | rfl | rfl <;> rfl) (Nat.le_of_ble_eq_true rfl) (Nat.le_of_ble_eq_true rfl) dX8_because_0 (fun q_1 H hP hD hS => ?_)
  have hP : va_P D vwCl [(q_1, .inr (10, [.int 0, .int 0, .null]))] H := hP
  have hD : va_D A [(q_1, .inr (10, [.int 0, .int 0, .null]))] := hD
  refine lv_dup hx hb dX8_because_3 rfl ?_
  refine lv_iload_n hx hb dX8_because_4 rfl (lv_at hl 0 rfl) ?_
  refine lv_iload_n hx hb dX8_because_5 rfl (lv_at hl 1 rfl) ?_
  refine lv_null hx hb dX8_because_6 ?_
  refine kc_ (wc := [(q_1, .inr (10, [.int 0, .int 0, .null]))]) (wr := []) (va_runI (As := [.int 3, .int p0, .null]) (rest := [.ref q_1]) ⟨hx, hb, hml, hown, hts⟩ (c_X7_init_0 l hl0 D ad H.size q_1 (.int 0) (.int 0) (.null) p0) (cwI 3 hts gX8_because_X7_init rfl rfl rfl (hts (.initialized RX7) (List.mem_of_getElem? (i := 3) (by decide +kernel))) (hts (.methodLink RX8 146 yX7_init) (List.mem_of_getElem? (i := 4) (by decide +kernel))) (hts (.instanceMethod yX7_init) (List.mem_of_getElem? (i := 5) (by decide +kernel))) rfl (by decide +kernel) ⟨Nat.le_of_ble_eq_true rfl, Nat.le_of_ble_eq_true rfl⟩) ⟨PC_.blind, PC_.pre hF hK hP hD hS hA [0] [] rfl (by decide) rfl⟩ rfl rfl hl.1 rfl (lv_room (Nat.le_of_ble_eq_true rfl)) dX8_because_7 ⟨Nat.le_of_ble_eq_true rfl, Nat.le_of_ble_eq_true rfl⟩) hK hP hD hS hA [0] [] [] rfl rfl (by decide) (by decide) rfl (fun qa_2 ka_2 ia_2 H locs hpo hP hD hK hS => ?_)
  have hP : va_P D vwCl [(q_1, .inr (10, [.int 3, .int p0, .null]))] H := hP
  have hD : va_D A [(q_1, .inr (10, [.int 3, .int p0, .null]))] := hD
  have hK : va_K D vwCl [] s := hK
  refine W.eq (g2 := F0 m 10 ls [.ref q_1]) rfl ?_
  refine W.widen (k := 1) (n := 3) (Nat.le_of_ble_eq_true rfl) (Nat.le_of_ble_eq_true rfl) ?_
  exact W.aret (v := .ref q_1) hx hb hr (Or.inl ⟨_, rfl⟩) (Or.inr ⟨_, rfl⟩) (QG_.mk (fun n => [q_1].getD n 0) (fun _ => 0) (fun _ => 0) [0] [] hP hD hK hS rfl trivial rfl (by decide) rfl) hS.2.2 dX8_because_10
set_option maxHeartbeats 4000000 in
set_option maxRecDepth 100000 in
theorem c_X8_againstPair_0 (l : Launch) (hl0 : l.stackTraces = false) (D : va_G) (ad : Nat → Nat) (sz : Nat) (h0 : Nat) (v0 : Value) (v1 : Value) (v2 : Value) (v3 : Value) (v4 : Value) (v5 : Value) (v6 : Value) (v7 : Value) (v8 : Value) (p0 : Int32) (p1 : Int32) : Met l yX8_againstPair wsX8_againstPair ({ frames := 3, cells := 1, slots := 3, locals := 88 }) (PC_ D ad [(h0, .inr (11, [v0, v1, v2, v3, v4, .int 0, v5, v6, v7, v8]))] [] sz [.ref h0, .int p0, .int p1]) (QG_ D (fun q i => some (.ref (q 0))) (fun q i => True) (fun q k i => [(h0, .inr (11, [v0, v1, v2, v3, v4, .int 0, v5, v6, v7, v8])), ((q 0), .inr (10, [.int 3, .int p0, .null]))]) (fun q k i => []) (va_A [(h0, .inr (11, [v0, v1, v2, v3, v4, .int 0, v5, v6, v7, v8]))] sz)) 1 3 (va_A [(h0, .inr (11, [v0, v1, v2, v3, v4, .int 0, v5, v6, v7, v8]))] sz) := by
  refine Met.ofW (cc := cX8_againstPair) (maxL := 3) (ret := (some (.object "CanalMaps$Refusal"))) (by decide) rfl ?_
  intro p e s m args below meth c s₁ B hml hv
  obtain ⟨rfl, hsz, hP, hK, hD0, hF⟩ := hv
  have hx := B.exec
  have hb := B.bytes
  have hr := B.returns
  have hts := atoms_spec (ws := wsX8_againstPair) B.pre
  have hown : s.vm.findClass RX8 = some m.cls := findClass_of_methodNamed B.named
  have hlocks := B.notSynchronized
  subst hsz
  have hD := hD0.self (sz := s.heap.size)
  generalize hAe : va_A [(h0, .inr (11, [v0, v1, v2, v3, v4, .int 0, v5, v6, v7, v8]))] s.heap.size = A at hD hF ⊢
  have hA : ∀ q : Nat, s.heap.size ≤ q → A q := fun q h => by rw [← hAe]; exact Or.inr h
  obtain ⟨H, hHe⟩ : ∃ H : Heap, H = s.heap := ⟨_, rfl⟩
  have hS : va_S A s.heap H [] := by rw [hHe]; exact va_S.rf
  have hP : va_P D vwCl [(h0, .inr (11, [v0, v1, v2, v3, v4, .int 0, v5, v6, v7, v8]))] H := by rw [hHe]; exact hP
  rw [← hHe]
  have hl := lv_entry [.ref h0, .int p0, .int p1] (n := 3) (Nat.le_of_ble_eq_true rfl)
  rw [lg_entry_eq]
  generalize (lg_sl [.ref h0, .int p0, .int p1] ++ List.replicate (3 - (lg_sl [.ref h0, .int p0, .int p1]).length) Slot.unset).toArray = ls at hl ⊢
  have hl : lv_has ls 3 [(0, .ref h0), (1, .int p0), (2, .int p1)] := hl
  refine lv_aload_n hx hb dX8_againstPair_0 rfl (lv_at hl 0 rfl) ?_
  refine lv_iload_n hx hb dX8_againstPair_1 rfl (lv_at hl 1 rfl) ?_
  refine kc_ (wc := [(h0, .inr (11, [v0, v1, v2, v3, v4, .int 0, v5, v6, v7, v8]))]) (wr := []) (va_runV (As := [.int p0]) (rest := []) ⟨hx, hb, hml, hown, hts⟩ (c_X8_has_1 l hl0 D ad H.size h0 (v0) (v1) (v2) (v3) (v4) (v5) (v6) (v7) (v8) p0) (cwV 1 hts gX8_againstPair_X8_has rfl rfl rfl (by decide +kernel) ⟨Nat.le_of_ble_eq_true rfl, Nat.le_of_ble_eq_true rfl⟩) ⟨PC_.blind, va_recv hK hP (ci := 11) (q0 := 0) rfl rfl, PC_.pre hF hK hP hD hS hA [0] [] rfl (by decide) rfl⟩ rfl rfl hl.1 rfl (lv_room (Nat.le_of_ble_eq_true rfl)) dX8_againstPair_2 ⟨Nat.le_of_ble_eq_true rfl, Nat.le_of_ble_eq_true rfl⟩) hK hP hD hS hA [0] [] [] rfl rfl (by decide) (by decide) rfl (fun qa_1 ka_1 ia_1 H locs hpo hP hD hK hS => ?_)
  have hP : va_P D vwCl [(h0, .inr (11, [v0, v1, v2, v3, v4, .int 0, v5, v6, v7, v8]))] H := hP
  have hD : va_D A [(h0, .inr (11, [v0, v1, v2, v3, v4, .int 0, v5, v6, v7, v8]))] := hD
  have hK : va_K D vwCl [] s := hK
  refine W.eq (g2 := F0 m 5 ls [.int 0]) rfl ?_
  refine lv_if_ne (tgt := 14) hx hb dX8_againstPair_5 (by decide) (fun c9 => absurd (by decide +kernel) c9) (fun _ => ?_)
  refine lv_iconst (v := 3) hx hb dX8_againstPair_8 (by decide) ?_
  refine lv_iload_n hx hb dX8_againstPair_9 rfl (lv_at hl 1 rfl) ?_
  refine kc_ (wc := []) (wr := [(h0, .inr (11, [v0, v1, v2, v3, v4, .int 0, v5, v6, v7, v8]))]) (va_runS (As := [.int 3, .int p0]) (rest := []) ⟨hx, hb, hml, hown, hts⟩ (c_X8_because_0 l hl0 D ad H.size p0) (va_cwS 2 hts gX8_againstPair_X8_because rfl rfl rfl (by decide +kernel) ⟨Nat.le_of_ble_eq_true rfl, Nat.le_of_ble_eq_true rfl⟩) ⟨PC_.blind, PC_.pre hF hK hP hD hS hA [] [] rfl (by decide) rfl⟩ rfl rfl hl.1 rfl (lv_room (Nat.le_of_ble_eq_true rfl)) dX8_againstPair_10 ⟨Nat.le_of_ble_eq_true rfl, Nat.le_of_ble_eq_true rfl⟩) hK hP hD hS hA [] [0] [] rfl rfl (by decide) (by decide) rfl (fun qa_2 ka_2 ia_2 H locs hpo hP hD hK hS => ?_)
  have hP : va_P D vwCl [(h0, .inr (11, [v0, v1, v2, v3, v4, .int 0, v5, v6, v7, v8])), ((qa_2 0), .inr (10, [.int 3, .int p0, .null]))] H := hP
  have hD : va_D A [(h0, .inr (11, [v0, v1, v2, v3, v4, .int 0, v5, v6, v7, v8])), ((qa_2 0), .inr (10, [.int 3, .int p0, .null]))] := hD
  have hK : va_K D vwCl [] s := hK
  refine W.eq (g2 := F0 m 13 ls [.ref (qa_2 0)]) rfl ?_
  refine W.widen (k := 1) (n := 3) (Nat.le_of_ble_eq_true rfl) (Nat.le_of_ble_eq_true rfl) ?_
  exact W.aret (v := .ref (qa_2 0)) hx hb hr (Or.inl ⟨_, rfl⟩) (Or.inr ⟨_, rfl⟩) (QG_.mk (fun n => [(qa_2 0)].getD n 0) (fun _ => 0) (fun _ => 0) [0, 1] [] hP hD hK hS rfl trivial rfl (by decide) rfl) hS.2.2 dX8_againstPair_13
set_option maxHeartbeats 4000000 in
set_option maxRecDepth 100000 in
theorem c_X8_againstCanal_0 (l : Launch) (hl0 : l.stackTraces = false) (D : va_G) (ad : Nat → Nat) (sz : Nat) (h0 : Nat) (v0 : Value) (v1 : Value) (v2 : Value) (v3 : Value) (v4 : Value) (v5 : Value) (v6 : Value) (v7 : Value) (v8 : Value) (p0 : Int32) (p1 : Int32) (p2 : Int32) : Met l yX8_againstCanal wsX8_againstCanal ({ frames := 4, cells := 1, slots := 3, locals := 112 }) (PC_ D ad [(h0, .inr (11, [v0, v1, v2, v3, v4, .int 0, v5, v6, v7, v8]))] [] sz [.ref h0, .int p0, .int p1, .int p2]) (QG_ D (fun q i => some (.ref (q 0))) (fun q i => True) (fun q k i => [(h0, .inr (11, [v0, v1, v2, v3, v4, .int 0, v5, v6, v7, v8])), ((q 0), .inr (10, [.int 3, .int p0, .null]))]) (fun q k i => []) (va_A [(h0, .inr (11, [v0, v1, v2, v3, v4, .int 0, v5, v6, v7, v8]))] sz)) 1 3 (va_A [(h0, .inr (11, [v0, v1, v2, v3, v4, .int 0, v5, v6, v7, v8]))] sz) := by
  refine Met.ofW (cc := cX8_againstCanal) (maxL := 5) (ret := (some (.object "CanalMaps$Refusal"))) (by decide) rfl ?_
  intro p e s m args below meth c s₁ B hml hv
  obtain ⟨rfl, hsz, hP, hK, hD0, hF⟩ := hv
  have hx := B.exec
  have hb := B.bytes
  have hr := B.returns
  have hts := atoms_spec (ws := wsX8_againstCanal) B.pre
  have hown : s.vm.findClass RX8 = some m.cls := findClass_of_methodNamed B.named
  have hlocks := B.notSynchronized
  subst hsz
  have hD := hD0.self (sz := s.heap.size)
  generalize hAe : va_A [(h0, .inr (11, [v0, v1, v2, v3, v4, .int 0, v5, v6, v7, v8]))] s.heap.size = A at hD hF ⊢
  have hA : ∀ q : Nat, s.heap.size ≤ q → A q := fun q h => by rw [← hAe]; exact Or.inr h
  obtain ⟨H, hHe⟩ : ∃ H : Heap, H = s.heap := ⟨_, rfl⟩
  have hS : va_S A s.heap H [] := by rw [hHe]; exact va_S.rf
  have hP : va_P D vwCl [(h0, .inr (11, [v0, v1, v2, v3, v4, .int 0, v5, v6, v7, v8]))] H := by rw [hHe]; exact hP
  rw [← hHe]
  have hl := lv_entry [.ref h0, .int p0, .int p1, .int p2] (n := 5) (Nat.le_of_ble_eq_true rfl)
  rw [lg_entry_eq]
  generalize (lg_sl [.ref h0, .int p0, .int p1, .int p2] ++ List.replicate (5 - (lg_sl [.ref h0, .int p0, .int p1, .int p2]).length) Slot.unset).toArray = ls at hl ⊢
  have hl : lv_has ls 5 [(0, .ref h0), (1, .int p0), (2, .int p1), (3, .int p2)] := hl
  refine lv_aload_n hx hb dX8_againstCanal_0 rfl (lv_at hl 0 rfl) ?_
  refine lv_iload_n hx hb dX8_againstCanal_1 rfl (lv_at hl 1 rfl) ?_
  refine lv_iload_n hx hb dX8_againstCanal_2 rfl (lv_at hl 2 rfl) ?_
  refine kc_ (wc := [(h0, .inr (11, [v0, v1, v2, v3, v4, .int 0, v5, v6, v7, v8]))]) (wr := []) (va_runV (As := [.int p0, .int p1]) (rest := []) ⟨hx, hb, hml, hown, hts⟩ (c_X8_againstPair_0 l hl0 D ad H.size h0 (v0) (v1) (v2) (v3) (v4) (v5) (v6) (v7) (v8) p0 p1) (cwV 2 hts gX8_againstCanal_X8_againstPair rfl rfl rfl (by decide +kernel) ⟨Nat.le_of_ble_eq_true rfl, Nat.le_of_ble_eq_true rfl⟩) ⟨PC_.blind, va_recv hK hP (ci := 11) (q0 := 0) rfl rfl, PC_.pre hF hK hP hD hS hA [0] [] rfl (by decide) rfl⟩ rfl rfl hl.1 rfl (lv_room (Nat.le_of_ble_eq_true rfl)) dX8_againstCanal_3 ⟨Nat.le_of_ble_eq_true rfl, Nat.le_of_ble_eq_true rfl⟩) hK hP hD hS hA [0] [] [] rfl rfl (by decide) (by decide) rfl (fun qa_1 ka_1 ia_1 H locs hpo hP hD hK hS => ?_)
  have hP : va_P D vwCl [(h0, .inr (11, [v0, v1, v2, v3, v4, .int 0, v5, v6, v7, v8])), ((qa_1 0), .inr (10, [.int 3, .int p0, .null]))] H := hP
  have hD : va_D A [(h0, .inr (11, [v0, v1, v2, v3, v4, .int 0, v5, v6, v7, v8])), ((qa_1 0), .inr (10, [.int 3, .int p0, .null]))] := hD
  have hK : va_K D vwCl [] s := hK
  refine W.eq (g2 := F0 m 6 ls [.ref (qa_1 0)]) rfl ?_
  refine lv_astore (lv' := [(4, .ref (qa_1 0)), (0, .ref h0), (1, .int p0), (2, .int p1), (3, .int p2)]) hx hb dX8_againstCanal_6 hl (by decide) rfl (fun ls hl => ?_)
  refine lv_aload hx hb dX8_againstCanal_8 (lv_at hl 0 rfl) ?_
  refine lv_ifnull hx hb dX8_againstCanal_10 ?_
  refine lv_aload hx hb dX8_againstCanal_13 (lv_at hl 0 rfl) ?_
  refine W.widen (k := 1) (n := 3) (Nat.le_of_ble_eq_true rfl) (Nat.le_of_ble_eq_true rfl) ?_
  exact W.aret (v := .ref (qa_1 0)) hx hb hr (Or.inl ⟨_, rfl⟩) (Or.inr ⟨_, rfl⟩) (QG_.mk (fun n => [(qa_1 0)].getD n 0) (fun _ => 0) (fun _ => 0) [0, 1] [] hP hD hK hS rfl trivial rfl (by decide) rfl) hS.2.2 dX8_againstCanal_15
set_option maxHeartbeats 4000000 in
set_option maxRecDepth 100000 in
theorem c_X8_against_1 (l : Launch) (hl0 : l.stackTraces = false) (D : va_G) (ad : Nat → Nat) (sz : Nat) (h0 : Nat) (v0 : Value) (v1 : Value) (v2 : Value) (v3 : Value) (v4 : Value) (v5 : Value) (v6 : Value) (v7 : Value) (v8 : Value) (p0 : Int32) (p1 : Int32) (p2 : Int32) : Met l yX8_against wsX8_against ({ frames := 5, cells := 1, slots := 3, locals := 138 }) (PC_ D ad [(h0, .inr (11, [v0, v1, v2, v3, v4, .int 0, v5, v6, v7, v8]))] [] sz [.ref h0, .ref (ad 1), .int p0, .int p1, .int p2]) (QG_ D (fun q i => some (.ref (q 0))) (fun q i => True) (fun q k i => [(h0, .inr (11, [v0, v1, v2, v3, v4, .int 0, v5, v6, v7, v8])), ((q 0), .inr (10, [.int 3, .int p0, .null]))]) (fun q k i => []) (va_A [(h0, .inr (11, [v0, v1, v2, v3, v4, .int 0, v5, v6, v7, v8]))] sz)) 1 3 (va_A [(h0, .inr (11, [v0, v1, v2, v3, v4, .int 0, v5, v6, v7, v8]))] sz) := by
  refine Met.ofW (cc := cX8_against) (maxL := 5) (ret := (some (.object "CanalMaps$Refusal"))) (by decide) rfl ?_
  intro p e s m args below meth c s₁ B hml hv
  obtain ⟨rfl, hsz, hP, hK, hD0, hF⟩ := hv
  have hx := B.exec
  have hb := B.bytes
  have hr := B.returns
  have hts := atoms_spec (ws := wsX8_against) B.pre
  have hown : s.vm.findClass RX8 = some m.cls := findClass_of_methodNamed B.named
  have hlocks := B.notSynchronized
  subst hsz
  have hD := hD0.self (sz := s.heap.size)
  generalize hAe : va_A [(h0, .inr (11, [v0, v1, v2, v3, v4, .int 0, v5, v6, v7, v8]))] s.heap.size = A at hD hF ⊢
  have hA : ∀ q : Nat, s.heap.size ≤ q → A q := fun q h => by rw [← hAe]; exact Or.inr h
  obtain ⟨H, hHe⟩ : ∃ H : Heap, H = s.heap := ⟨_, rfl⟩
  have hS : va_S A s.heap H [] := by rw [hHe]; exact va_S.rf
  have hP : va_P D vwCl [(h0, .inr (11, [v0, v1, v2, v3, v4, .int 0, v5, v6, v7, v8]))] H := by rw [hHe]; exact hP
  rw [← hHe]
  have hl := lv_entry [.ref h0, .ref (ad 1), .int p0, .int p1, .int p2] (n := 5) (Nat.le_of_ble_eq_true rfl)
  rw [lg_entry_eq]
  generalize (lg_sl [.ref h0, .ref (ad 1), .int p0, .int p1, .int p2] ++ List.replicate (5 - (lg_sl [.ref h0, .ref (ad 1), .int p0, .int p1, .int p2]).length) Slot.unset).toArray = ls at hl ⊢
  have hl : lv_has ls 5 [(0, .ref h0), (1, .ref (ad 1)), (2, .int p0), (3, .int p1), (4, .int p2)] := hl
  refine va_gets (C := "CanalMaps$1") (n := "$SwitchMap$CanalMaps$Change") (d := "[I") (own := RX8) (ref := "CanalMaps$1") (v := .ref (ad 6)) hx hb hF.2.1.1 hS hown (hts (.fieldLink RX8 113 "CanalMaps$1" "$SwitchMap$CanalMaps$Change" "[I") (List.mem_of_getElem? (i := 1) (by decide +kernel))) (fun _ h9 => h9) dX8_against_0 ?_
  refine lv_aload_n hx hb dX8_against_3 rfl (lv_at hl 1 rfl) ?_
  refine kc_ (wc := []) (wr := [(h0, .inr (11, [v0, v1, v2, v3, v4, .int 0, v5, v6, v7, v8]))]) (va_runU (As := []) (rest := [.ref (ad 6)]) ⟨hx, hb, hml, hown, hts⟩ (c_Jx29ce0_ordinal_8abf5_1 l hl0 D ad H.size) (va_cwU 0 hts gX8_against_Jx29ce0_ordinal_8abf5_u118X2 rfl rfl rfl rfl (by decide +kernel) ⟨Nat.le_of_ble_eq_true rfl, Nat.le_of_ble_eq_true rfl⟩) ⟨PC_.blind, va_recvE hF.1 (i := 1) (by decide) hS, PC_.pre hF hK hP hD hS hA [] [] rfl (by decide) rfl⟩ rfl rfl hl.1 rfl (lv_room (Nat.le_of_ble_eq_true rfl)) dX8_against_4 ⟨Nat.le_of_ble_eq_true rfl, Nat.le_of_ble_eq_true rfl⟩) hK hP hD hS hA [] [0] [] rfl rfl (by decide) (by decide) rfl (fun qa_1 ka_1 ia_1 H locs hpo hP hD hK hS => ?_)
  have hP : va_P D vwCl [(h0, .inr (11, [v0, v1, v2, v3, v4, .int 0, v5, v6, v7, v8]))] H := hP
  have hD : va_D A [(h0, .inr (11, [v0, v1, v2, v3, v4, .int 0, v5, v6, v7, v8]))] := hD
  have hK : va_K D vwCl [] s := hK
  refine W.eq (g2 := F0 m 7 ls [.int 1, .ref (ad 6)]) rfl ?_
  refine va_ti (v := .int 2) hx hb hF.2.1.2 hS (vin_ (by decide +kernel)) rfl dX8_against_7 ?_
  refine lv_tableIn (tgt := 64) (off := 56) hx hb dX8_against_8 (by decide +kernel) (by decide +kernel) (by decide +kernel) (by decide) ?_
  refine lv_aload_n hx hb dX8_against_64 rfl (lv_at hl 0 rfl) ?_
  refine lv_iload_n hx hb dX8_against_65 rfl (lv_at hl 2 rfl) ?_
  refine lv_iload_n hx hb dX8_against_66 rfl (lv_at hl 3 rfl) ?_
  refine lv_iload hx hb dX8_against_67 (lv_at hl 4 rfl) ?_
  refine kc_ (wc := [(h0, .inr (11, [v0, v1, v2, v3, v4, .int 0, v5, v6, v7, v8]))]) (wr := []) (va_runV (As := [.int p0, .int p1, .int p2]) (rest := []) ⟨hx, hb, hml, hown, hts⟩ (c_X8_againstCanal_0 l hl0 D ad H.size h0 (v0) (v1) (v2) (v3) (v4) (v5) (v6) (v7) (v8) p0 p1 p2) (cwV 3 hts gX8_against_X8_againstCanal rfl rfl rfl (by decide +kernel) ⟨Nat.le_of_ble_eq_true rfl, Nat.le_of_ble_eq_true rfl⟩) ⟨PC_.blind, va_recv hK hP (ci := 11) (q0 := 0) rfl rfl, PC_.pre hF hK hP hD hS hA [0] [] rfl (by decide) rfl⟩ rfl rfl hl.1 rfl (lv_room (Nat.le_of_ble_eq_true rfl)) dX8_against_69 ⟨Nat.le_of_ble_eq_true rfl, Nat.le_of_ble_eq_true rfl⟩) hK hP hD hS hA [0] [] [] rfl rfl (by decide) (by decide) rfl (fun qa_2 ka_2 ia_2 H locs hpo hP hD hK hS => ?_)
  have hP : va_P D vwCl [(h0, .inr (11, [v0, v1, v2, v3, v4, .int 0, v5, v6, v7, v8])), ((qa_2 0), .inr (10, [.int 3, .int p0, .null]))] H := hP
  have hD : va_D A [(h0, .inr (11, [v0, v1, v2, v3, v4, .int 0, v5, v6, v7, v8])), ((qa_2 0), .inr (10, [.int 3, .int p0, .null]))] := hD
  have hK : va_K D vwCl [] s := hK
  refine W.eq (g2 := F0 m 72 ls [.ref (qa_2 0)]) rfl ?_
  refine W.widen (k := 1) (n := 3) (Nat.le_of_ble_eq_true rfl) (Nat.le_of_ble_eq_true rfl) ?_
  exact W.aret (v := .ref (qa_2 0)) hx hb hr (Or.inl ⟨_, rfl⟩) (Or.inr ⟨_, rfl⟩) (QG_.mk (fun n => [(qa_2 0)].getD n 0) (fun _ => 0) (fun _ => 0) [0, 1] [] hP hD hK hS rfl trivial rfl (by decide) rfl) hS.2.2 dX8_against_72
set_option maxHeartbeats 4000000 in
set_option maxRecDepth 100000 in
theorem c_X10_heed_1 (l : Launch) (hl0 : l.stackTraces = false) (D : va_G) (ad : Nat → Nat) (sz : Nat) (h0 : Nat) (r0 : Nat) (v0 : Value) (v1 : Value) (v2 : Value) (v3 : Value) (v4 : Value) (v5 : Value) (v6 : Value) (v7 : Value) (v8 : Value) (v9 : Value) : vx_Met l yX10_heed wsX10_heed ({ frames := 6, cells := 1, slots := 6, locals := 100 }) (PC_ D ad [(h0, .inr (13, [v0, v1, v2, v3, v4, v5, v6, v7, v8, v9]))] [] sz [.ref h0, .ref r0]) QN_ (XT_ "java/lang/UnsupportedOperationException" (va_A [(h0, .inr (13, [v0, v1, v2, v3, v4, v5, v6, v7, v8, v9]))] sz)) 1 6 (va_A [(h0, .inr (13, [v0, v1, v2, v3, v4, v5, v6, v7, v8, v9]))] sz) := by
  refine vx_ofW (cc := cX10_heed) (maxL := 2) (ret := none) (by decide) rfl ?_
  intro p e s m args below meth c s₁ B hml htab hv
  obtain ⟨rfl, hsz, hP, hK, hD0, hF⟩ := hv
  have hx := B.exec
  have hb := B.bytes
  have hr := B.returns
  have hts := atoms_spec (ws := wsX10_heed) B.pre
  have hown : s.vm.findClass RX10 = some m.cls := findClass_of_methodNamed B.named
  have hlocks := B.notSynchronized
  subst hsz
  have hD := hD0.self (sz := s.heap.size)
  generalize hAe : va_A [(h0, .inr (13, [v0, v1, v2, v3, v4, v5, v6, v7, v8, v9]))] s.heap.size = A at hD hF ⊢
  have hA : ∀ q : Nat, s.heap.size ≤ q → A q := fun q h => by rw [← hAe]; exact Or.inr h
  obtain ⟨H, hHe⟩ : ∃ H : Heap, H = s.heap := ⟨_, rfl⟩
  have hS : va_S A s.heap H [] := by rw [hHe]; exact va_S.rf
  have hP : va_P D vwCl [(h0, .inr (13, [v0, v1, v2, v3, v4, v5, v6, v7, v8, v9]))] H := by rw [hHe]; exact hP
  rw [← hHe]
  have hi_X10 : ∀ w ∈ wsX100, w ∈ wsX10_heed := by decide +kernel
  have hl := lv_entry [.ref h0, .ref r0] (n := 2) (Nat.le_of_ble_eq_true rfl)
  rw [lg_entry_eq]
  generalize (lg_sl [.ref h0, .ref r0] ++ List.replicate (2 - (lg_sl [.ref h0, .ref r0]).length) Slot.unset).toArray = ls at hl ⊢
  have hl : lv_has ls 2 [(0, .ref h0), (1, .ref r0)] := hl
  refine lv_aload_n hx hb dX10_heed_0 rfl (lv_at hl 1 rfl) ?_
  refine lv_ifnull hx hb dX10_heed_1 ?_
  refine lv_aload_n hx hb dX10_heed_4 rfl (lv_at hl 0 rfl) ?_
  refine lv_aload_n hx hb dX10_heed_5 rfl (lv_at hl 1 rfl) ?_
  refine va_put (D := D) (ci := 13) (v := .ref r0) (ty := tyX10 9) (own := RX10) (C := RX10) (T := TX10) (N := 10) hx hb hts hi_X10 tyX10 tyX10_ok nmX10 hown hK hP hD hS 0 rfl rfl 9 (by decide) (hts (.fieldLink RX10 38 "CanalMaps" "kept" "LCanalMaps$Refusal;") (List.mem_of_getElem? (i := 3) (by decide +kernel))) (fun _ h9 => h9) rfl (by decide +kernel) rfl rfl (Nat.le_of_ble_eq_true rfl) dX10_heed_6 (fun H locs hP hD hS => ?_)
  have hP : va_P D vwCl [(h0, .inr (13, [v0, v1, v2, v3, v4, v5, v6, v7, v8, .ref r0]))] H := hP
  have hD : va_D A [(h0, .inr (13, [v0, v1, v2, v3, v4, v5, v6, v7, v8, .ref r0]))] := hD
  obtain ⟨sa9, hstr⟩ := fxs_ hF RX10 109 "refused for a reason that is kept"
  exact vx_throwS (own := RX10) (cls := "java/lang/UnsupportedOperationException") (names := ["java/lang/RuntimeException", "java/lang/Exception"]) hx hb hl0 hown (by decide +kernel) (by decide +kernel) (hts (.classLink RX10 107 "java/lang/UnsupportedOperationException") (List.mem_of_getElem? (i := 1) (by decide +kernel))) (hts (.initialized "java/lang/UnsupportedOperationException") (List.mem_of_getElem? (i := 2) (by decide +kernel))) hstr (fxw_ hts (by decide +kernel) (by decide +kernel) (fxb_ hF "java/lang/UnsupportedOperationException")) (by decide +kernel) hF.2.2.2.2.1 hF.2.2.2.2.2.1 hS (by rw [hml]; exact hl.1) dX10_heed_9 dX10_heed_12 dX10_heed_13 dX10_heed_15 dX10_heed_18 (fun x9 hx9 => (htab x9 hx9).elim) (Nat.le_of_ble_eq_true rfl) (Nat.le_of_ble_eq_true rfl) (Nat.le_of_ble_eq_true rfl) (Nat.le_of_ble_eq_true rfl) hlocks (fun t9 _ hz9 hq9 => ⟨rfl, xt_ hS hz9 hq9⟩) hS.2.2 (Nat.le_of_ble_eq_true rfl) (Nat.le_of_ble_eq_true rfl)
set_option maxHeartbeats 4000000 in
set_option maxRecDepth 100000 in
theorem c_X10_change_1 (l : Launch) (hl0 : l.stackTraces = false) (D : va_G) (ad : Nat → Nat) (sz : Nat) (h0 : Nat) (h1 : Nat) (v0 : Value) (v1 : Value) (v2 : Value) (v3 : Value) (v4 : Value) (v5 : Value) (v6 : Value) (v7 : Value) (v8 : Value) (v9 : Value) (v10 : Value) (v11 : Value) (v12 : Value) (v13 : Value) (v14 : Value) (v15 : Value) (v16 : Value) (v17 : Value) (p0 : Int32) (p1 : Int32) (p2 : Int32) : vx_Met l yX10_change wsX10_change ({ frames := 7, cells := 2, slots := 9, locals := 164 }) (PC_ D ad [(h0, .inr (13, [.ref h1, v0, v1, v2, v3, v4, v5, v6, v7, v8])), (h1, .inr (11, [v9, v10, v11, v12, v13, .int 0, v14, v15, v16, v17]))] [] sz [.ref h0, .ref (ad 1), .int p0, .int p1, .int p2]) QN_ (XT_ "java/lang/UnsupportedOperationException" (va_A [(h0, .inr (13, [.ref h1, v0, v1, v2, v3, v4, v5, v6, v7, v8])), (h1, .inr (11, [v9, v10, v11, v12, v13, .int 0, v14, v15, v16, v17]))] sz)) 2 9 (va_A [(h0, .inr (13, [.ref h1, v0, v1, v2, v3, v4, v5, v6, v7, v8])), (h1, .inr (11, [v9, v10, v11, v12, v13, .int 0, v14, v15, v16, v17]))] sz) := by
  refine vx_ofW (cc := cX10_change) (maxL := 5) (ret := (some .int)) (by decide) rfl ?_
  intro p e s m args below meth c s₁ B hml htab hv
  obtain ⟨rfl, hsz, hP, hK, hD0, hF⟩ := hv
  have hx := B.exec
  have hb := B.bytes
  have hr := B.returns
  have hts := atoms_spec (ws := wsX10_change) B.pre
  have hown : s.vm.findClass RX10 = some m.cls := findClass_of_methodNamed B.named
  have hlocks := B.notSynchronized
  subst hsz
  have hD := hD0.self (sz := s.heap.size)
  generalize hAe : va_A [(h0, .inr (13, [.ref h1, v0, v1, v2, v3, v4, v5, v6, v7, v8])), (h1, .inr (11, [v9, v10, v11, v12, v13, .int 0, v14, v15, v16, v17]))] s.heap.size = A at hD hF ⊢
  have hA : ∀ q : Nat, s.heap.size ≤ q → A q := fun q h => by rw [← hAe]; exact Or.inr h
  obtain ⟨H, hHe⟩ : ∃ H : Heap, H = s.heap := ⟨_, rfl⟩
  have hS : va_S A s.heap H [] := by rw [hHe]; exact va_S.rf
  have hP : va_P D vwCl [(h0, .inr (13, [.ref h1, v0, v1, v2, v3, v4, v5, v6, v7, v8])), (h1, .inr (11, [v9, v10, v11, v12, v13, .int 0, v14, v15, v16, v17]))] H := by rw [hHe]; exact hP
  rw [← hHe]
  have hi_X10 : ∀ w ∈ wsX100, w ∈ wsX10_change := by decide +kernel
  have hl := lv_entry [.ref h0, .ref (ad 1), .int p0, .int p1, .int p2] (n := 5) (Nat.le_of_ble_eq_true rfl)
  rw [lg_entry_eq]
  generalize (lg_sl [.ref h0, .ref (ad 1), .int p0, .int p1, .int p2] ++ List.replicate (5 - (lg_sl [.ref h0, .ref (ad 1), .int p0, .int p1, .int p2]).length) Slot.unset).toArray = ls at hl ⊢
  have hl : lv_has ls 5 [(0, .ref h0), (1, .ref (ad 1)), (2, .int p0), (3, .int p1), (4, .int p2)] := hl
  refine lv_aload_n hx hb dX10_change_0 rfl (lv_at hl 0 rfl) ?_
  refine lv_aload_n hx hb dX10_change_1 rfl (lv_at hl 0 rfl) ?_
  refine va_get (D := D) (ci := 13) (v := .ref h1) (own := RX10) (C := RX10) (T := TX10) (N := 10) hx hb hts hi_X10 hown hK hP 0 rfl rfl 0 (by decide) (hts (.fieldLink RX10 50 "CanalMaps" "now" "LCanalMaps$Survey;") (List.mem_of_getElem? (i := 1) (by decide +kernel))) (fun _ h9 => h9) rfl dX10_change_2 ?_
  refine lv_aload_n hx hb dX10_change_5 rfl (lv_at hl 1 rfl) ?_
  refine lv_iload_n hx hb dX10_change_6 rfl (lv_at hl 2 rfl) ?_
  refine lv_iload_n hx hb dX10_change_7 rfl (lv_at hl 3 rfl) ?_
  refine lv_iload hx hb dX10_change_8 (lv_at hl 4 rfl) ?_
  refine kc_ (wc := [(h1, .inr (11, [v9, v10, v11, v12, v13, .int 0, v14, v15, v16, v17]))]) (wr := [(h0, .inr (13, [.ref h1, v0, v1, v2, v3, v4, v5, v6, v7, v8]))]) (va_runV (As := [.ref (ad 1), .int p0, .int p1, .int p2]) (rest := [.ref h0]) ⟨hx, hb, hml, hown, hts⟩ (c_X8_against_1 l hl0 D ad H.size h1 (v9) (v10) (v11) (v12) (v13) (v14) (v15) (v16) (v17) p0 p1 p2) (cwV 4 hts gX10_change_X8_against rfl rfl rfl (by decide +kernel) ⟨Nat.le_of_ble_eq_true rfl, Nat.le_of_ble_eq_true rfl⟩) ⟨PC_.blind, va_recv hK hP (ci := 11) (q0 := 1) rfl rfl, PC_.pre hF hK hP hD hS hA [1] [] rfl (by decide) rfl⟩ rfl rfl hl.1 rfl (lv_room (Nat.le_of_ble_eq_true rfl)) dX10_change_10 ⟨Nat.le_of_ble_eq_true rfl, Nat.le_of_ble_eq_true rfl⟩) hK hP hD hS hA [1] [0] [] rfl rfl (by decide) (by decide) rfl (fun qa_1 ka_1 ia_1 H locs hpo hP hD hK hS => ?_)
  have hP : va_P D vwCl [(h0, .inr (13, [.ref h1, v0, v1, v2, v3, v4, v5, v6, v7, v8])), (h1, .inr (11, [v9, v10, v11, v12, v13, .int 0, v14, v15, v16, v17])), ((qa_1 0), .inr (10, [.int 3, .int p0, .null]))] H := hP
  have hD : va_D A [(h0, .inr (13, [.ref h1, v0, v1, v2, v3, v4, v5, v6, v7, v8])), (h1, .inr (11, [v9, v10, v11, v12, v13, .int 0, v14, v15, v16, v17])), ((qa_1 0), .inr (10, [.int 3, .int p0, .null]))] := hD
  have hK : va_K D vwCl [] s := hK
  refine W.eq (g2 := F0 m 13 ls [.ref (qa_1 0), .ref h0]) rfl ?_
  refine kx_ (E0 := "java/lang/UnsupportedOperationException") (wc := [(h0, .inr (13, [.ref h1, v0, v1, v2, v3, v4, v5, v6, v7, v8]))]) (vx_runV (As := [.ref (qa_1 0)]) (rest := []) ⟨hx, hb, hml, hown, hts⟩ (c_X10_heed_1 l hl0 D ad H.size h0 (qa_1 0) (.ref h1) (v0) (v1) (v2) (v3) (v4) (v5) (v6) (v7) (v8)) (cwV 1 hts gX10_change_X10_heed rfl rfl rfl (by decide +kernel) ⟨Nat.le_of_ble_eq_true rfl, Nat.le_of_ble_eq_true rfl⟩) ⟨PC_.blind, va_recv hK hP (ci := 13) (q0 := 0) rfl rfl, PC_.pre hF hK hP hD hS hA [0] [] rfl (by decide) rfl⟩ rfl rfl hl.1 rfl (lv_room (Nat.le_of_ble_eq_true rfl)) dX10_change_13 ⟨Nat.le_of_ble_eq_true rfl, Nat.le_of_ble_eq_true rfl⟩) hD hS hA [0] rfl (fun ce q9 H locs hS hce hvm hcl => ?_)
  exact vx_out (E := "java/lang/UnsupportedOperationException") (fun x9 hx9 => (htab x9 hx9).elim) hlocks hce hvm hcl (fun t9 ht9 _ => ⟨rfl, hS.F ht9⟩) hS.2.2 (Nat.le_of_ble_eq_true rfl) (Nat.le_of_ble_eq_true rfl)
set_option maxHeartbeats 4000000 in
set_option maxRecDepth 100000 in
theorem c_X10_canal_0 (l : Launch) (hl0 : l.stackTraces = false) (D : va_G) (ad : Nat → Nat) (sz : Nat) (h0 : Nat) (h1 : Nat) (v0 : Value) (v1 : Value) (v2 : Value) (v3 : Value) (v4 : Value) (v5 : Value) (v6 : Value) (v7 : Value) (v8 : Value) (v9 : Value) (v10 : Value) (v11 : Value) (v12 : Value) (v13 : Value) (v14 : Value) (v15 : Value) (v16 : Value) (v17 : Value) (p0 : Int32) (p1 : Int32) (p2 : Int32) : vx_Met l yX10_canal wsX10_canal ({ frames := 8, cells := 2, slots := 9, locals := 190 }) (PC_ D ad [(h0, .inr (13, [.ref h1, v0, v1, v2, v3, v4, v5, v6, v7, v8])), (h1, .inr (11, [v9, v10, v11, v12, v13, .int 0, v14, v15, v16, v17]))] [] sz [.ref h0, .int p0, .int p1, .int p2]) QN_ (XT_ "java/lang/UnsupportedOperationException" (va_A [(h0, .inr (13, [.ref h1, v0, v1, v2, v3, v4, v5, v6, v7, v8])), (h1, .inr (11, [v9, v10, v11, v12, v13, .int 0, v14, v15, v16, v17]))] sz)) 2 9 (va_A [(h0, .inr (13, [.ref h1, v0, v1, v2, v3, v4, v5, v6, v7, v8])), (h1, .inr (11, [v9, v10, v11, v12, v13, .int 0, v14, v15, v16, v17]))] sz) := by
  refine vx_ofW (cc := cX10_canal) (maxL := 4) (ret := (some .int)) (by decide) rfl ?_
  intro p e s m args below meth c s₁ B hml htab hv
  obtain ⟨rfl, hsz, hP, hK, hD0, hF⟩ := hv
  have hx := B.exec
  have hb := B.bytes
  have hr := B.returns
  have hts := atoms_spec (ws := wsX10_canal) B.pre
  have hown : s.vm.findClass RX10 = some m.cls := findClass_of_methodNamed B.named
  have hlocks := B.notSynchronized
  subst hsz
  have hD := hD0.self (sz := s.heap.size)
  generalize hAe : va_A [(h0, .inr (13, [.ref h1, v0, v1, v2, v3, v4, v5, v6, v7, v8])), (h1, .inr (11, [v9, v10, v11, v12, v13, .int 0, v14, v15, v16, v17]))] s.heap.size = A at hD hF ⊢
  have hA : ∀ q : Nat, s.heap.size ≤ q → A q := fun q h => by rw [← hAe]; exact Or.inr h
  obtain ⟨H, hHe⟩ : ∃ H : Heap, H = s.heap := ⟨_, rfl⟩
  have hS : va_S A s.heap H [] := by rw [hHe]; exact va_S.rf
  have hP : va_P D vwCl [(h0, .inr (13, [.ref h1, v0, v1, v2, v3, v4, v5, v6, v7, v8])), (h1, .inr (11, [v9, v10, v11, v12, v13, .int 0, v14, v15, v16, v17]))] H := by rw [hHe]; exact hP
  rw [← hHe]
  have hl := lv_entry [.ref h0, .int p0, .int p1, .int p2] (n := 4) (Nat.le_of_ble_eq_true rfl)
  rw [lg_entry_eq]
  generalize (lg_sl [.ref h0, .int p0, .int p1, .int p2] ++ List.replicate (4 - (lg_sl [.ref h0, .int p0, .int p1, .int p2]).length) Slot.unset).toArray = ls at hl ⊢
  have hl : lv_has ls 4 [(0, .ref h0), (1, .int p0), (2, .int p1), (3, .int p2)] := hl
  refine lv_aload_n hx hb dX10_canal_0 rfl (lv_at hl 0 rfl) ?_
  refine va_gets (C := "CanalMaps$Change") (n := "CANAL") (d := "LCanalMaps$Change;") (own := RX10) (ref := "CanalMaps$Change") (v := .ref (ad 1)) hx hb (hF.1.1 1 (by decide)).1 hS hown (hts (.fieldLink RX10 77 "CanalMaps$Change" "CANAL" "LCanalMaps$Change;") (List.mem_of_getElem? (i := 1) (by decide +kernel))) (fun _ h9 => h9) dX10_canal_1 ?_
  refine lv_iload_n hx hb dX10_canal_4 rfl (lv_at hl 1 rfl) ?_
  refine lv_iload_n hx hb dX10_canal_5 rfl (lv_at hl 2 rfl) ?_
  refine lv_iload_n hx hb dX10_canal_6 rfl (lv_at hl 3 rfl) ?_
  refine kx_ (E0 := "java/lang/UnsupportedOperationException") (wc := [(h0, .inr (13, [.ref h1, v0, v1, v2, v3, v4, v5, v6, v7, v8])), (h1, .inr (11, [v9, v10, v11, v12, v13, .int 0, v14, v15, v16, v17]))]) (vx_runV (As := [.ref (ad 1), .int p0, .int p1, .int p2]) (rest := []) ⟨hx, hb, hml, hown, hts⟩ (c_X10_change_1 l hl0 D ad H.size h0 h1 (v0) (v1) (v2) (v3) (v4) (v5) (v6) (v7) (v8) (v9) (v10) (v11) (v12) (v13) (v14) (v15) (v16) (v17) p0 p1 p2) (cwV 4 hts gX10_canal_X10_change rfl rfl rfl (by decide +kernel) ⟨Nat.le_of_ble_eq_true rfl, Nat.le_of_ble_eq_true rfl⟩) ⟨PC_.blind, va_recv hK hP (ci := 13) (q0 := 0) rfl rfl, PC_.pre hF hK hP hD hS hA [0, 1] [] rfl (by decide) rfl⟩ rfl rfl hl.1 rfl (lv_room (Nat.le_of_ble_eq_true rfl)) dX10_canal_7 ⟨Nat.le_of_ble_eq_true rfl, Nat.le_of_ble_eq_true rfl⟩) hD hS hA [0, 1] rfl (fun ce q9 H locs hS hce hvm hcl => ?_)
  exact vx_out (E := "java/lang/UnsupportedOperationException") (fun x9 hx9 => (htab x9 hx9).elim) hlocks hce hvm hcl (fun t9 ht9 _ => ⟨rfl, hS.F ht9⟩) hS.2.2 (Nat.le_of_ble_eq_true rfl) (Nat.le_of_ble_eq_true rfl)
