set_option maxHeartbeats 4000000 in
set_option maxRecDepth 100000 in
theorem c_X11_keeps_0 (l : Launch) (hl0 : l.stackTraces = false) (D : va_G) (ad : Nat → Nat) (sz : Nat) (h0 : Nat) (h1 : Nat) (h2 : Nat) (k1 : ClassId) (k2 : ClassId) (v0 : Value) (v1 : Value) (v2 : Value) (v3 : Value) (v4 : Value) (v5 : Value) (v6 : Value) (v7 : Value) (v8 : Value) (v9 : Value) (v10 : Value) (v11 : Value) (v12 : Value) (v13 : Value) (v14 : Value) (v15 : Value) (v16 : Value) (v17 : Value) (v18 : Value) (v19 : Value) (v20 : Value) (v21 : Value) : Met l yX11_keeps wsX11_keeps ({ frames := 0, cells := 0, slots := 0, locals := 0 }) (PC_ D ad [(h0, .inr (14, [v0, .ref h1, v1, .ref h2, .int 0, v2, v3, v4, v5, v6, v7, v8, v9, v10, v11, v12, v13, v14, v15, v16, v17, v18, v19, v20, v21])), (h1, .inl (k1, 8277, .inl (fun _ => 0))), (h2, .inl (k2, 66216, .inl (fun _ => 0)))] [(k1, .int), (k2, .int)] sz [.ref h0, .int 0]) (QG_ D (fun q i => some (.int 0)) (fun q i => True) (fun q k i => [(h0, .inr (14, [v0, .ref h1, v1, .ref h2, .int 1, v2, v3, v4, v5, v6, v7, v8, v9, v10, v11, v12, v13, v14, v15, v16, v17, v18, v19, v20, v21])), (h1, .inl (k1, 8277, .inl (fun _ => 0))), (h2, .inl (k2, 66216, .inl (fun _ => 0)))]) (fun q k i => [(k1, .int), (k2, .int)]) (va_A [(h0, .inr (14, [v0, .ref h1, v1, .ref h2, .int 0, v2, v3, v4, v5, v6, v7, v8, v9, v10, v11, v12, v13, v14, v15, v16, v17, v18, v19, v20, v21])), (h1, .inl (k1, 8277, .inl (fun _ => 0))), (h2, .inl (k2, 66216, .inl (fun _ => 0)))] sz)) 0 0 (va_A [(h0, .inr (14, [v0, .ref h1, v1, .ref h2, .int 0, v2, v3, v4, v5, v6, v7, v8, v9, v10, v11, v12, v13, v14, v15, v16, v17, v18, v19, v20, v21])), (h1, .inl (k1, 8277, .inl (fun _ => 0))), (h2, .inl (k2, 66216, .inl (fun _ => 0)))] sz) := by
  refine Met.ofW (cc := cX11_keeps) (maxL := 4) (ret := (some .int)) (by decide) rfl ?_
  intro p e s m args below meth c s₁ B hml hv
  obtain ⟨rfl, hsz, hP, hK, hD0, hF⟩ := hv
  have hx := B.exec
  have hb := B.bytes
  have hr := B.returns
  have hts := atoms_spec (ws := wsX11_keeps) B.pre
  have hown : s.vm.findClass RX11 = some m.cls := findClass_of_methodNamed B.named
  have hlocks := B.notSynchronized
  subst hsz
  have hD := hD0.self (sz := s.heap.size)
  generalize hAe : va_A [(h0, .inr (14, [v0, .ref h1, v1, .ref h2, .int 0, v2, v3, v4, v5, v6, v7, v8, v9, v10, v11, v12, v13, v14, v15, v16, v17, v18, v19, v20, v21])), (h1, .inl (k1, 8277, .inl (fun _ => 0))), (h2, .inl (k2, 66216, .inl (fun _ => 0)))] s.heap.size = A at hD hF ⊢
  have hA : ∀ q : Nat, s.heap.size ≤ q → A q := fun q h => by rw [← hAe]; exact Or.inr h
  obtain ⟨H, hHe⟩ : ∃ H : Heap, H = s.heap := ⟨_, rfl⟩
  have hS : va_S A s.heap H [] := by rw [hHe]; exact va_S.rf
  have hP : va_P D vwCl [(h0, .inr (14, [v0, .ref h1, v1, .ref h2, .int 0, v2, v3, v4, v5, v6, v7, v8, v9, v10, v11, v12, v13, v14, v15, v16, v17, v18, v19, v20, v21])), (h1, .inl (k1, 8277, .inl (fun _ => 0))), (h2, .inl (k2, 66216, .inl (fun _ => 0)))] H := by rw [hHe]; exact hP
  rw [← hHe]
  have hi_X11 : ∀ w ∈ wsX110, w ∈ wsX11_keeps := by decide +kernel
  have hl := lv_entry [.ref h0, .int 0] (n := 4) (Nat.le_of_ble_eq_true rfl)
  rw [lg_entry_eq]
  generalize (lg_sl [.ref h0, .int 0] ++ List.replicate (4 - (lg_sl [.ref h0, .int 0]).length) Slot.unset).toArray = ls at hl ⊢
  have hl : lv_has ls 4 [(0, .ref h0), (1, .int 0)] := hl
  refine lv_aload_n hx hb dX11_keeps_0 rfl (lv_at hl 0 rfl) ?_
  refine va_get (D := D) (ci := 14) (v := .int 0) (own := RX11) (C := RX11) (T := TX11) (N := 25) hx hb hts hi_X11 hown hK hP 0 rfl rfl 4 (by decide) (hts (.fieldLink RX11 60 "CanalMapsModel" "undos" "I") (List.mem_of_getElem? (i := 1) (by decide +kernel))) (fun _ h9 => h9) rfl dX11_keeps_1 ?_
  refine lv_bipush (v := 8) hx hb dX11_keeps_4 (by decide) ?_
  refine lv_icmp_ne (tgt := 49) hx hb dX11_keeps_6 (by decide) (fun _ => ?_) (fun c9 => absurd c9 (by decide +kernel))
  refine lv_bipush (v := 85) hx hb dX11_keeps_49 (by decide) ?_
  refine lv_aload_n hx hb dX11_keeps_51 rfl (lv_at hl 0 rfl) ?_
  refine va_get (D := D) (ci := 14) (v := .ref h1) (own := RX11) (C := RX11) (T := TX11) (N := 25) hx hb hts hi_X11 hown hK hP 0 rfl rfl 1 (by decide) (hts (.fieldLink RX11 13 "CanalMapsModel" "tried" "[I") (List.mem_of_getElem? (i := 4) (by decide +kernel))) (fun _ h9 => h9) rfl dX11_keeps_52 ?_
  refine lv_bipush (v := 84) hx hb dX11_keeps_55 (by decide) ?_
  refine va_iald hx hb hK hP 1 0 rfl rfl (vin_ (by decide +kernel)) dX11_keeps_57 ?_
  refine kt_ (v := 0) (by decide +kernel) ?_
  refine lv_iadd hx hb dX11_keeps_58 ?_
  refine kt_ (v := 85) (by decide +kernel) ?_
  refine lv_istore_n (lv' := [(2, .int 85), (0, .ref h0), (1, .int 0)]) hx hb dX11_keeps_59 rfl hl (by decide) rfl (fun ls hl => ?_)
  refine lv_iconst (v := 0) hx hb dX11_keeps_60 (by decide) ?_
  refine lv_istore_n (lv' := [(3, .int 0), (2, .int 85), (0, .ref h0), (1, .int 0)]) hx hb dX11_keeps_61 rfl hl (by decide) rfl (fun ls hl => ?_)
  refine lv_iload_n hx hb dX11_keeps_62 rfl (lv_at hl 0 rfl) ?_
  refine lv_iload_n hx hb dX11_keeps_63 rfl (lv_at hl 1 rfl) ?_
  refine lv_icmp_ge (tgt := 94) hx hb dX11_keeps_64 (by decide) (fun c9 => absurd c9 (by decide +kernel)) (fun _ => ?_)
  refine lv_aload_n hx hb dX11_keeps_67 rfl (lv_at hl 2 rfl) ?_
  refine va_get (D := D) (ci := 14) (v := .ref h2) (own := RX11) (C := RX11) (T := TX11) (N := 25) hx hb hts hi_X11 hown hK hP 0 rfl rfl 3 (by decide) (hts (.fieldLink RX11 20 "CanalMapsModel" "kept" "[I") (List.mem_of_getElem? (i := 3) (by decide +kernel))) (fun _ h9 => h9) rfl dX11_keeps_68 ?_
  refine lv_sipush (v := 8277) hx hb dX11_keeps_71 (by decide +kernel) ?_
  refine lv_aload_n hx hb dX11_keeps_74 rfl (lv_at hl 2 rfl) ?_
  refine va_get (D := D) (ci := 14) (v := .int 0) (own := RX11) (C := RX11) (T := TX11) (N := 25) hx hb hts hi_X11 hown hK hP 0 rfl rfl 4 (by decide) (hts (.fieldLink RX11 60 "CanalMapsModel" "undos" "I") (List.mem_of_getElem? (i := 1) (by decide +kernel))) (fun _ h9 => h9) rfl dX11_keeps_75 ?_
  refine lv_imul hx hb dX11_keeps_78 ?_
  refine kt_ (v := 0) (by decide +kernel) ?_
  refine lv_iload_n hx hb dX11_keeps_79 rfl (lv_at hl 0 rfl) ?_
  refine lv_iadd hx hb dX11_keeps_80 ?_
  refine kt_ (v := 0) (by decide +kernel) ?_
  refine lv_aload_n hx hb dX11_keeps_81 rfl (lv_at hl 2 rfl) ?_
  refine va_get (D := D) (ci := 14) (v := .ref h1) (own := RX11) (C := RX11) (T := TX11) (N := 25) hx hb hts hi_X11 hown hK hP 0 rfl rfl 1 (by decide) (hts (.fieldLink RX11 13 "CanalMapsModel" "tried" "[I") (List.mem_of_getElem? (i := 4) (by decide +kernel))) (fun _ h9 => h9) rfl dX11_keeps_82 ?_
  refine lv_iload_n hx hb dX11_keeps_85 rfl (lv_at hl 0 rfl) ?_
  refine va_iald hx hb hK hP 1 0 rfl rfl (vin_ (by decide +kernel)) dX11_keeps_86 ?_
  refine kt_ (v := 0) (by decide +kernel) ?_
  refine ka_iast (g := (fun _ => 0)) hx hb hK hP hD hS 2 1 rfl rfl (vin_ (by decide +kernel)) (up_same (by decide +kernel)) dX11_keeps_87 (fun H locs hP hD hS => ?_)
  have hP : va_P D vwCl [(h0, .inr (14, [v0, .ref h1, v1, .ref h2, .int 0, v2, v3, v4, v5, v6, v7, v8, v9, v10, v11, v12, v13, v14, v15, v16, v17, v18, v19, v20, v21])), (h1, .inl (k1, 8277, .inl (fun _ => 0))), (h2, .inl (k2, 66216, .inl (fun _ => 0)))] H := hP
  have hD : va_D A [(h0, .inr (14, [v0, .ref h1, v1, .ref h2, .int 0, v2, v3, v4, v5, v6, v7, v8, v9, v10, v11, v12, v13, v14, v15, v16, v17, v18, v19, v20, v21])), (h1, .inl (k1, 8277, .inl (fun _ => 0))), (h2, .inl (k2, 66216, .inl (fun _ => 0)))] := hD
  refine lv_iinc (v := 1) (lv' := [(3, .int 1), (2, .int 85), (0, .ref h0), (1, .int 0)]) hx hb dX11_keeps_88 hl (k := 0) rfl (by decide +kernel) (by decide) rfl (fun ls hl => ?_)
  refine lv_goto (tgt := 62) hx hb dX11_keeps_91 (by decide) ?_
  refine lv_iload_n hx hb dX11_keeps_62 rfl (lv_at hl 0 rfl) ?_
  refine lv_iload_n hx hb dX11_keeps_63 rfl (lv_at hl 1 rfl) ?_
  refine lv_icmp_ge (tgt := 94) hx hb dX11_keeps_64 (by decide) (fun c9 => absurd c9 (by decide +kernel)) (fun _ => ?_)
  refine lv_aload_n hx hb dX11_keeps_67 rfl (lv_at hl 2 rfl) ?_
  refine va_get (D := D) (ci := 14) (v := .ref h2) (own := RX11) (C := RX11) (T := TX11) (N := 25) hx hb hts hi_X11 hown hK hP 0 rfl rfl 3 (by decide) (hts (.fieldLink RX11 20 "CanalMapsModel" "kept" "[I") (List.mem_of_getElem? (i := 3) (by decide +kernel))) (fun _ h9 => h9) rfl dX11_keeps_68 ?_
  refine lv_sipush (v := 8277) hx hb dX11_keeps_71 (by decide +kernel) ?_
  refine lv_aload_n hx hb dX11_keeps_74 rfl (lv_at hl 2 rfl) ?_
  refine va_get (D := D) (ci := 14) (v := .int 0) (own := RX11) (C := RX11) (T := TX11) (N := 25) hx hb hts hi_X11 hown hK hP 0 rfl rfl 4 (by decide) (hts (.fieldLink RX11 60 "CanalMapsModel" "undos" "I") (List.mem_of_getElem? (i := 1) (by decide +kernel))) (fun _ h9 => h9) rfl dX11_keeps_75 ?_
  refine lv_imul hx hb dX11_keeps_78 ?_
  refine kt_ (v := 0) (by decide +kernel) ?_
  refine lv_iload_n hx hb dX11_keeps_79 rfl (lv_at hl 0 rfl) ?_
  refine lv_iadd hx hb dX11_keeps_80 ?_
  refine kt_ (v := 1) (by decide +kernel) ?_
  refine lv_aload_n hx hb dX11_keeps_81 rfl (lv_at hl 2 rfl) ?_
  refine va_get (D := D) (ci := 14) (v := .ref h1) (own := RX11) (C := RX11) (T := TX11) (N := 25) hx hb hts hi_X11 hown hK hP 0 rfl rfl 1 (by decide) (hts (.fieldLink RX11 13 "CanalMapsModel" "tried" "[I") (List.mem_of_getElem? (i := 4) (by decide +kernel))) (fun _ h9 => h9) rfl dX11_keeps_82 ?_
  refine lv_iload_n hx hb dX11_keeps_85 rfl (lv_at hl 0 rfl) ?_
  refine va_iald hx hb hK hP 1 0 rfl rfl (vin_ (by decide +kernel)) dX11_keeps_86 ?_
  refine kt_ (v := 0) (by decide +kernel) ?_
  refine ka_iast (g := (fun _ => 0)) hx hb hK hP hD hS 2 1 rfl rfl (vin_ (by decide +kernel)) (up_same (by decide +kernel)) dX11_keeps_87 (fun H locs hP hD hS => ?_)
  have hP : va_P D vwCl [(h0, .inr (14, [v0, .ref h1, v1, .ref h2, .int 0, v2, v3, v4, v5, v6, v7, v8, v9, v10, v11, v12, v13, v14, v15, v16, v17, v18, v19, v20, v21])), (h1, .inl (k1, 8277, .inl (fun _ => 0))), (h2, .inl (k2, 66216, .inl (fun _ => 0)))] H := hP
  have hD : va_D A [(h0, .inr (14, [v0, .ref h1, v1, .ref h2, .int 0, v2, v3, v4, v5, v6, v7, v8, v9, v10, v11, v12, v13, v14, v15, v16, v17, v18, v19, v20, v21])), (h1, .inl (k1, 8277, .inl (fun _ => 0))), (h2, .inl (k2, 66216, .inl (fun _ => 0)))] := hD
  refine lv_iinc (v := 2) (lv' := [(3, .int 2), (2, .int 85), (0, .ref h0), (1, .int 0)]) hx hb dX11_keeps_88 hl (k := 0) rfl (by decide +kernel) (by decide) rfl (fun ls hl => ?_)
  refine lv_goto (tgt := 62) hx hb dX11_keeps_91 (by decide) ?_
  refine lv_iload_n hx hb dX11_keeps_62 rfl (lv_at hl 0 rfl) ?_
  refine lv_iload_n hx hb dX11_keeps_63 rfl (lv_at hl 1 rfl) ?_
  refine lv_icmp_ge (tgt := 94) hx hb dX11_keeps_64 (by decide) (fun c9 => absurd c9 (by decide +kernel)) (fun _ => ?_)
  refine lv_aload_n hx hb dX11_keeps_67 rfl (lv_at hl 2 rfl) ?_
  refine va_get (D := D) (ci := 14) (v := .ref h2) (own := RX11) (C := RX11) (T := TX11) (N := 25) hx hb hts hi_X11 hown hK hP 0 rfl rfl 3 (by decide) (hts (.fieldLink RX11 20 "CanalMapsModel" "kept" "[I") (List.mem_of_getElem? (i := 3) (by decide +kernel))) (fun _ h9 => h9) rfl dX11_keeps_68 ?_
  refine lv_sipush (v := 8277) hx hb dX11_keeps_71 (by decide +kernel) ?_
  refine lv_aload_n hx hb dX11_keeps_74 rfl (lv_at hl 2 rfl) ?_
  refine va_get (D := D) (ci := 14) (v := .int 0) (own := RX11) (C := RX11) (T := TX11) (N := 25) hx hb hts hi_X11 hown hK hP 0 rfl rfl 4 (by decide) (hts (.fieldLink RX11 60 "CanalMapsModel" "undos" "I") (List.mem_of_getElem? (i := 1) (by decide +kernel))) (fun _ h9 => h9) rfl dX11_keeps_75 ?_
  refine lv_imul hx hb dX11_keeps_78 ?_
  refine kt_ (v := 0) (by decide +kernel) ?_
  refine lv_iload_n hx hb dX11_keeps_79 rfl (lv_at hl 0 rfl) ?_
  refine lv_iadd hx hb dX11_keeps_80 ?_
  refine kt_ (v := 2) (by decide +kernel) ?_
  refine lv_aload_n hx hb dX11_keeps_81 rfl (lv_at hl 2 rfl) ?_
  refine va_get (D := D) (ci := 14) (v := .ref h1) (own := RX11) (C := RX11) (T := TX11) (N := 25) hx hb hts hi_X11 hown hK hP 0 rfl rfl 1 (by decide) (hts (.fieldLink RX11 13 "CanalMapsModel" "tried" "[I") (List.mem_of_getElem? (i := 4) (by decide +kernel))) (fun _ h9 => h9) rfl dX11_keeps_82 ?_
  refine lv_iload_n hx hb dX11_keeps_85 rfl (lv_at hl 0 rfl) ?_
  refine va_iald hx hb hK hP 1 0 rfl rfl (vin_ (by decide +kernel)) dX11_keeps_86 ?_
  refine kt_ (v := 0) (by decide +kernel) ?_
  refine ka_iast (g := (fun _ => 0)) hx hb hK hP hD hS 2 1 rfl rfl (vin_ (by decide +kernel)) (up_same (by decide +kernel)) dX11_keeps_87 (fun H locs hP hD hS => ?_)
  have hP : va_P D vwCl [(h0, .inr (14, [v0, .ref h1, v1, .ref h2, .int 0, v2, v3, v4, v5, v6, v7, v8, v9, v10, v11, v12, v13, v14, v15, v16, v17, v18, v19, v20, v21])), (h1, .inl (k1, 8277, .inl (fun _ => 0))), (h2, .inl (k2, 66216, .inl (fun _ => 0)))] H := hP
  have hD : va_D A [(h0, .inr (14, [v0, .ref h1, v1, .ref h2, .int 0, v2, v3, v4, v5, v6, v7, v8, v9, v10, v11, v12, v13, v14, v15, v16, v17, v18, v19, v20, v21])), (h1, .inl (k1, 8277, .inl (fun _ => 0))), (h2, .inl (k2, 66216, .inl (fun _ => 0)))] := hD
  refine lv_iinc (v := 3) (lv' := [(3, .int 3), (2, .int 85), (0, .ref h0), (1, .int 0)]) hx hb dX11_keeps_88 hl (k := 0) rfl (by decide +kernel) (by decide) rfl (fun ls hl => ?_)
  refine lv_goto (tgt := 62) hx hb dX11_keeps_91 (by decide) ?_
  refine lv_iload_n hx hb dX11_keeps_62 rfl (lv_at hl 0 rfl) ?_
  refine lv_iload_n hx hb dX11_keeps_63 rfl (lv_at hl 1 rfl) ?_
  refine lv_icmp_ge (tgt := 94) hx hb dX11_keeps_64 (by decide) (fun c9 => absurd c9 (by decide +kernel)) (fun _ => ?_)
  refine lv_aload_n hx hb dX11_keeps_67 rfl (lv_at hl 2 rfl) ?_
  refine va_get (D := D) (ci := 14) (v := .ref h2) (own := RX11) (C := RX11) (T := TX11) (N := 25) hx hb hts hi_X11 hown hK hP 0 rfl rfl 3 (by decide) (hts (.fieldLink RX11 20 "CanalMapsModel" "kept" "[I") (List.mem_of_getElem? (i := 3) (by decide +kernel))) (fun _ h9 => h9) rfl dX11_keeps_68 ?_
  refine lv_sipush (v := 8277) hx hb dX11_keeps_71 (by decide +kernel) ?_
  refine lv_aload_n hx hb dX11_keeps_74 rfl (lv_at hl 2 rfl) ?_
  refine va_get (D := D) (ci := 14) (v := .int 0) (own := RX11) (C := RX11) (T := TX11) (N := 25) hx hb hts hi_X11 hown hK hP 0 rfl rfl 4 (by decide) (hts (.fieldLink RX11 60 "CanalMapsModel" "undos" "I") (List.mem_of_getElem? (i := 1) (by decide +kernel))) (fun _ h9 => h9) rfl dX11_keeps_75 ?_
  refine lv_imul hx hb dX11_keeps_78 ?_
  refine kt_ (v := 0) (by decide +kernel) ?_
  refine lv_iload_n hx hb dX11_keeps_79 rfl (lv_at hl 0 rfl) ?_
  refine lv_iadd hx hb dX11_keeps_80 ?_
  refine kt_ (v := 3) (by decide +kernel) ?_
  refine lv_aload_n hx hb dX11_keeps_81 rfl (lv_at hl 2 rfl) ?_
  refine va_get (D := D) (ci := 14) (v := .ref h1) (own := RX11) (C := RX11) (T := TX11) (N := 25) hx hb hts hi_X11 hown hK hP 0 rfl rfl 1 (by decide) (hts (.fieldLink RX11 13 "CanalMapsModel" "tried" "[I") (List.mem_of_getElem? (i := 4) (by decide +kernel))) (fun _ h9 => h9) rfl dX11_keeps_82 ?_
  refine lv_iload_n hx hb dX11_keeps_85 rfl (lv_at hl 0 rfl) ?_
  refine va_iald hx hb hK hP 1 0 rfl rfl (vin_ (by decide +kernel)) dX11_keeps_86 ?_
  refine kt_ (v := 0) (by decide +kernel) ?_
  refine ka_iast (g := (fun _ => 0)) hx hb hK hP hD hS 2 1 rfl rfl (vin_ (by decide +kernel)) (up_same (by decide +kernel)) dX11_keeps_87 (fun H locs hP hD hS => ?_)
  have hP : va_P D vwCl [(h0, .inr (14, [v0, .ref h1, v1, .ref h2, .int 0, v2, v3, v4, v5, v6, v7, v8, v9, v10, v11, v12, v13, v14, v15, v16, v17, v18, v19, v20, v21])), (h1, .inl (k1, 8277, .inl (fun _ => 0))), (h2, .inl (k2, 66216, .inl (fun _ => 0)))] H := hP
  have hD : va_D A [(h0, .inr (14, [v0, .ref h1, v1, .ref h2, .int 0, v2, v3, v4, v5, v6, v7, v8, v9, v10, v11, v12, v13, v14, v15, v16, v17, v18, v19, v20, v21])), (h1, .inl (k1, 8277, .inl (fun _ => 0))), (h2, .inl (k2, 66216, .inl (fun _ => 0)))] := hD
  refine lv_iinc (v := 4) (lv' := [(3, .int 4), (2, .int 85), (0, .ref h0), (1, .int 0)]) hx hb dX11_keeps_88 hl (k := 0) rfl (by decide +kernel) (by decide) rfl (fun ls hl => ?_)
  refine lv_goto (tgt := 62) hx hb dX11_keeps_91 (by decide) ?_
  refine lv_iload_n hx hb dX11_keeps_62 rfl (lv_at hl 0 rfl) ?_
  refine lv_iload_n hx hb dX11_keeps_63 rfl (lv_at hl 1 rfl) ?_
  refine lv_icmp_ge (tgt := 94) hx hb dX11_keeps_64 (by decide) (fun c9 => absurd c9 (by decide +kernel)) (fun _ => ?_)
  refine lv_aload_n hx hb dX11_keeps_67 rfl (lv_at hl 2 rfl) ?_
  refine va_get (D := D) (ci := 14) (v := .ref h2) (own := RX11) (C := RX11) (T := TX11) (N := 25) hx hb hts hi_X11 hown hK hP 0 rfl rfl 3 (by decide) (hts (.fieldLink RX11 20 "CanalMapsModel" "kept" "[I") (List.mem_of_getElem? (i := 3) (by decide +kernel))) (fun _ h9 => h9) rfl dX11_keeps_68 ?_
  refine lv_sipush (v := 8277) hx hb dX11_keeps_71 (by decide +kernel) ?_
  refine lv_aload_n hx hb dX11_keeps_74 rfl (lv_at hl 2 rfl) ?_
  refine va_get (D := D) (ci := 14) (v := .int 0) (own := RX11) (C := RX11) (T := TX11) (N := 25) hx hb hts hi_X11 hown hK hP 0 rfl rfl 4 (by decide) (hts (.fieldLink RX11 60 "CanalMapsModel" "undos" "I") (List.mem_of_getElem? (i := 1) (by decide +kernel))) (fun _ h9 => h9) rfl dX11_keeps_75 ?_
  refine lv_imul hx hb dX11_keeps_78 ?_
  refine kt_ (v := 0) (by decide +kernel) ?_
  refine lv_iload_n hx hb dX11_keeps_79 rfl (lv_at hl 0 rfl) ?_
  refine lv_iadd hx hb dX11_keeps_80 ?_
  refine kt_ (v := 4) (by decide +kernel) ?_
  refine lv_aload_n hx hb dX11_keeps_81 rfl (lv_at hl 2 rfl) ?_
  refine va_get (D := D) (ci := 14) (v := .ref h1) (own := RX11) (C := RX11) (T := TX11) (N := 25) hx hb hts hi_X11 hown hK hP 0 rfl rfl 1 (by decide) (hts (.fieldLink RX11 13 "CanalMapsModel" "tried" "[I") (List.mem_of_getElem? (i := 4) (by decide +kernel))) (fun _ h9 => h9) rfl dX11_keeps_82 ?_
  refine lv_iload_n hx hb dX11_keeps_85 rfl (lv_at hl 0 rfl) ?_
  refine va_iald hx hb hK hP 1 0 rfl rfl (vin_ (by decide +kernel)) dX11_keeps_86 ?_
  refine kt_ (v := 0) (by decide +kernel) ?_
  refine ka_iast (g := (fun _ => 0)) hx hb hK hP hD hS 2 1 rfl rfl (vin_ (by decide +kernel)) (up_same (by decide +kernel)) dX11_keeps_87 (fun H locs hP hD hS => ?_)
  have hP : va_P D vwCl [(h0, .inr (14, [v0, .ref h1, v1, .ref h2, .int 0, v2, v3, v4, v5, v6, v7, v8, v9, v10, v11, v12, v13, v14, v15, v16, v17, v18, v19, v20, v21])), (h1, .inl (k1, 8277, .inl (fun _ => 0))), (h2, .inl (k2, 66216, .inl (fun _ => 0)))] H := hP
  have hD : va_D A [(h0, .inr (14, [v0, .ref h1, v1, .ref h2, .int 0, v2, v3, v4, v5, v6, v7, v8, v9, v10, v11, v12, v13, v14, v15, v16, v17, v18, v19, v20, v21])), (h1, .inl (k1, 8277, .inl (fun _ => 0))), (h2, .inl (k2, 66216, .inl (fun _ => 0)))] := hD
  refine lv_iinc (v := 5) (lv' := [(3, .int 5), (2, .int 85), (0, .ref h0), (1, .int 0)]) hx hb dX11_keeps_88 hl (k := 0) rfl (by decide +kernel) (by decide) rfl (fun ls hl => ?_)
  refine lv_goto (tgt := 62) hx hb dX11_keeps_91 (by decide) ?_
  refine lv_iload_n hx hb dX11_keeps_62 rfl (lv_at hl 0 rfl) ?_
  refine lv_iload_n hx hb dX11_keeps_63 rfl (lv_at hl 1 rfl) ?_
  refine lv_icmp_ge (tgt := 94) hx hb dX11_keeps_64 (by decide) (fun c9 => absurd c9 (by decide +kernel)) (fun _ => ?_)
  refine lv_aload_n hx hb dX11_keeps_67 rfl (lv_at hl 2 rfl) ?_
  refine va_get (D := D) (ci := 14) (v := .ref h2) (own := RX11) (C := RX11) (T := TX11) (N := 25) hx hb hts hi_X11 hown hK hP 0 rfl rfl 3 (by decide) (hts (.fieldLink RX11 20 "CanalMapsModel" "kept" "[I") (List.mem_of_getElem? (i := 3) (by decide +kernel))) (fun _ h9 => h9) rfl dX11_keeps_68 ?_
  refine lv_sipush (v := 8277) hx hb dX11_keeps_71 (by decide +kernel) ?_
  refine lv_aload_n hx hb dX11_keeps_74 rfl (lv_at hl 2 rfl) ?_
  refine va_get (D := D) (ci := 14) (v := .int 0) (own := RX11) (C := RX11) (T := TX11) (N := 25) hx hb hts hi_X11 hown hK hP 0 rfl rfl 4 (by decide) (hts (.fieldLink RX11 60 "CanalMapsModel" "undos" "I") (List.mem_of_getElem? (i := 1) (by decide +kernel))) (fun _ h9 => h9) rfl dX11_keeps_75 ?_
  refine lv_imul hx hb dX11_keeps_78 ?_
  refine kt_ (v := 0) (by decide +kernel) ?_
  refine lv_iload_n hx hb dX11_keeps_79 rfl (lv_at hl 0 rfl) ?_
  refine lv_iadd hx hb dX11_keeps_80 ?_
  refine kt_ (v := 5) (by decide +kernel) ?_
  refine lv_aload_n hx hb dX11_keeps_81 rfl (lv_at hl 2 rfl) ?_
  refine va_get (D := D) (ci := 14) (v := .ref h1) (own := RX11) (C := RX11) (T := TX11) (N := 25) hx hb hts hi_X11 hown hK hP 0 rfl rfl 1 (by decide) (hts (.fieldLink RX11 13 "CanalMapsModel" "tried" "[I") (List.mem_of_getElem? (i := 4) (by decide +kernel))) (fun _ h9 => h9) rfl dX11_keeps_82 ?_
  refine lv_iload_n hx hb dX11_keeps_85 rfl (lv_at hl 0 rfl) ?_
  refine va_iald hx hb hK hP 1 0 rfl rfl (vin_ (by decide +kernel)) dX11_keeps_86 ?_
  refine kt_ (v := 0) (by decide +kernel) ?_
  refine ka_iast (g := (fun _ => 0)) hx hb hK hP hD hS 2 1 rfl rfl (vin_ (by decide +kernel)) (up_same (by decide +kernel)) dX11_keeps_87 (fun H locs hP hD hS => ?_)
  have hP : va_P D vwCl [(h0, .inr (14, [v0, .ref h1, v1, .ref h2, .int 0, v2, v3, v4, v5, v6, v7, v8, v9, v10, v11, v12, v13, v14, v15, v16, v17, v18, v19, v20, v21])), (h1, .inl (k1, 8277, .inl (fun _ => 0))), (h2, .inl (k2, 66216, .inl (fun _ => 0)))] H := hP
  have hD : va_D A [(h0, .inr (14, [v0, .ref h1, v1, .ref h2, .int 0, v2, v3, v4, v5, v6, v7, v8, v9, v10, v11, v12, v13, v14, v15, v16, v17, v18, v19, v20, v21])), (h1, .inl (k1, 8277, .inl (fun _ => 0))), (h2, .inl (k2, 66216, .inl (fun _ => 0)))] := hD
  refine lv_iinc (v := 6) (lv' := [(3, .int 6), (2, .int 85), (0, .ref h0), (1, .int 0)]) hx hb dX11_keeps_88 hl (k := 0) rfl (by decide +kernel) (by decide) rfl (fun ls hl => ?_)
  refine lv_goto (tgt := 62) hx hb dX11_keeps_91 (by decide) ?_
  refine lv_iload_n hx hb dX11_keeps_62 rfl (lv_at hl 0 rfl) ?_
  refine lv_iload_n hx hb dX11_keeps_63 rfl (lv_at hl 1 rfl) ?_
  refine lv_icmp_ge (tgt := 94) hx hb dX11_keeps_64 (by decide) (fun c9 => absurd c9 (by decide +kernel)) (fun _ => ?_)
  refine lv_aload_n hx hb dX11_keeps_67 rfl (lv_at hl 2 rfl) ?_
  refine va_get (D := D) (ci := 14) (v := .ref h2) (own := RX11) (C := RX11) (T := TX11) (N := 25) hx hb hts hi_X11 hown hK hP 0 rfl rfl 3 (by decide) (hts (.fieldLink RX11 20 "CanalMapsModel" "kept" "[I") (List.mem_of_getElem? (i := 3) (by decide +kernel))) (fun _ h9 => h9) rfl dX11_keeps_68 ?_
  refine lv_sipush (v := 8277) hx hb dX11_keeps_71 (by decide +kernel) ?_
  refine lv_aload_n hx hb dX11_keeps_74 rfl (lv_at hl 2 rfl) ?_
  refine va_get (D := D) (ci := 14) (v := .int 0) (own := RX11) (C := RX11) (T := TX11) (N := 25) hx hb hts hi_X11 hown hK hP 0 rfl rfl 4 (by decide) (hts (.fieldLink RX11 60 "CanalMapsModel" "undos" "I") (List.mem_of_getElem? (i := 1) (by decide +kernel))) (fun _ h9 => h9) rfl dX11_keeps_75 ?_
  refine lv_imul hx hb dX11_keeps_78 ?_
  refine kt_ (v := 0) (by decide +kernel) ?_
  refine lv_iload_n hx hb dX11_keeps_79 rfl (lv_at hl 0 rfl) ?_
  refine lv_iadd hx hb dX11_keeps_80 ?_
  refine kt_ (v := 6) (by decide +kernel) ?_
  refine lv_aload_n hx hb dX11_keeps_81 rfl (lv_at hl 2 rfl) ?_
  refine va_get (D := D) (ci := 14) (v := .ref h1) (own := RX11) (C := RX11) (T := TX11) (N := 25) hx hb hts hi_X11 hown hK hP 0 rfl rfl 1 (by decide) (hts (.fieldLink RX11 13 "CanalMapsModel" "tried" "[I") (List.mem_of_getElem? (i := 4) (by decide +kernel))) (fun _ h9 => h9) rfl dX11_keeps_82 ?_
  refine lv_iload_n hx hb dX11_keeps_85 rfl (lv_at hl 0 rfl) ?_
  refine va_iald hx hb hK hP 1 0 rfl rfl (vin_ (by decide +kernel)) dX11_keeps_86 ?_
  refine kt_ (v := 0) (by decide +kernel) ?_
  refine ka_iast (g := (fun _ => 0)) hx hb hK hP hD hS 2 1 rfl rfl (vin_ (by decide +kernel)) (up_same (by decide +kernel)) dX11_keeps_87 (fun H locs hP hD hS => ?_)
  have hP : va_P D vwCl [(h0, .inr (14, [v0, .ref h1, v1, .ref h2, .int 0, v2, v3, v4, v5, v6, v7, v8, v9, v10, v11, v12, v13, v14, v15, v16, v17, v18, v19, v20, v21])), (h1, .inl (k1, 8277, .inl (fun _ => 0))), (h2, .inl (k2, 66216, .inl (fun _ => 0)))] H := hP
  have hD : va_D A [(h0, .inr (14, [v0, .ref h1, v1, .ref h2, .int 0, v2, v3, v4, v5, v6, v7, v8, v9, v10, v11, v12, v13, v14, v15, v16, v17, v18, v19, v20, v21])), (h1, .inl (k1, 8277, .inl (fun _ => 0))), (h2, .inl (k2, 66216, .inl (fun _ => 0)))] := hD
  refine lv_iinc (v := 7) (lv' := [(3, .int 7), (2, .int 85), (0, .ref h0), (1, .int 0)]) hx hb dX11_keeps_88 hl (k := 0) rfl (by decide +kernel) (by decide) rfl (fun ls hl => ?_)
  refine lv_goto (tgt := 62) hx hb dX11_keeps_91 (by decide) ?_
  refine lv_iload_n hx hb dX11_keeps_62 rfl (lv_at hl 0 rfl) ?_
  refine lv_iload_n hx hb dX11_keeps_63 rfl (lv_at hl 1 rfl) ?_
  refine lv_icmp_ge (tgt := 94) hx hb dX11_keeps_64 (by decide) (fun c9 => absurd c9 (by decide +kernel)) (fun _ => ?_)
  refine lv_aload_n hx hb dX11_keeps_67 rfl (lv_at hl 2 rfl) ?_
  refine va_get (D := D) (ci := 14) (v := .ref h2) (own := RX11) (C := RX11) (T := TX11) (N := 25) hx hb hts hi_X11 hown hK hP 0 rfl rfl 3 (by decide) (hts (.fieldLink RX11 20 "CanalMapsModel" "kept" "[I") (List.mem_of_getElem? (i := 3) (by decide +kernel))) (fun _ h9 => h9) rfl dX11_keeps_68 ?_
  refine lv_sipush (v := 8277) hx hb dX11_keeps_71 (by decide +kernel) ?_
  refine lv_aload_n hx hb dX11_keeps_74 rfl (lv_at hl 2 rfl) ?_
  refine va_get (D := D) (ci := 14) (v := .int 0) (own := RX11) (C := RX11) (T := TX11) (N := 25) hx hb hts hi_X11 hown hK hP 0 rfl rfl 4 (by decide) (hts (.fieldLink RX11 60 "CanalMapsModel" "undos" "I") (List.mem_of_getElem? (i := 1) (by decide +kernel))) (fun _ h9 => h9) rfl dX11_keeps_75 ?_
  refine lv_imul hx hb dX11_keeps_78 ?_
  refine kt_ (v := 0) (by decide +kernel) ?_
  refine lv_iload_n hx hb dX11_keeps_79 rfl (lv_at hl 0 rfl) ?_
  refine lv_iadd hx hb dX11_keeps_80 ?_
  refine kt_ (v := 7) (by decide +kernel) ?_
  refine lv_aload_n hx hb dX11_keeps_81 rfl (lv_at hl 2 rfl) ?_
  refine va_get (D := D) (ci := 14) (v := .ref h1) (own := RX11) (C := RX11) (T := TX11) (N := 25) hx hb hts hi_X11 hown hK hP 0 rfl rfl 1 (by decide) (hts (.fieldLink RX11 13 "CanalMapsModel" "tried" "[I") (List.mem_of_getElem? (i := 4) (by decide +kernel))) (fun _ h9 => h9) rfl dX11_keeps_82 ?_
  refine lv_iload_n hx hb dX11_keeps_85 rfl (lv_at hl 0 rfl) ?_
  refine va_iald hx hb hK hP 1 0 rfl rfl (vin_ (by decide +kernel)) dX11_keeps_86 ?_
  refine kt_ (v := 0) (by decide +kernel) ?_
  refine ka_iast (g := (fun _ => 0)) hx hb hK hP hD hS 2 1 rfl rfl (vin_ (by decide +kernel)) (up_same (by decide +kernel)) dX11_keeps_87 (fun H locs hP hD hS => ?_)
  have hP : va_P D vwCl [(h0, .inr (14, [v0, .ref h1, v1, .ref h2, .int 0, v2, v3, v4, v5, v6, v7, v8, v9, v10, v11, v12, v13, v14, v15, v16, v17, v18, v19, v20, v21])), (h1, .inl (k1, 8277, .inl (fun _ => 0))), (h2, .inl (k2, 66216, .inl (fun _ => 0)))] H := hP
  have hD : va_D A [(h0, .inr (14, [v0, .ref h1, v1, .ref h2, .int 0, v2, v3, v4, v5, v6, v7, v8, v9, v10, v11, v12, v13, v14, v15, v16, v17, v18, v19, v20, v21])), (h1, .inl (k1, 8277, .inl (fun _ => 0))), (h2, .inl (k2, 66216, .inl (fun _ => 0)))] := hD
  refine lv_iinc (v := 8) (lv' := [(3, .int 8), (2, .int 85), (0, .ref h0), (1, .int 0)]) hx hb dX11_keeps_88 hl (k := 0) rfl (by decide +kernel) (by decide) rfl (fun ls hl => ?_)
  refine lv_goto (tgt := 62) hx hb dX11_keeps_91 (by decide) ?_
  refine lv_iload_n hx hb dX11_keeps_62 rfl (lv_at hl 0 rfl) ?_
  refine lv_iload_n hx hb dX11_keeps_63 rfl (lv_at hl 1 rfl) ?_
  refine lv_icmp_ge (tgt := 94) hx hb dX11_keeps_64 (by decide) (fun c9 => absurd c9 (by decide +kernel)) (fun _ => ?_)
  refine lv_aload_n hx hb dX11_keeps_67 rfl (lv_at hl 2 rfl) ?_
  refine va_get (D := D) (ci := 14) (v := .ref h2) (own := RX11) (C := RX11) (T := TX11) (N := 25) hx hb hts hi_X11 hown hK hP 0 rfl rfl 3 (by decide) (hts (.fieldLink RX11 20 "CanalMapsModel" "kept" "[I") (List.mem_of_getElem? (i := 3) (by decide +kernel))) (fun _ h9 => h9) rfl dX11_keeps_68 ?_
  refine lv_sipush (v := 8277) hx hb dX11_keeps_71 (by decide +kernel) ?_
  refine lv_aload_n hx hb dX11_keeps_74 rfl (lv_at hl 2 rfl) ?_
  refine va_get (D := D) (ci := 14) (v := .int 0) (own := RX11) (C := RX11) (T := TX11) (N := 25) hx hb hts hi_X11 hown hK hP 0 rfl rfl 4 (by decide) (hts (.fieldLink RX11 60 "CanalMapsModel" "undos" "I") (List.mem_of_getElem? (i := 1) (by decide +kernel))) (fun _ h9 => h9) rfl dX11_keeps_75 ?_
  refine lv_imul hx hb dX11_keeps_78 ?_
  refine kt_ (v := 0) (by decide +kernel) ?_
  refine lv_iload_n hx hb dX11_keeps_79 rfl (lv_at hl 0 rfl) ?_
  refine lv_iadd hx hb dX11_keeps_80 ?_
  refine kt_ (v := 8) (by decide +kernel) ?_
  refine lv_aload_n hx hb dX11_keeps_81 rfl (lv_at hl 2 rfl) ?_
  refine va_get (D := D) (ci := 14) (v := .ref h1) (own := RX11) (C := RX11) (T := TX11) (N := 25) hx hb hts hi_X11 hown hK hP 0 rfl rfl 1 (by decide) (hts (.fieldLink RX11 13 "CanalMapsModel" "tried" "[I") (List.mem_of_getElem? (i := 4) (by decide +kernel))) (fun _ h9 => h9) rfl dX11_keeps_82 ?_
  refine lv_iload_n hx hb dX11_keeps_85 rfl (lv_at hl 0 rfl) ?_
  refine va_iald hx hb hK hP 1 0 rfl rfl (vin_ (by decide +kernel)) dX11_keeps_86 ?_
  refine kt_ (v := 0) (by decide +kernel) ?_
  refine ka_iast (g := (fun _ => 0)) hx hb hK hP hD hS 2 1 rfl rfl (vin_ (by decide +kernel)) (up_same (by decide +kernel)) dX11_keeps_87 (fun H locs hP hD hS => ?_)
  have hP : va_P D vwCl [(h0, .inr (14, [v0, .ref h1, v1, .ref h2, .int 0, v2, v3, v4, v5, v6, v7, v8, v9, v10, v11, v12, v13, v14, v15, v16, v17, v18, v19, v20, v21])), (h1, .inl (k1, 8277, .inl (fun _ => 0))), (h2, .inl (k2, 66216, .inl (fun _ => 0)))] H := hP
  have hD : va_D A [(h0, .inr (14, [v0, .ref h1, v1, .ref h2, .int 0, v2, v3, v4, v5, v6, v7, v8, v9, v10, v11, v12, v13, v14, v15, v16, v17, v18, v19, v20, v21])), (h1, .inl (k1, 8277, .inl (fun _ => 0))), (h2, .inl (k2, 66216, .inl (fun _ => 0)))] := hD
  refine lv_iinc (v := 9) (lv' := [(3, .int 9), (2, .int 85), (0, .ref h0), (1, .int 0)]) hx hb dX11_keeps_88 hl (k := 0) rfl (by decide +kernel) (by decide) rfl (fun ls hl => ?_)
  refine lv_goto (tgt := 62) hx hb dX11_keeps_91 (by decide) ?_
  refine lv_iload_n hx hb dX11_keeps_62 rfl (lv_at hl 0 rfl) ?_
  refine lv_iload_n hx hb dX11_keeps_63 rfl (lv_at hl 1 rfl) ?_
  refine lv_icmp_ge (tgt := 94) hx hb dX11_keeps_64 (by decide) (fun c9 => absurd c9 (by decide +kernel)) (fun _ => ?_)
  refine lv_aload_n hx hb dX11_keeps_67 rfl (lv_at hl 2 rfl) ?_
  refine va_get (D := D) (ci := 14) (v := .ref h2) (own := RX11) (C := RX11) (T := TX11) (N := 25) hx hb hts hi_X11 hown hK hP 0 rfl rfl 3 (by decide) (hts (.fieldLink RX11 20 "CanalMapsModel" "kept" "[I") (List.mem_of_getElem? (i := 3) (by decide +kernel))) (fun _ h9 => h9) rfl dX11_keeps_68 ?_
  refine lv_sipush (v := 8277) hx hb dX11_keeps_71 (by decide +kernel) ?_
  refine lv_aload_n hx hb dX11_keeps_74 rfl (lv_at hl 2 rfl) ?_
  refine va_get (D := D) (ci := 14) (v := .int 0) (own := RX11) (C := RX11) (T := TX11) (N := 25) hx hb hts hi_X11 hown hK hP 0 rfl rfl 4 (by decide) (hts (.fieldLink RX11 60 "CanalMapsModel" "undos" "I") (List.mem_of_getElem? (i := 1) (by decide +kernel))) (fun _ h9 => h9) rfl dX11_keeps_75 ?_
  refine lv_imul hx hb dX11_keeps_78 ?_
  refine kt_ (v := 0) (by decide +kernel) ?_
  refine lv_iload_n hx hb dX11_keeps_79 rfl (lv_at hl 0 rfl) ?_
  refine lv_iadd hx hb dX11_keeps_80 ?_
  refine kt_ (v := 9) (by decide +kernel) ?_
  refine lv_aload_n hx hb dX11_keeps_81 rfl (lv_at hl 2 rfl) ?_
  refine va_get (D := D) (ci := 14) (v := .ref h1) (own := RX11) (C := RX11) (T := TX11) (N := 25) hx hb hts hi_X11 hown hK hP 0 rfl rfl 1 (by decide) (hts (.fieldLink RX11 13 "CanalMapsModel" "tried" "[I") (List.mem_of_getElem? (i := 4) (by decide +kernel))) (fun _ h9 => h9) rfl dX11_keeps_82 ?_
  refine lv_iload_n hx hb dX11_keeps_85 rfl (lv_at hl 0 rfl) ?_
  refine va_iald hx hb hK hP 1 0 rfl rfl (vin_ (by decide +kernel)) dX11_keeps_86 ?_
  refine kt_ (v := 0) (by decide +kernel) ?_
  refine ka_iast (g := (fun _ => 0)) hx hb hK hP hD hS 2 1 rfl rfl (vin_ (by decide +kernel)) (up_same (by decide +kernel)) dX11_keeps_87 (fun H locs hP hD hS => ?_)
  have hP : va_P D vwCl [(h0, .inr (14, [v0, .ref h1, v1, .ref h2, .int 0, v2, v3, v4, v5, v6, v7, v8, v9, v10, v11, v12, v13, v14, v15, v16, v17, v18, v19, v20, v21])), (h1, .inl (k1, 8277, .inl (fun _ => 0))), (h2, .inl (k2, 66216, .inl (fun _ => 0)))] H := hP
  have hD : va_D A [(h0, .inr (14, [v0, .ref h1, v1, .ref h2, .int 0, v2, v3, v4, v5, v6, v7, v8, v9, v10, v11, v12, v13, v14, v15, v16, v17, v18, v19, v20, v21])), (h1, .inl (k1, 8277, .inl (fun _ => 0))), (h2, .inl (k2, 66216, .inl (fun _ => 0)))] := hD
  refine lv_iinc (v := 10) (lv' := [(3, .int 10), (2, .int 85), (0, .ref h0), (1, .int 0)]) hx hb dX11_keeps_88 hl (k := 0) rfl (by decide +kernel) (by decide) rfl (fun ls hl => ?_)
  refine lv_goto (tgt := 62) hx hb dX11_keeps_91 (by decide) ?_
  refine lv_iload_n hx hb dX11_keeps_62 rfl (lv_at hl 0 rfl) ?_
  refine lv_iload_n hx hb dX11_keeps_63 rfl (lv_at hl 1 rfl) ?_
  refine lv_icmp_ge (tgt := 94) hx hb dX11_keeps_64 (by decide) (fun c9 => absurd c9 (by decide +kernel)) (fun _ => ?_)
  refine lv_aload_n hx hb dX11_keeps_67 rfl (lv_at hl 2 rfl) ?_
  refine va_get (D := D) (ci := 14) (v := .ref h2) (own := RX11) (C := RX11) (T := TX11) (N := 25) hx hb hts hi_X11 hown hK hP 0 rfl rfl 3 (by decide) (hts (.fieldLink RX11 20 "CanalMapsModel" "kept" "[I") (List.mem_of_getElem? (i := 3) (by decide +kernel))) (fun _ h9 => h9) rfl dX11_keeps_68 ?_
  refine lv_sipush (v := 8277) hx hb dX11_keeps_71 (by decide +kernel) ?_
  refine lv_aload_n hx hb dX11_keeps_74 rfl (lv_at hl 2 rfl) ?_
  refine va_get (D := D) (ci := 14) (v := .int 0) (own := RX11) (C := RX11) (T := TX11) (N := 25) hx hb hts hi_X11 hown hK hP 0 rfl rfl 4 (by decide) (hts (.fieldLink RX11 60 "CanalMapsModel" "undos" "I") (List.mem_of_getElem? (i := 1) (by decide +kernel))) (fun _ h9 => h9) rfl dX11_keeps_75 ?_
  refine lv_imul hx hb dX11_keeps_78 ?_
  refine kt_ (v := 0) (by decide +kernel) ?_
  refine lv_iload_n hx hb dX11_keeps_79 rfl (lv_at hl 0 rfl) ?_
  refine lv_iadd hx hb dX11_keeps_80 ?_
  refine kt_ (v := 10) (by decide +kernel) ?_
  refine lv_aload_n hx hb dX11_keeps_81 rfl (lv_at hl 2 rfl) ?_
  refine va_get (D := D) (ci := 14) (v := .ref h1) (own := RX11) (C := RX11) (T := TX11) (N := 25) hx hb hts hi_X11 hown hK hP 0 rfl rfl 1 (by decide) (hts (.fieldLink RX11 13 "CanalMapsModel" "tried" "[I") (List.mem_of_getElem? (i := 4) (by decide +kernel))) (fun _ h9 => h9) rfl dX11_keeps_82 ?_
  refine lv_iload_n hx hb dX11_keeps_85 rfl (lv_at hl 0 rfl) ?_
  refine va_iald hx hb hK hP 1 0 rfl rfl (vin_ (by decide +kernel)) dX11_keeps_86 ?_
  refine kt_ (v := 0) (by decide +kernel) ?_
  refine ka_iast (g := (fun _ => 0)) hx hb hK hP hD hS 2 1 rfl rfl (vin_ (by decide +kernel)) (up_same (by decide +kernel)) dX11_keeps_87 (fun H locs hP hD hS => ?_)
  have hP : va_P D vwCl [(h0, .inr (14, [v0, .ref h1, v1, .ref h2, .int 0, v2, v3, v4, v5, v6, v7, v8, v9, v10, v11, v12, v13, v14, v15, v16, v17, v18, v19, v20, v21])), (h1, .inl (k1, 8277, .inl (fun _ => 0))), (h2, .inl (k2, 66216, .inl (fun _ => 0)))] H := hP
  have hD : va_D A [(h0, .inr (14, [v0, .ref h1, v1, .ref h2, .int 0, v2, v3, v4, v5, v6, v7, v8, v9, v10, v11, v12, v13, v14, v15, v16, v17, v18, v19, v20, v21])), (h1, .inl (k1, 8277, .inl (fun _ => 0))), (h2, .inl (k2, 66216, .inl (fun _ => 0)))] := hD
  refine lv_iinc (v := 11) (lv' := [(3, .int 11), (2, .int 85), (0, .ref h0), (1, .int 0)]) hx hb dX11_keeps_88 hl (k := 0) rfl (by decide +kernel) (by decide) rfl (fun ls hl => ?_)
  refine lv_goto (tgt := 62) hx hb dX11_keeps_91 (by decide) ?_
  refine lv_iload_n hx hb dX11_keeps_62 rfl (lv_at hl 0 rfl) ?_
  refine lv_iload_n hx hb dX11_keeps_63 rfl (lv_at hl 1 rfl) ?_
  refine lv_icmp_ge (tgt := 94) hx hb dX11_keeps_64 (by decide) (fun c9 => absurd c9 (by decide +kernel)) (fun _ => ?_)
  refine lv_aload_n hx hb dX11_keeps_67 rfl (lv_at hl 2 rfl) ?_
  refine va_get (D := D) (ci := 14) (v := .ref h2) (own := RX11) (C := RX11) (T := TX11) (N := 25) hx hb hts hi_X11 hown hK hP 0 rfl rfl 3 (by decide) (hts (.fieldLink RX11 20 "CanalMapsModel" "kept" "[I") (List.mem_of_getElem? (i := 3) (by decide +kernel))) (fun _ h9 => h9) rfl dX11_keeps_68 ?_
  refine lv_sipush (v := 8277) hx hb dX11_keeps_71 (by decide +kernel) ?_
  refine lv_aload_n hx hb dX11_keeps_74 rfl (lv_at hl 2 rfl) ?_
  refine va_get (D := D) (ci := 14) (v := .int 0) (own := RX11) (C := RX11) (T := TX11) (N := 25) hx hb hts hi_X11 hown hK hP 0 rfl rfl 4 (by decide) (hts (.fieldLink RX11 60 "CanalMapsModel" "undos" "I") (List.mem_of_getElem? (i := 1) (by decide +kernel))) (fun _ h9 => h9) rfl dX11_keeps_75 ?_
  refine lv_imul hx hb dX11_keeps_78 ?_
  refine kt_ (v := 0) (by decide +kernel) ?_
  refine lv_iload_n hx hb dX11_keeps_79 rfl (lv_at hl 0 rfl) ?_
  refine lv_iadd hx hb dX11_keeps_80 ?_
  refine kt_ (v := 11) (by decide +kernel) ?_
  refine lv_aload_n hx hb dX11_keeps_81 rfl (lv_at hl 2 rfl) ?_
  refine va_get (D := D) (ci := 14) (v := .ref h1) (own := RX11) (C := RX11) (T := TX11) (N := 25) hx hb hts hi_X11 hown hK hP 0 rfl rfl 1 (by decide) (hts (.fieldLink RX11 13 "CanalMapsModel" "tried" "[I") (List.mem_of_getElem? (i := 4) (by decide +kernel))) (fun _ h9 => h9) rfl dX11_keeps_82 ?_
  refine lv_iload_n hx hb dX11_keeps_85 rfl (lv_at hl 0 rfl) ?_
  refine va_iald hx hb hK hP 1 0 rfl rfl (vin_ (by decide +kernel)) dX11_keeps_86 ?_
  refine kt_ (v := 0) (by decide +kernel) ?_
  refine ka_iast (g := (fun _ => 0)) hx hb hK hP hD hS 2 1 rfl rfl (vin_ (by decide +kernel)) (up_same (by decide +kernel)) dX11_keeps_87 (fun H locs hP hD hS => ?_)
  have hP : va_P D vwCl [(h0, .inr (14, [v0, .ref h1, v1, .ref h2, .int 0, v2, v3, v4, v5, v6, v7, v8, v9, v10, v11, v12, v13, v14, v15, v16, v17, v18, v19, v20, v21])), (h1, .inl (k1, 8277, .inl (fun _ => 0))), (h2, .inl (k2, 66216, .inl (fun _ => 0)))] H := hP
  have hD : va_D A [(h0, .inr (14, [v0, .ref h1, v1, .ref h2, .int 0, v2, v3, v4, v5, v6, v7, v8, v9, v10, v11, v12, v13, v14, v15, v16, v17, v18, v19, v20, v21])), (h1, .inl (k1, 8277, .inl (fun _ => 0))), (h2, .inl (k2, 66216, .inl (fun _ => 0)))] := hD
  refine lv_iinc (v := 12) (lv' := [(3, .int 12), (2, .int 85), (0, .ref h0), (1, .int 0)]) hx hb dX11_keeps_88 hl (k := 0) rfl (by decide +kernel) (by decide) rfl (fun ls hl => ?_)
  refine lv_goto (tgt := 62) hx hb dX11_keeps_91 (by decide) ?_
  refine lv_iload_n hx hb dX11_keeps_62 rfl (lv_at hl 0 rfl) ?_
  refine lv_iload_n hx hb dX11_keeps_63 rfl (lv_at hl 1 rfl) ?_
  refine lv_icmp_ge (tgt := 94) hx hb dX11_keeps_64 (by decide) (fun c9 => absurd c9 (by decide +kernel)) (fun _ => ?_)
  refine lv_aload_n hx hb dX11_keeps_67 rfl (lv_at hl 2 rfl) ?_
  refine va_get (D := D) (ci := 14) (v := .ref h2) (own := RX11) (C := RX11) (T := TX11) (N := 25) hx hb hts hi_X11 hown hK hP 0 rfl rfl 3 (by decide) (hts (.fieldLink RX11 20 "CanalMapsModel" "kept" "[I") (List.mem_of_getElem? (i := 3) (by decide +kernel))) (fun _ h9 => h9) rfl dX11_keeps_68 ?_
  refine lv_sipush (v := 8277) hx hb dX11_keeps_71 (by decide +kernel) ?_
  refine lv_aload_n hx hb dX11_keeps_74 rfl (lv_at hl 2 rfl) ?_
  refine va_get (D := D) (ci := 14) (v := .int 0) (own := RX11) (C := RX11) (T := TX11) (N := 25) hx hb hts hi_X11 hown hK hP 0 rfl rfl 4 (by decide) (hts (.fieldLink RX11 60 "CanalMapsModel" "undos" "I") (List.mem_of_getElem? (i := 1) (by decide +kernel))) (fun _ h9 => h9) rfl dX11_keeps_75 ?_
  refine lv_imul hx hb dX11_keeps_78 ?_
  refine kt_ (v := 0) (by decide +kernel) ?_
  refine lv_iload_n hx hb dX11_keeps_79 rfl (lv_at hl 0 rfl) ?_
  refine lv_iadd hx hb dX11_keeps_80 ?_
  refine kt_ (v := 12) (by decide +kernel) ?_
  refine lv_aload_n hx hb dX11_keeps_81 rfl (lv_at hl 2 rfl) ?_
  refine va_get (D := D) (ci := 14) (v := .ref h1) (own := RX11) (C := RX11) (T := TX11) (N := 25) hx hb hts hi_X11 hown hK hP 0 rfl rfl 1 (by decide) (hts (.fieldLink RX11 13 "CanalMapsModel" "tried" "[I") (List.mem_of_getElem? (i := 4) (by decide +kernel))) (fun _ h9 => h9) rfl dX11_keeps_82 ?_
  refine lv_iload_n hx hb dX11_keeps_85 rfl (lv_at hl 0 rfl) ?_
  refine va_iald hx hb hK hP 1 0 rfl rfl (vin_ (by decide +kernel)) dX11_keeps_86 ?_
  refine kt_ (v := 0) (by decide +kernel) ?_
  refine ka_iast (g := (fun _ => 0)) hx hb hK hP hD hS 2 1 rfl rfl (vin_ (by decide +kernel)) (up_same (by decide +kernel)) dX11_keeps_87 (fun H locs hP hD hS => ?_)
  have hP : va_P D vwCl [(h0, .inr (14, [v0, .ref h1, v1, .ref h2, .int 0, v2, v3, v4, v5, v6, v7, v8, v9, v10, v11, v12, v13, v14, v15, v16, v17, v18, v19, v20, v21])), (h1, .inl (k1, 8277, .inl (fun _ => 0))), (h2, .inl (k2, 66216, .inl (fun _ => 0)))] H := hP
  have hD : va_D A [(h0, .inr (14, [v0, .ref h1, v1, .ref h2, .int 0, v2, v3, v4, v5, v6, v7, v8, v9, v10, v11, v12, v13, v14, v15, v16, v17, v18, v19, v20, v21])), (h1, .inl (k1, 8277, .inl (fun _ => 0))), (h2, .inl (k2, 66216, .inl (fun _ => 0)))] := hD
  refine lv_iinc (v := 13) (lv' := [(3, .int 13), (2, .int 85), (0, .ref h0), (1, .int 0)]) hx hb dX11_keeps_88 hl (k := 0) rfl (by decide +kernel) (by decide) rfl (fun ls hl => ?_)
  refine lv_goto (tgt := 62) hx hb dX11_keeps_91 (by decide) ?_
  refine lv_iload_n hx hb dX11_keeps_62 rfl (lv_at hl 0 rfl) ?_
  refine lv_iload_n hx hb dX11_keeps_63 rfl (lv_at hl 1 rfl) ?_
  refine lv_icmp_ge (tgt := 94) hx hb dX11_keeps_64 (by decide) (fun c9 => absurd c9 (by decide +kernel)) (fun _ => ?_)
  refine lv_aload_n hx hb dX11_keeps_67 rfl (lv_at hl 2 rfl) ?_
  refine va_get (D := D) (ci := 14) (v := .ref h2) (own := RX11) (C := RX11) (T := TX11) (N := 25) hx hb hts hi_X11 hown hK hP 0 rfl rfl 3 (by decide) (hts (.fieldLink RX11 20 "CanalMapsModel" "kept" "[I") (List.mem_of_getElem? (i := 3) (by decide +kernel))) (fun _ h9 => h9) rfl dX11_keeps_68 ?_
  refine lv_sipush (v := 8277) hx hb dX11_keeps_71 (by decide +kernel) ?_
  refine lv_aload_n hx hb dX11_keeps_74 rfl (lv_at hl 2 rfl) ?_
  refine va_get (D := D) (ci := 14) (v := .int 0) (own := RX11) (C := RX11) (T := TX11) (N := 25) hx hb hts hi_X11 hown hK hP 0 rfl rfl 4 (by decide) (hts (.fieldLink RX11 60 "CanalMapsModel" "undos" "I") (List.mem_of_getElem? (i := 1) (by decide +kernel))) (fun _ h9 => h9) rfl dX11_keeps_75 ?_
  refine lv_imul hx hb dX11_keeps_78 ?_
  refine kt_ (v := 0) (by decide +kernel) ?_
  refine lv_iload_n hx hb dX11_keeps_79 rfl (lv_at hl 0 rfl) ?_
  refine lv_iadd hx hb dX11_keeps_80 ?_
  refine kt_ (v := 13) (by decide +kernel) ?_
  refine lv_aload_n hx hb dX11_keeps_81 rfl (lv_at hl 2 rfl) ?_
  refine va_get (D := D) (ci := 14) (v := .ref h1) (own := RX11) (C := RX11) (T := TX11) (N := 25) hx hb hts hi_X11 hown hK hP 0 rfl rfl 1 (by decide) (hts (.fieldLink RX11 13 "CanalMapsModel" "tried" "[I") (List.mem_of_getElem? (i := 4) (by decide +kernel))) (fun _ h9 => h9) rfl dX11_keeps_82 ?_
  refine lv_iload_n hx hb dX11_keeps_85 rfl (lv_at hl 0 rfl) ?_
  refine va_iald hx hb hK hP 1 0 rfl rfl (vin_ (by decide +kernel)) dX11_keeps_86 ?_
  refine kt_ (v := 0) (by decide +kernel) ?_
  refine ka_iast (g := (fun _ => 0)) hx hb hK hP hD hS 2 1 rfl rfl (vin_ (by decide +kernel)) (up_same (by decide +kernel)) dX11_keeps_87 (fun H locs hP hD hS => ?_)
  have hP : va_P D vwCl [(h0, .inr (14, [v0, .ref h1, v1, .ref h2, .int 0, v2, v3, v4, v5, v6, v7, v8, v9, v10, v11, v12, v13, v14, v15, v16, v17, v18, v19, v20, v21])), (h1, .inl (k1, 8277, .inl (fun _ => 0))), (h2, .inl (k2, 66216, .inl (fun _ => 0)))] H := hP
  have hD : va_D A [(h0, .inr (14, [v0, .ref h1, v1, .ref h2, .int 0, v2, v3, v4, v5, v6, v7, v8, v9, v10, v11, v12, v13, v14, v15, v16, v17, v18, v19, v20, v21])), (h1, .inl (k1, 8277, .inl (fun _ => 0))), (h2, .inl (k2, 66216, .inl (fun _ => 0)))] := hD
  refine lv_iinc (v := 14) (lv' := [(3, .int 14), (2, .int 85), (0, .ref h0), (1, .int 0)]) hx hb dX11_keeps_88 hl (k := 0) rfl (by decide +kernel) (by decide) rfl (fun ls hl => ?_)
  refine lv_goto (tgt := 62) hx hb dX11_keeps_91 (by decide) ?_
  refine lv_iload_n hx hb dX11_keeps_62 rfl (lv_at hl 0 rfl) ?_
  refine lv_iload_n hx hb dX11_keeps_63 rfl (lv_at hl 1 rfl) ?_
  refine lv_icmp_ge (tgt := 94) hx hb dX11_keeps_64 (by decide) (fun c9 => absurd c9 (by decide +kernel)) (fun _ => ?_)
  refine lv_aload_n hx hb dX11_keeps_67 rfl (lv_at hl 2 rfl) ?_
  refine va_get (D := D) (ci := 14) (v := .ref h2) (own := RX11) (C := RX11) (T := TX11) (N := 25) hx hb hts hi_X11 hown hK hP 0 rfl rfl 3 (by decide) (hts (.fieldLink RX11 20 "CanalMapsModel" "kept" "[I") (List.mem_of_getElem? (i := 3) (by decide +kernel))) (fun _ h9 => h9) rfl dX11_keeps_68 ?_
  refine lv_sipush (v := 8277) hx hb dX11_keeps_71 (by decide +kernel) ?_
  refine lv_aload_n hx hb dX11_keeps_74 rfl (lv_at hl 2 rfl) ?_
  refine va_get (D := D) (ci := 14) (v := .int 0) (own := RX11) (C := RX11) (T := TX11) (N := 25) hx hb hts hi_X11 hown hK hP 0 rfl rfl 4 (by decide) (hts (.fieldLink RX11 60 "CanalMapsModel" "undos" "I") (List.mem_of_getElem? (i := 1) (by decide +kernel))) (fun _ h9 => h9) rfl dX11_keeps_75 ?_
  refine lv_imul hx hb dX11_keeps_78 ?_
  refine kt_ (v := 0) (by decide +kernel) ?_
  refine lv_iload_n hx hb dX11_keeps_79 rfl (lv_at hl 0 rfl) ?_
  refine lv_iadd hx hb dX11_keeps_80 ?_
  refine kt_ (v := 14) (by decide +kernel) ?_
  refine lv_aload_n hx hb dX11_keeps_81 rfl (lv_at hl 2 rfl) ?_
  refine va_get (D := D) (ci := 14) (v := .ref h1) (own := RX11) (C := RX11) (T := TX11) (N := 25) hx hb hts hi_X11 hown hK hP 0 rfl rfl 1 (by decide) (hts (.fieldLink RX11 13 "CanalMapsModel" "tried" "[I") (List.mem_of_getElem? (i := 4) (by decide +kernel))) (fun _ h9 => h9) rfl dX11_keeps_82 ?_
  refine lv_iload_n hx hb dX11_keeps_85 rfl (lv_at hl 0 rfl) ?_
  refine va_iald hx hb hK hP 1 0 rfl rfl (vin_ (by decide +kernel)) dX11_keeps_86 ?_
  refine kt_ (v := 0) (by decide +kernel) ?_
  refine ka_iast (g := (fun _ => 0)) hx hb hK hP hD hS 2 1 rfl rfl (vin_ (by decide +kernel)) (up_same (by decide +kernel)) dX11_keeps_87 (fun H locs hP hD hS => ?_)
  have hP : va_P D vwCl [(h0, .inr (14, [v0, .ref h1, v1, .ref h2, .int 0, v2, v3, v4, v5, v6, v7, v8, v9, v10, v11, v12, v13, v14, v15, v16, v17, v18, v19, v20, v21])), (h1, .inl (k1, 8277, .inl (fun _ => 0))), (h2, .inl (k2, 66216, .inl (fun _ => 0)))] H := hP
  have hD : va_D A [(h0, .inr (14, [v0, .ref h1, v1, .ref h2, .int 0, v2, v3, v4, v5, v6, v7, v8, v9, v10, v11, v12, v13, v14, v15, v16, v17, v18, v19, v20, v21])), (h1, .inl (k1, 8277, .inl (fun _ => 0))), (h2, .inl (k2, 66216, .inl (fun _ => 0)))] := hD
  refine lv_iinc (v := 15) (lv' := [(3, .int 15), (2, .int 85), (0, .ref h0), (1, .int 0)]) hx hb dX11_keeps_88 hl (k := 0) rfl (by decide +kernel) (by decide) rfl (fun ls hl => ?_)
  refine lv_goto (tgt := 62) hx hb dX11_keeps_91 (by decide) ?_
  refine lv_iload_n hx hb dX11_keeps_62 rfl (lv_at hl 0 rfl) ?_
  refine lv_iload_n hx hb dX11_keeps_63 rfl (lv_at hl 1 rfl) ?_
  refine lv_icmp_ge (tgt := 94) hx hb dX11_keeps_64 (by decide) (fun c9 => absurd c9 (by decide +kernel)) (fun _ => ?_)
  refine lv_aload_n hx hb dX11_keeps_67 rfl (lv_at hl 2 rfl) ?_
  refine va_get (D := D) (ci := 14) (v := .ref h2) (own := RX11) (C := RX11) (T := TX11) (N := 25) hx hb hts hi_X11 hown hK hP 0 rfl rfl 3 (by decide) (hts (.fieldLink RX11 20 "CanalMapsModel" "kept" "[I") (List.mem_of_getElem? (i := 3) (by decide +kernel))) (fun _ h9 => h9) rfl dX11_keeps_68 ?_
  refine lv_sipush (v := 8277) hx hb dX11_keeps_71 (by decide +kernel) ?_
  refine lv_aload_n hx hb dX11_keeps_74 rfl (lv_at hl 2 rfl) ?_
  refine va_get (D := D) (ci := 14) (v := .int 0) (own := RX11) (C := RX11) (T := TX11) (N := 25) hx hb hts hi_X11 hown hK hP 0 rfl rfl 4 (by decide) (hts (.fieldLink RX11 60 "CanalMapsModel" "undos" "I") (List.mem_of_getElem? (i := 1) (by decide +kernel))) (fun _ h9 => h9) rfl dX11_keeps_75 ?_
  refine lv_imul hx hb dX11_keeps_78 ?_
  refine kt_ (v := 0) (by decide +kernel) ?_
  refine lv_iload_n hx hb dX11_keeps_79 rfl (lv_at hl 0 rfl) ?_
  refine lv_iadd hx hb dX11_keeps_80 ?_
  refine kt_ (v := 15) (by decide +kernel) ?_
  refine lv_aload_n hx hb dX11_keeps_81 rfl (lv_at hl 2 rfl) ?_
  refine va_get (D := D) (ci := 14) (v := .ref h1) (own := RX11) (C := RX11) (T := TX11) (N := 25) hx hb hts hi_X11 hown hK hP 0 rfl rfl 1 (by decide) (hts (.fieldLink RX11 13 "CanalMapsModel" "tried" "[I") (List.mem_of_getElem? (i := 4) (by decide +kernel))) (fun _ h9 => h9) rfl dX11_keeps_82 ?_
  refine lv_iload_n hx hb dX11_keeps_85 rfl (lv_at hl 0 rfl) ?_
  refine va_iald hx hb hK hP 1 0 rfl rfl (vin_ (by decide +kernel)) dX11_keeps_86 ?_
  refine kt_ (v := 0) (by decide +kernel) ?_
  refine ka_iast (g := (fun _ => 0)) hx hb hK hP hD hS 2 1 rfl rfl (vin_ (by decide +kernel)) (up_same (by decide +kernel)) dX11_keeps_87 (fun H locs hP hD hS => ?_)
  have hP : va_P D vwCl [(h0, .inr (14, [v0, .ref h1, v1, .ref h2, .int 0, v2, v3, v4, v5, v6, v7, v8, v9, v10, v11, v12, v13, v14, v15, v16, v17, v18, v19, v20, v21])), (h1, .inl (k1, 8277, .inl (fun _ => 0))), (h2, .inl (k2, 66216, .inl (fun _ => 0)))] H := hP
  have hD : va_D A [(h0, .inr (14, [v0, .ref h1, v1, .ref h2, .int 0, v2, v3, v4, v5, v6, v7, v8, v9, v10, v11, v12, v13, v14, v15, v16, v17, v18, v19, v20, v21])), (h1, .inl (k1, 8277, .inl (fun _ => 0))), (h2, .inl (k2, 66216, .inl (fun _ => 0)))] := hD
  refine lv_iinc (v := 16) (lv' := [(3, .int 16), (2, .int 85), (0, .ref h0), (1, .int 0)]) hx hb dX11_keeps_88 hl (k := 0) rfl (by decide +kernel) (by decide) rfl (fun ls hl => ?_)
  refine lv_goto (tgt := 62) hx hb dX11_keeps_91 (by decide) ?_
  refine lv_iload_n hx hb dX11_keeps_62 rfl (lv_at hl 0 rfl) ?_
  refine lv_iload_n hx hb dX11_keeps_63 rfl (lv_at hl 1 rfl) ?_
  refine lv_icmp_ge (tgt := 94) hx hb dX11_keeps_64 (by decide) (fun c9 => absurd c9 (by decide +kernel)) (fun _ => ?_)
  refine lv_aload_n hx hb dX11_keeps_67 rfl (lv_at hl 2 rfl) ?_
  refine va_get (D := D) (ci := 14) (v := .ref h2) (own := RX11) (C := RX11) (T := TX11) (N := 25) hx hb hts hi_X11 hown hK hP 0 rfl rfl 3 (by decide) (hts (.fieldLink RX11 20 "CanalMapsModel" "kept" "[I") (List.mem_of_getElem? (i := 3) (by decide +kernel))) (fun _ h9 => h9) rfl dX11_keeps_68 ?_
  refine lv_sipush (v := 8277) hx hb dX11_keeps_71 (by decide +kernel) ?_
  refine lv_aload_n hx hb dX11_keeps_74 rfl (lv_at hl 2 rfl) ?_
  refine va_get (D := D) (ci := 14) (v := .int 0) (own := RX11) (C := RX11) (T := TX11) (N := 25) hx hb hts hi_X11 hown hK hP 0 rfl rfl 4 (by decide) (hts (.fieldLink RX11 60 "CanalMapsModel" "undos" "I") (List.mem_of_getElem? (i := 1) (by decide +kernel))) (fun _ h9 => h9) rfl dX11_keeps_75 ?_
  refine lv_imul hx hb dX11_keeps_78 ?_
  refine kt_ (v := 0) (by decide +kernel) ?_
  refine lv_iload_n hx hb dX11_keeps_79 rfl (lv_at hl 0 rfl) ?_
  refine lv_iadd hx hb dX11_keeps_80 ?_
  refine kt_ (v := 16) (by decide +kernel) ?_
  refine lv_aload_n hx hb dX11_keeps_81 rfl (lv_at hl 2 rfl) ?_
  refine va_get (D := D) (ci := 14) (v := .ref h1) (own := RX11) (C := RX11) (T := TX11) (N := 25) hx hb hts hi_X11 hown hK hP 0 rfl rfl 1 (by decide) (hts (.fieldLink RX11 13 "CanalMapsModel" "tried" "[I") (List.mem_of_getElem? (i := 4) (by decide +kernel))) (fun _ h9 => h9) rfl dX11_keeps_82 ?_
  refine lv_iload_n hx hb dX11_keeps_85 rfl (lv_at hl 0 rfl) ?_
  refine va_iald hx hb hK hP 1 0 rfl rfl (vin_ (by decide +kernel)) dX11_keeps_86 ?_
  refine kt_ (v := 0) (by decide +kernel) ?_
  refine ka_iast (g := (fun _ => 0)) hx hb hK hP hD hS 2 1 rfl rfl (vin_ (by decide +kernel)) (up_same (by decide +kernel)) dX11_keeps_87 (fun H locs hP hD hS => ?_)
  have hP : va_P D vwCl [(h0, .inr (14, [v0, .ref h1, v1, .ref h2, .int 0, v2, v3, v4, v5, v6, v7, v8, v9, v10, v11, v12, v13, v14, v15, v16, v17, v18, v19, v20, v21])), (h1, .inl (k1, 8277, .inl (fun _ => 0))), (h2, .inl (k2, 66216, .inl (fun _ => 0)))] H := hP
  have hD : va_D A [(h0, .inr (14, [v0, .ref h1, v1, .ref h2, .int 0, v2, v3, v4, v5, v6, v7, v8, v9, v10, v11, v12, v13, v14, v15, v16, v17, v18, v19, v20, v21])), (h1, .inl (k1, 8277, .inl (fun _ => 0))), (h2, .inl (k2, 66216, .inl (fun _ => 0)))] := hD
  refine lv_iinc (v := 17) (lv' := [(3, .int 17), (2, .int 85), (0, .ref h0), (1, .int 0)]) hx hb dX11_keeps_88 hl (k := 0) rfl (by decide +kernel) (by decide) rfl (fun ls hl => ?_)
  refine lv_goto (tgt := 62) hx hb dX11_keeps_91 (by decide) ?_
  refine lv_iload_n hx hb dX11_keeps_62 rfl (lv_at hl 0 rfl) ?_
  refine lv_iload_n hx hb dX11_keeps_63 rfl (lv_at hl 1 rfl) ?_
  refine lv_icmp_ge (tgt := 94) hx hb dX11_keeps_64 (by decide) (fun c9 => absurd c9 (by decide +kernel)) (fun _ => ?_)
  refine lv_aload_n hx hb dX11_keeps_67 rfl (lv_at hl 2 rfl) ?_
  refine va_get (D := D) (ci := 14) (v := .ref h2) (own := RX11) (C := RX11) (T := TX11) (N := 25) hx hb hts hi_X11 hown hK hP 0 rfl rfl 3 (by decide) (hts (.fieldLink RX11 20 "CanalMapsModel" "kept" "[I") (List.mem_of_getElem? (i := 3) (by decide +kernel))) (fun _ h9 => h9) rfl dX11_keeps_68 ?_
  refine lv_sipush (v := 8277) hx hb dX11_keeps_71 (by decide +kernel) ?_
  refine lv_aload_n hx hb dX11_keeps_74 rfl (lv_at hl 2 rfl) ?_
  refine va_get (D := D) (ci := 14) (v := .int 0) (own := RX11) (C := RX11) (T := TX11) (N := 25) hx hb hts hi_X11 hown hK hP 0 rfl rfl 4 (by decide) (hts (.fieldLink RX11 60 "CanalMapsModel" "undos" "I") (List.mem_of_getElem? (i := 1) (by decide +kernel))) (fun _ h9 => h9) rfl dX11_keeps_75 ?_
  refine lv_imul hx hb dX11_keeps_78 ?_
  refine kt_ (v := 0) (by decide +kernel) ?_
  refine lv_iload_n hx hb dX11_keeps_79 rfl (lv_at hl 0 rfl) ?_
  refine lv_iadd hx hb dX11_keeps_80 ?_
  refine kt_ (v := 17) (by decide +kernel) ?_
  refine lv_aload_n hx hb dX11_keeps_81 rfl (lv_at hl 2 rfl) ?_
  refine va_get (D := D) (ci := 14) (v := .ref h1) (own := RX11) (C := RX11) (T := TX11) (N := 25) hx hb hts hi_X11 hown hK hP 0 rfl rfl 1 (by decide) (hts (.fieldLink RX11 13 "CanalMapsModel" "tried" "[I") (List.mem_of_getElem? (i := 4) (by decide +kernel))) (fun _ h9 => h9) rfl dX11_keeps_82 ?_
  refine lv_iload_n hx hb dX11_keeps_85 rfl (lv_at hl 0 rfl) ?_
  refine va_iald hx hb hK hP 1 0 rfl rfl (vin_ (by decide +kernel)) dX11_keeps_86 ?_
  refine kt_ (v := 0) (by decide +kernel) ?_
  refine ka_iast (g := (fun _ => 0)) hx hb hK hP hD hS 2 1 rfl rfl (vin_ (by decide +kernel)) (up_same (by decide +kernel)) dX11_keeps_87 (fun H locs hP hD hS => ?_)
  have hP : va_P D vwCl [(h0, .inr (14, [v0, .ref h1, v1, .ref h2, .int 0, v2, v3, v4, v5, v6, v7, v8, v9, v10, v11, v12, v13, v14, v15, v16, v17, v18, v19, v20, v21])), (h1, .inl (k1, 8277, .inl (fun _ => 0))), (h2, .inl (k2, 66216, .inl (fun _ => 0)))] H := hP
  have hD : va_D A [(h0, .inr (14, [v0, .ref h1, v1, .ref h2, .int 0, v2, v3, v4, v5, v6, v7, v8, v9, v10, v11, v12, v13, v14, v15, v16, v17, v18, v19, v20, v21])), (h1, .inl (k1, 8277, .inl (fun _ => 0))), (h2, .inl (k2, 66216, .inl (fun _ => 0)))] := hD
  refine lv_iinc (v := 18) (lv' := [(3, .int 18), (2, .int 85), (0, .ref h0), (1, .int 0)]) hx hb dX11_keeps_88 hl (k := 0) rfl (by decide +kernel) (by decide) rfl (fun ls hl => ?_)
  refine lv_goto (tgt := 62) hx hb dX11_keeps_91 (by decide) ?_
  refine lv_iload_n hx hb dX11_keeps_62 rfl (lv_at hl 0 rfl) ?_
  refine lv_iload_n hx hb dX11_keeps_63 rfl (lv_at hl 1 rfl) ?_
  refine lv_icmp_ge (tgt := 94) hx hb dX11_keeps_64 (by decide) (fun c9 => absurd c9 (by decide +kernel)) (fun _ => ?_)
  refine lv_aload_n hx hb dX11_keeps_67 rfl (lv_at hl 2 rfl) ?_
  refine va_get (D := D) (ci := 14) (v := .ref h2) (own := RX11) (C := RX11) (T := TX11) (N := 25) hx hb hts hi_X11 hown hK hP 0 rfl rfl 3 (by decide) (hts (.fieldLink RX11 20 "CanalMapsModel" "kept" "[I") (List.mem_of_getElem? (i := 3) (by decide +kernel))) (fun _ h9 => h9) rfl dX11_keeps_68 ?_
  refine lv_sipush (v := 8277) hx hb dX11_keeps_71 (by decide +kernel) ?_
  refine lv_aload_n hx hb dX11_keeps_74 rfl (lv_at hl 2 rfl) ?_
  refine va_get (D := D) (ci := 14) (v := .int 0) (own := RX11) (C := RX11) (T := TX11) (N := 25) hx hb hts hi_X11 hown hK hP 0 rfl rfl 4 (by decide) (hts (.fieldLink RX11 60 "CanalMapsModel" "undos" "I") (List.mem_of_getElem? (i := 1) (by decide +kernel))) (fun _ h9 => h9) rfl dX11_keeps_75 ?_
  refine lv_imul hx hb dX11_keeps_78 ?_
  refine kt_ (v := 0) (by decide +kernel) ?_
  refine lv_iload_n hx hb dX11_keeps_79 rfl (lv_at hl 0 rfl) ?_
  refine lv_iadd hx hb dX11_keeps_80 ?_
  refine kt_ (v := 18) (by decide +kernel) ?_
  refine lv_aload_n hx hb dX11_keeps_81 rfl (lv_at hl 2 rfl) ?_
  refine va_get (D := D) (ci := 14) (v := .ref h1) (own := RX11) (C := RX11) (T := TX11) (N := 25) hx hb hts hi_X11 hown hK hP 0 rfl rfl 1 (by decide) (hts (.fieldLink RX11 13 "CanalMapsModel" "tried" "[I") (List.mem_of_getElem? (i := 4) (by decide +kernel))) (fun _ h9 => h9) rfl dX11_keeps_82 ?_
  refine lv_iload_n hx hb dX11_keeps_85 rfl (lv_at hl 0 rfl) ?_
  refine va_iald hx hb hK hP 1 0 rfl rfl (vin_ (by decide +kernel)) dX11_keeps_86 ?_
  refine kt_ (v := 0) (by decide +kernel) ?_
  refine ka_iast (g := (fun _ => 0)) hx hb hK hP hD hS 2 1 rfl rfl (vin_ (by decide +kernel)) (up_same (by decide +kernel)) dX11_keeps_87 (fun H locs hP hD hS => ?_)
  have hP : va_P D vwCl [(h0, .inr (14, [v0, .ref h1, v1, .ref h2, .int 0, v2, v3, v4, v5, v6, v7, v8, v9, v10, v11, v12, v13, v14, v15, v16, v17, v18, v19, v20, v21])), (h1, .inl (k1, 8277, .inl (fun _ => 0))), (h2, .inl (k2, 66216, .inl (fun _ => 0)))] H := hP
  have hD : va_D A [(h0, .inr (14, [v0, .ref h1, v1, .ref h2, .int 0, v2, v3, v4, v5, v6, v7, v8, v9, v10, v11, v12, v13, v14, v15, v16, v17, v18, v19, v20, v21])), (h1, .inl (k1, 8277, .inl (fun _ => 0))), (h2, .inl (k2, 66216, .inl (fun _ => 0)))] := hD
  refine lv_iinc (v := 19) (lv' := [(3, .int 19), (2, .int 85), (0, .ref h0), (1, .int 0)]) hx hb dX11_keeps_88 hl (k := 0) rfl (by decide +kernel) (by decide) rfl (fun ls hl => ?_)
  refine lv_goto (tgt := 62) hx hb dX11_keeps_91 (by decide) ?_
  refine lv_iload_n hx hb dX11_keeps_62 rfl (lv_at hl 0 rfl) ?_
  refine lv_iload_n hx hb dX11_keeps_63 rfl (lv_at hl 1 rfl) ?_
  refine lv_icmp_ge (tgt := 94) hx hb dX11_keeps_64 (by decide) (fun c9 => absurd c9 (by decide +kernel)) (fun _ => ?_)
  refine lv_aload_n hx hb dX11_keeps_67 rfl (lv_at hl 2 rfl) ?_
  refine va_get (D := D) (ci := 14) (v := .ref h2) (own := RX11) (C := RX11) (T := TX11) (N := 25) hx hb hts hi_X11 hown hK hP 0 rfl rfl 3 (by decide) (hts (.fieldLink RX11 20 "CanalMapsModel" "kept" "[I") (List.mem_of_getElem? (i := 3) (by decide +kernel))) (fun _ h9 => h9) rfl dX11_keeps_68 ?_
  refine lv_sipush (v := 8277) hx hb dX11_keeps_71 (by decide +kernel) ?_
  refine lv_aload_n hx hb dX11_keeps_74 rfl (lv_at hl 2 rfl) ?_
  refine va_get (D := D) (ci := 14) (v := .int 0) (own := RX11) (C := RX11) (T := TX11) (N := 25) hx hb hts hi_X11 hown hK hP 0 rfl rfl 4 (by decide) (hts (.fieldLink RX11 60 "CanalMapsModel" "undos" "I") (List.mem_of_getElem? (i := 1) (by decide +kernel))) (fun _ h9 => h9) rfl dX11_keeps_75 ?_
  refine lv_imul hx hb dX11_keeps_78 ?_
  refine kt_ (v := 0) (by decide +kernel) ?_
  refine lv_iload_n hx hb dX11_keeps_79 rfl (lv_at hl 0 rfl) ?_
  refine lv_iadd hx hb dX11_keeps_80 ?_
  refine kt_ (v := 19) (by decide +kernel) ?_
  refine lv_aload_n hx hb dX11_keeps_81 rfl (lv_at hl 2 rfl) ?_
  refine va_get (D := D) (ci := 14) (v := .ref h1) (own := RX11) (C := RX11) (T := TX11) (N := 25) hx hb hts hi_X11 hown hK hP 0 rfl rfl 1 (by decide) (hts (.fieldLink RX11 13 "CanalMapsModel" "tried" "[I") (List.mem_of_getElem? (i := 4) (by decide +kernel))) (fun _ h9 => h9) rfl dX11_keeps_82 ?_
  refine lv_iload_n hx hb dX11_keeps_85 rfl (lv_at hl 0 rfl) ?_
  refine va_iald hx hb hK hP 1 0 rfl rfl (vin_ (by decide +kernel)) dX11_keeps_86 ?_
  refine kt_ (v := 0) (by decide +kernel) ?_
  refine ka_iast (g := (fun _ => 0)) hx hb hK hP hD hS 2 1 rfl rfl (vin_ (by decide +kernel)) (up_same (by decide +kernel)) dX11_keeps_87 (fun H locs hP hD hS => ?_)
  have hP : va_P D vwCl [(h0, .inr (14, [v0, .ref h1, v1, .ref h2, .int 0, v2, v3, v4, v5, v6, v7, v8, v9, v10, v11, v12, v13, v14, v15, v16, v17, v18, v19, v20, v21])), (h1, .inl (k1, 8277, .inl (fun _ => 0))), (h2, .inl (k2, 66216, .inl (fun _ => 0)))] H := hP
  have hD : va_D A [(h0, .inr (14, [v0, .ref h1, v1, .ref h2, .int 0, v2, v3, v4, v5, v6, v7, v8, v9, v10, v11, v12, v13, v14, v15, v16, v17, v18, v19, v20, v21])), (h1, .inl (k1, 8277, .inl (fun _ => 0))), (h2, .inl (k2, 66216, .inl (fun _ => 0)))] := hD
  refine lv_iinc (v := 20) (lv' := [(3, .int 20), (2, .int 85), (0, .ref h0), (1, .int 0)]) hx hb dX11_keeps_88 hl (k := 0) rfl (by decide +kernel) (by decide) rfl (fun ls hl => ?_)
  refine lv_goto (tgt := 62) hx hb dX11_keeps_91 (by decide) ?_
  refine lv_iload_n hx hb dX11_keeps_62 rfl (lv_at hl 0 rfl) ?_
  refine lv_iload_n hx hb dX11_keeps_63 rfl (lv_at hl 1 rfl) ?_
  refine lv_icmp_ge (tgt := 94) hx hb dX11_keeps_64 (by decide) (fun c9 => absurd c9 (by decide +kernel)) (fun _ => ?_)
  refine lv_aload_n hx hb dX11_keeps_67 rfl (lv_at hl 2 rfl) ?_
  refine va_get (D := D) (ci := 14) (v := .ref h2) (own := RX11) (C := RX11) (T := TX11) (N := 25) hx hb hts hi_X11 hown hK hP 0 rfl rfl 3 (by decide) (hts (.fieldLink RX11 20 "CanalMapsModel" "kept" "[I") (List.mem_of_getElem? (i := 3) (by decide +kernel))) (fun _ h9 => h9) rfl dX11_keeps_68 ?_
  refine lv_sipush (v := 8277) hx hb dX11_keeps_71 (by decide +kernel) ?_
  refine lv_aload_n hx hb dX11_keeps_74 rfl (lv_at hl 2 rfl) ?_
  refine va_get (D := D) (ci := 14) (v := .int 0) (own := RX11) (C := RX11) (T := TX11) (N := 25) hx hb hts hi_X11 hown hK hP 0 rfl rfl 4 (by decide) (hts (.fieldLink RX11 60 "CanalMapsModel" "undos" "I") (List.mem_of_getElem? (i := 1) (by decide +kernel))) (fun _ h9 => h9) rfl dX11_keeps_75 ?_
  refine lv_imul hx hb dX11_keeps_78 ?_
  refine kt_ (v := 0) (by decide +kernel) ?_
  refine lv_iload_n hx hb dX11_keeps_79 rfl (lv_at hl 0 rfl) ?_
  refine lv_iadd hx hb dX11_keeps_80 ?_
  refine kt_ (v := 20) (by decide +kernel) ?_
  refine lv_aload_n hx hb dX11_keeps_81 rfl (lv_at hl 2 rfl) ?_
  refine va_get (D := D) (ci := 14) (v := .ref h1) (own := RX11) (C := RX11) (T := TX11) (N := 25) hx hb hts hi_X11 hown hK hP 0 rfl rfl 1 (by decide) (hts (.fieldLink RX11 13 "CanalMapsModel" "tried" "[I") (List.mem_of_getElem? (i := 4) (by decide +kernel))) (fun _ h9 => h9) rfl dX11_keeps_82 ?_
  refine lv_iload_n hx hb dX11_keeps_85 rfl (lv_at hl 0 rfl) ?_
  refine va_iald hx hb hK hP 1 0 rfl rfl (vin_ (by decide +kernel)) dX11_keeps_86 ?_
  refine kt_ (v := 0) (by decide +kernel) ?_
  refine ka_iast (g := (fun _ => 0)) hx hb hK hP hD hS 2 1 rfl rfl (vin_ (by decide +kernel)) (up_same (by decide +kernel)) dX11_keeps_87 (fun H locs hP hD hS => ?_)
  have hP : va_P D vwCl [(h0, .inr (14, [v0, .ref h1, v1, .ref h2, .int 0, v2, v3, v4, v5, v6, v7, v8, v9, v10, v11, v12, v13, v14, v15, v16, v17, v18, v19, v20, v21])), (h1, .inl (k1, 8277, .inl (fun _ => 0))), (h2, .inl (k2, 66216, .inl (fun _ => 0)))] H := hP
  have hD : va_D A [(h0, .inr (14, [v0, .ref h1, v1, .ref h2, .int 0, v2, v3, v4, v5, v6, v7, v8, v9, v10, v11, v12, v13, v14, v15, v16, v17, v18, v19, v20, v21])), (h1, .inl (k1, 8277, .inl (fun _ => 0))), (h2, .inl (k2, 66216, .inl (fun _ => 0)))] := hD
  refine lv_iinc (v := 21) (lv' := [(3, .int 21), (2, .int 85), (0, .ref h0), (1, .int 0)]) hx hb dX11_keeps_88 hl (k := 0) rfl (by decide +kernel) (by decide) rfl (fun ls hl => ?_)
  refine lv_goto (tgt := 62) hx hb dX11_keeps_91 (by decide) ?_
  refine lv_iload_n hx hb dX11_keeps_62 rfl (lv_at hl 0 rfl) ?_
  refine lv_iload_n hx hb dX11_keeps_63 rfl (lv_at hl 1 rfl) ?_
  refine lv_icmp_ge (tgt := 94) hx hb dX11_keeps_64 (by decide) (fun c9 => absurd c9 (by decide +kernel)) (fun _ => ?_)
  refine lv_aload_n hx hb dX11_keeps_67 rfl (lv_at hl 2 rfl) ?_
  refine va_get (D := D) (ci := 14) (v := .ref h2) (own := RX11) (C := RX11) (T := TX11) (N := 25) hx hb hts hi_X11 hown hK hP 0 rfl rfl 3 (by decide) (hts (.fieldLink RX11 20 "CanalMapsModel" "kept" "[I") (List.mem_of_getElem? (i := 3) (by decide +kernel))) (fun _ h9 => h9) rfl dX11_keeps_68 ?_
  refine lv_sipush (v := 8277) hx hb dX11_keeps_71 (by decide +kernel) ?_
  refine lv_aload_n hx hb dX11_keeps_74 rfl (lv_at hl 2 rfl) ?_
  refine va_get (D := D) (ci := 14) (v := .int 0) (own := RX11) (C := RX11) (T := TX11) (N := 25) hx hb hts hi_X11 hown hK hP 0 rfl rfl 4 (by decide) (hts (.fieldLink RX11 60 "CanalMapsModel" "undos" "I") (List.mem_of_getElem? (i := 1) (by decide +kernel))) (fun _ h9 => h9) rfl dX11_keeps_75 ?_
  refine lv_imul hx hb dX11_keeps_78 ?_
  refine kt_ (v := 0) (by decide +kernel) ?_
  refine lv_iload_n hx hb dX11_keeps_79 rfl (lv_at hl 0 rfl) ?_
  refine lv_iadd hx hb dX11_keeps_80 ?_
  refine kt_ (v := 21) (by decide +kernel) ?_
  refine lv_aload_n hx hb dX11_keeps_81 rfl (lv_at hl 2 rfl) ?_
  refine va_get (D := D) (ci := 14) (v := .ref h1) (own := RX11) (C := RX11) (T := TX11) (N := 25) hx hb hts hi_X11 hown hK hP 0 rfl rfl 1 (by decide) (hts (.fieldLink RX11 13 "CanalMapsModel" "tried" "[I") (List.mem_of_getElem? (i := 4) (by decide +kernel))) (fun _ h9 => h9) rfl dX11_keeps_82 ?_
  refine lv_iload_n hx hb dX11_keeps_85 rfl (lv_at hl 0 rfl) ?_
  refine va_iald hx hb hK hP 1 0 rfl rfl (vin_ (by decide +kernel)) dX11_keeps_86 ?_
  refine kt_ (v := 0) (by decide +kernel) ?_
  refine ka_iast (g := (fun _ => 0)) hx hb hK hP hD hS 2 1 rfl rfl (vin_ (by decide +kernel)) (up_same (by decide +kernel)) dX11_keeps_87 (fun H locs hP hD hS => ?_)
  have hP : va_P D vwCl [(h0, .inr (14, [v0, .ref h1, v1, .ref h2, .int 0, v2, v3, v4, v5, v6, v7, v8, v9, v10, v11, v12, v13, v14, v15, v16, v17, v18, v19, v20, v21])), (h1, .inl (k1, 8277, .inl (fun _ => 0))), (h2, .inl (k2, 66216, .inl (fun _ => 0)))] H := hP
  have hD : va_D A [(h0, .inr (14, [v0, .ref h1, v1, .ref h2, .int 0, v2, v3, v4, v5, v6, v7, v8, v9, v10, v11, v12, v13, v14, v15, v16, v17, v18, v19, v20, v21])), (h1, .inl (k1, 8277, .inl (fun _ => 0))), (h2, .inl (k2, 66216, .inl (fun _ => 0)))] := hD
  refine lv_iinc (v := 22) (lv' := [(3, .int 22), (2, .int 85), (0, .ref h0), (1, .int 0)]) hx hb dX11_keeps_88 hl (k := 0) rfl (by decide +kernel) (by decide) rfl (fun ls hl => ?_)
  refine lv_goto (tgt := 62) hx hb dX11_keeps_91 (by decide) ?_
  refine lv_iload_n hx hb dX11_keeps_62 rfl (lv_at hl 0 rfl) ?_
  refine lv_iload_n hx hb dX11_keeps_63 rfl (lv_at hl 1 rfl) ?_
  refine lv_icmp_ge (tgt := 94) hx hb dX11_keeps_64 (by decide) (fun c9 => absurd c9 (by decide +kernel)) (fun _ => ?_)
  refine lv_aload_n hx hb dX11_keeps_67 rfl (lv_at hl 2 rfl) ?_
  refine va_get (D := D) (ci := 14) (v := .ref h2) (own := RX11) (C := RX11) (T := TX11) (N := 25) hx hb hts hi_X11 hown hK hP 0 rfl rfl 3 (by decide) (hts (.fieldLink RX11 20 "CanalMapsModel" "kept" "[I") (List.mem_of_getElem? (i := 3) (by decide +kernel))) (fun _ h9 => h9) rfl dX11_keeps_68 ?_
  refine lv_sipush (v := 8277) hx hb dX11_keeps_71 (by decide +kernel) ?_
  refine lv_aload_n hx hb dX11_keeps_74 rfl (lv_at hl 2 rfl) ?_
  refine va_get (D := D) (ci := 14) (v := .int 0) (own := RX11) (C := RX11) (T := TX11) (N := 25) hx hb hts hi_X11 hown hK hP 0 rfl rfl 4 (by decide) (hts (.fieldLink RX11 60 "CanalMapsModel" "undos" "I") (List.mem_of_getElem? (i := 1) (by decide +kernel))) (fun _ h9 => h9) rfl dX11_keeps_75 ?_
  refine lv_imul hx hb dX11_keeps_78 ?_
  refine kt_ (v := 0) (by decide +kernel) ?_
  refine lv_iload_n hx hb dX11_keeps_79 rfl (lv_at hl 0 rfl) ?_
  refine lv_iadd hx hb dX11_keeps_80 ?_
  refine kt_ (v := 22) (by decide +kernel) ?_
  refine lv_aload_n hx hb dX11_keeps_81 rfl (lv_at hl 2 rfl) ?_
  refine va_get (D := D) (ci := 14) (v := .ref h1) (own := RX11) (C := RX11) (T := TX11) (N := 25) hx hb hts hi_X11 hown hK hP 0 rfl rfl 1 (by decide) (hts (.fieldLink RX11 13 "CanalMapsModel" "tried" "[I") (List.mem_of_getElem? (i := 4) (by decide +kernel))) (fun _ h9 => h9) rfl dX11_keeps_82 ?_
  refine lv_iload_n hx hb dX11_keeps_85 rfl (lv_at hl 0 rfl) ?_
  refine va_iald hx hb hK hP 1 0 rfl rfl (vin_ (by decide +kernel)) dX11_keeps_86 ?_
  refine kt_ (v := 0) (by decide +kernel) ?_
  refine ka_iast (g := (fun _ => 0)) hx hb hK hP hD hS 2 1 rfl rfl (vin_ (by decide +kernel)) (up_same (by decide +kernel)) dX11_keeps_87 (fun H locs hP hD hS => ?_)
  have hP : va_P D vwCl [(h0, .inr (14, [v0, .ref h1, v1, .ref h2, .int 0, v2, v3, v4, v5, v6, v7, v8, v9, v10, v11, v12, v13, v14, v15, v16, v17, v18, v19, v20, v21])), (h1, .inl (k1, 8277, .inl (fun _ => 0))), (h2, .inl (k2, 66216, .inl (fun _ => 0)))] H := hP
  have hD : va_D A [(h0, .inr (14, [v0, .ref h1, v1, .ref h2, .int 0, v2, v3, v4, v5, v6, v7, v8, v9, v10, v11, v12, v13, v14, v15, v16, v17, v18, v19, v20, v21])), (h1, .inl (k1, 8277, .inl (fun _ => 0))), (h2, .inl (k2, 66216, .inl (fun _ => 0)))] := hD
  refine lv_iinc (v := 23) (lv' := [(3, .int 23), (2, .int 85), (0, .ref h0), (1, .int 0)]) hx hb dX11_keeps_88 hl (k := 0) rfl (by decide +kernel) (by decide) rfl (fun ls hl => ?_)
  refine lv_goto (tgt := 62) hx hb dX11_keeps_91 (by decide) ?_
  refine lv_iload_n hx hb dX11_keeps_62 rfl (lv_at hl 0 rfl) ?_
  refine lv_iload_n hx hb dX11_keeps_63 rfl (lv_at hl 1 rfl) ?_
  refine lv_icmp_ge (tgt := 94) hx hb dX11_keeps_64 (by decide) (fun c9 => absurd c9 (by decide +kernel)) (fun _ => ?_)
  refine lv_aload_n hx hb dX11_keeps_67 rfl (lv_at hl 2 rfl) ?_
  refine va_get (D := D) (ci := 14) (v := .ref h2) (own := RX11) (C := RX11) (T := TX11) (N := 25) hx hb hts hi_X11 hown hK hP 0 rfl rfl 3 (by decide) (hts (.fieldLink RX11 20 "CanalMapsModel" "kept" "[I") (List.mem_of_getElem? (i := 3) (by decide +kernel))) (fun _ h9 => h9) rfl dX11_keeps_68 ?_
  refine lv_sipush (v := 8277) hx hb dX11_keeps_71 (by decide +kernel) ?_
  refine lv_aload_n hx hb dX11_keeps_74 rfl (lv_at hl 2 rfl) ?_
  refine va_get (D := D) (ci := 14) (v := .int 0) (own := RX11) (C := RX11) (T := TX11) (N := 25) hx hb hts hi_X11 hown hK hP 0 rfl rfl 4 (by decide) (hts (.fieldLink RX11 60 "CanalMapsModel" "undos" "I") (List.mem_of_getElem? (i := 1) (by decide +kernel))) (fun _ h9 => h9) rfl dX11_keeps_75 ?_
  refine lv_imul hx hb dX11_keeps_78 ?_
  refine kt_ (v := 0) (by decide +kernel) ?_
  refine lv_iload_n hx hb dX11_keeps_79 rfl (lv_at hl 0 rfl) ?_
  refine lv_iadd hx hb dX11_keeps_80 ?_
  refine kt_ (v := 23) (by decide +kernel) ?_
  refine lv_aload_n hx hb dX11_keeps_81 rfl (lv_at hl 2 rfl) ?_
  refine va_get (D := D) (ci := 14) (v := .ref h1) (own := RX11) (C := RX11) (T := TX11) (N := 25) hx hb hts hi_X11 hown hK hP 0 rfl rfl 1 (by decide) (hts (.fieldLink RX11 13 "CanalMapsModel" "tried" "[I") (List.mem_of_getElem? (i := 4) (by decide +kernel))) (fun _ h9 => h9) rfl dX11_keeps_82 ?_
  refine lv_iload_n hx hb dX11_keeps_85 rfl (lv_at hl 0 rfl) ?_
  refine va_iald hx hb hK hP 1 0 rfl rfl (vin_ (by decide +kernel)) dX11_keeps_86 ?_
  refine kt_ (v := 0) (by decide +kernel) ?_
  refine ka_iast (g := (fun _ => 0)) hx hb hK hP hD hS 2 1 rfl rfl (vin_ (by decide +kernel)) (up_same (by decide +kernel)) dX11_keeps_87 (fun H locs hP hD hS => ?_)
  have hP : va_P D vwCl [(h0, .inr (14, [v0, .ref h1, v1, .ref h2, .int 0, v2, v3, v4, v5, v6, v7, v8, v9, v10, v11, v12, v13, v14, v15, v16, v17, v18, v19, v20, v21])), (h1, .inl (k1, 8277, .inl (fun _ => 0))), (h2, .inl (k2, 66216, .inl (fun _ => 0)))] H := hP
  have hD : va_D A [(h0, .inr (14, [v0, .ref h1, v1, .ref h2, .int 0, v2, v3, v4, v5, v6, v7, v8, v9, v10, v11, v12, v13, v14, v15, v16, v17, v18, v19, v20, v21])), (h1, .inl (k1, 8277, .inl (fun _ => 0))), (h2, .inl (k2, 66216, .inl (fun _ => 0)))] := hD
  refine lv_iinc (v := 24) (lv' := [(3, .int 24), (2, .int 85), (0, .ref h0), (1, .int 0)]) hx hb dX11_keeps_88 hl (k := 0) rfl (by decide +kernel) (by decide) rfl (fun ls hl => ?_)
  refine lv_goto (tgt := 62) hx hb dX11_keeps_91 (by decide) ?_
  refine lv_iload_n hx hb dX11_keeps_62 rfl (lv_at hl 0 rfl) ?_
  refine lv_iload_n hx hb dX11_keeps_63 rfl (lv_at hl 1 rfl) ?_
  refine lv_icmp_ge (tgt := 94) hx hb dX11_keeps_64 (by decide) (fun c9 => absurd c9 (by decide +kernel)) (fun _ => ?_)
  refine lv_aload_n hx hb dX11_keeps_67 rfl (lv_at hl 2 rfl) ?_
  refine va_get (D := D) (ci := 14) (v := .ref h2) (own := RX11) (C := RX11) (T := TX11) (N := 25) hx hb hts hi_X11 hown hK hP 0 rfl rfl 3 (by decide) (hts (.fieldLink RX11 20 "CanalMapsModel" "kept" "[I") (List.mem_of_getElem? (i := 3) (by decide +kernel))) (fun _ h9 => h9) rfl dX11_keeps_68 ?_
  refine lv_sipush (v := 8277) hx hb dX11_keeps_71 (by decide +kernel) ?_
  refine lv_aload_n hx hb dX11_keeps_74 rfl (lv_at hl 2 rfl) ?_
  refine va_get (D := D) (ci := 14) (v := .int 0) (own := RX11) (C := RX11) (T := TX11) (N := 25) hx hb hts hi_X11 hown hK hP 0 rfl rfl 4 (by decide) (hts (.fieldLink RX11 60 "CanalMapsModel" "undos" "I") (List.mem_of_getElem? (i := 1) (by decide +kernel))) (fun _ h9 => h9) rfl dX11_keeps_75 ?_
  refine lv_imul hx hb dX11_keeps_78 ?_
  refine kt_ (v := 0) (by decide +kernel) ?_
  refine lv_iload_n hx hb dX11_keeps_79 rfl (lv_at hl 0 rfl) ?_
  refine lv_iadd hx hb dX11_keeps_80 ?_
  refine kt_ (v := 24) (by decide +kernel) ?_
  refine lv_aload_n hx hb dX11_keeps_81 rfl (lv_at hl 2 rfl) ?_
  refine va_get (D := D) (ci := 14) (v := .ref h1) (own := RX11) (C := RX11) (T := TX11) (N := 25) hx hb hts hi_X11 hown hK hP 0 rfl rfl 1 (by decide) (hts (.fieldLink RX11 13 "CanalMapsModel" "tried" "[I") (List.mem_of_getElem? (i := 4) (by decide +kernel))) (fun _ h9 => h9) rfl dX11_keeps_82 ?_
  refine lv_iload_n hx hb dX11_keeps_85 rfl (lv_at hl 0 rfl) ?_
  refine va_iald hx hb hK hP 1 0 rfl rfl (vin_ (by decide +kernel)) dX11_keeps_86 ?_
  refine kt_ (v := 0) (by decide +kernel) ?_
  refine ka_iast (g := (fun _ => 0)) hx hb hK hP hD hS 2 1 rfl rfl (vin_ (by decide +kernel)) (up_same (by decide +kernel)) dX11_keeps_87 (fun H locs hP hD hS => ?_)
  have hP : va_P D vwCl [(h0, .inr (14, [v0, .ref h1, v1, .ref h2, .int 0, v2, v3, v4, v5, v6, v7, v8, v9, v10, v11, v12, v13, v14, v15, v16, v17, v18, v19, v20, v21])), (h1, .inl (k1, 8277, .inl (fun _ => 0))), (h2, .inl (k2, 66216, .inl (fun _ => 0)))] H := hP
  have hD : va_D A [(h0, .inr (14, [v0, .ref h1, v1, .ref h2, .int 0, v2, v3, v4, v5, v6, v7, v8, v9, v10, v11, v12, v13, v14, v15, v16, v17, v18, v19, v20, v21])), (h1, .inl (k1, 8277, .inl (fun _ => 0))), (h2, .inl (k2, 66216, .inl (fun _ => 0)))] := hD
  refine lv_iinc (v := 25) (lv' := [(3, .int 25), (2, .int 85), (0, .ref h0), (1, .int 0)]) hx hb dX11_keeps_88 hl (k := 0) rfl (by decide +kernel) (by decide) rfl (fun ls hl => ?_)
  refine lv_goto (tgt := 62) hx hb dX11_keeps_91 (by decide) ?_
  refine lv_iload_n hx hb dX11_keeps_62 rfl (lv_at hl 0 rfl) ?_
  refine lv_iload_n hx hb dX11_keeps_63 rfl (lv_at hl 1 rfl) ?_
  refine lv_icmp_ge (tgt := 94) hx hb dX11_keeps_64 (by decide) (fun c9 => absurd c9 (by decide +kernel)) (fun _ => ?_)
  refine lv_aload_n hx hb dX11_keeps_67 rfl (lv_at hl 2 rfl) ?_
  refine va_get (D := D) (ci := 14) (v := .ref h2) (own := RX11) (C := RX11) (T := TX11) (N := 25) hx hb hts hi_X11 hown hK hP 0 rfl rfl 3 (by decide) (hts (.fieldLink RX11 20 "CanalMapsModel" "kept" "[I") (List.mem_of_getElem? (i := 3) (by decide +kernel))) (fun _ h9 => h9) rfl dX11_keeps_68 ?_
  refine lv_sipush (v := 8277) hx hb dX11_keeps_71 (by decide +kernel) ?_
  refine lv_aload_n hx hb dX11_keeps_74 rfl (lv_at hl 2 rfl) ?_
  refine va_get (D := D) (ci := 14) (v := .int 0) (own := RX11) (C := RX11) (T := TX11) (N := 25) hx hb hts hi_X11 hown hK hP 0 rfl rfl 4 (by decide) (hts (.fieldLink RX11 60 "CanalMapsModel" "undos" "I") (List.mem_of_getElem? (i := 1) (by decide +kernel))) (fun _ h9 => h9) rfl dX11_keeps_75 ?_
  refine lv_imul hx hb dX11_keeps_78 ?_
  refine kt_ (v := 0) (by decide +kernel) ?_
  refine lv_iload_n hx hb dX11_keeps_79 rfl (lv_at hl 0 rfl) ?_
  refine lv_iadd hx hb dX11_keeps_80 ?_
  refine kt_ (v := 25) (by decide +kernel) ?_
  refine lv_aload_n hx hb dX11_keeps_81 rfl (lv_at hl 2 rfl) ?_
  refine va_get (D := D) (ci := 14) (v := .ref h1) (own := RX11) (C := RX11) (T := TX11) (N := 25) hx hb hts hi_X11 hown hK hP 0 rfl rfl 1 (by decide) (hts (.fieldLink RX11 13 "CanalMapsModel" "tried" "[I") (List.mem_of_getElem? (i := 4) (by decide +kernel))) (fun _ h9 => h9) rfl dX11_keeps_82 ?_
  refine lv_iload_n hx hb dX11_keeps_85 rfl (lv_at hl 0 rfl) ?_
  refine va_iald hx hb hK hP 1 0 rfl rfl (vin_ (by decide +kernel)) dX11_keeps_86 ?_
  refine kt_ (v := 0) (by decide +kernel) ?_
  refine ka_iast (g := (fun _ => 0)) hx hb hK hP hD hS 2 1 rfl rfl (vin_ (by decide +kernel)) (up_same (by decide +kernel)) dX11_keeps_87 (fun H locs hP hD hS => ?_)
  have hP : va_P D vwCl [(h0, .inr (14, [v0, .ref h1, v1, .ref h2, .int 0, v2, v3, v4, v5, v6, v7, v8, v9, v10, v11, v12, v13, v14, v15, v16, v17, v18, v19, v20, v21])), (h1, .inl (k1, 8277, .inl (fun _ => 0))), (h2, .inl (k2, 66216, .inl (fun _ => 0)))] H := hP
  have hD : va_D A [(h0, .inr (14, [v0, .ref h1, v1, .ref h2, .int 0, v2, v3, v4, v5, v6, v7, v8, v9, v10, v11, v12, v13, v14, v15, v16, v17, v18, v19, v20, v21])), (h1, .inl (k1, 8277, .inl (fun _ => 0))), (h2, .inl (k2, 66216, .inl (fun _ => 0)))] := hD
  refine lv_iinc (v := 26) (lv' := [(3, .int 26), (2, .int 85), (0, .ref h0), (1, .int 0)]) hx hb dX11_keeps_88 hl (k := 0) rfl (by decide +kernel) (by decide) rfl (fun ls hl => ?_)
  refine lv_goto (tgt := 62) hx hb dX11_keeps_91 (by decide) ?_
  refine lv_iload_n hx hb dX11_keeps_62 rfl (lv_at hl 0 rfl) ?_
  refine lv_iload_n hx hb dX11_keeps_63 rfl (lv_at hl 1 rfl) ?_
  refine lv_icmp_ge (tgt := 94) hx hb dX11_keeps_64 (by decide) (fun c9 => absurd c9 (by decide +kernel)) (fun _ => ?_)
  refine lv_aload_n hx hb dX11_keeps_67 rfl (lv_at hl 2 rfl) ?_
  refine va_get (D := D) (ci := 14) (v := .ref h2) (own := RX11) (C := RX11) (T := TX11) (N := 25) hx hb hts hi_X11 hown hK hP 0 rfl rfl 3 (by decide) (hts (.fieldLink RX11 20 "CanalMapsModel" "kept" "[I") (List.mem_of_getElem? (i := 3) (by decide +kernel))) (fun _ h9 => h9) rfl dX11_keeps_68 ?_
  refine lv_sipush (v := 8277) hx hb dX11_keeps_71 (by decide +kernel) ?_
  refine lv_aload_n hx hb dX11_keeps_74 rfl (lv_at hl 2 rfl) ?_
  refine va_get (D := D) (ci := 14) (v := .int 0) (own := RX11) (C := RX11) (T := TX11) (N := 25) hx hb hts hi_X11 hown hK hP 0 rfl rfl 4 (by decide) (hts (.fieldLink RX11 60 "CanalMapsModel" "undos" "I") (List.mem_of_getElem? (i := 1) (by decide +kernel))) (fun _ h9 => h9) rfl dX11_keeps_75 ?_
  refine lv_imul hx hb dX11_keeps_78 ?_
  refine kt_ (v := 0) (by decide +kernel) ?_
  refine lv_iload_n hx hb dX11_keeps_79 rfl (lv_at hl 0 rfl) ?_
  refine lv_iadd hx hb dX11_keeps_80 ?_
  refine kt_ (v := 26) (by decide +kernel) ?_
  refine lv_aload_n hx hb dX11_keeps_81 rfl (lv_at hl 2 rfl) ?_
  refine va_get (D := D) (ci := 14) (v := .ref h1) (own := RX11) (C := RX11) (T := TX11) (N := 25) hx hb hts hi_X11 hown hK hP 0 rfl rfl 1 (by decide) (hts (.fieldLink RX11 13 "CanalMapsModel" "tried" "[I") (List.mem_of_getElem? (i := 4) (by decide +kernel))) (fun _ h9 => h9) rfl dX11_keeps_82 ?_
  refine lv_iload_n hx hb dX11_keeps_85 rfl (lv_at hl 0 rfl) ?_
  refine va_iald hx hb hK hP 1 0 rfl rfl (vin_ (by decide +kernel)) dX11_keeps_86 ?_
  refine kt_ (v := 0) (by decide +kernel) ?_
  refine ka_iast (g := (fun _ => 0)) hx hb hK hP hD hS 2 1 rfl rfl (vin_ (by decide +kernel)) (up_same (by decide +kernel)) dX11_keeps_87 (fun H locs hP hD hS => ?_)
  have hP : va_P D vwCl [(h0, .inr (14, [v0, .ref h1, v1, .ref h2, .int 0, v2, v3, v4, v5, v6, v7, v8, v9, v10, v11, v12, v13, v14, v15, v16, v17, v18, v19, v20, v21])), (h1, .inl (k1, 8277, .inl (fun _ => 0))), (h2, .inl (k2, 66216, .inl (fun _ => 0)))] H := hP
  have hD : va_D A [(h0, .inr (14, [v0, .ref h1, v1, .ref h2, .int 0, v2, v3, v4, v5, v6, v7, v8, v9, v10, v11, v12, v13, v14, v15, v16, v17, v18, v19, v20, v21])), (h1, .inl (k1, 8277, .inl (fun _ => 0))), (h2, .inl (k2, 66216, .inl (fun _ => 0)))] := hD
  refine lv_iinc (v := 27) (lv' := [(3, .int 27), (2, .int 85), (0, .ref h0), (1, .int 0)]) hx hb dX11_keeps_88 hl (k := 0) rfl (by decide +kernel) (by decide) rfl (fun ls hl => ?_)
  refine lv_goto (tgt := 62) hx hb dX11_keeps_91 (by decide) ?_
  refine lv_iload_n hx hb dX11_keeps_62 rfl (lv_at hl 0 rfl) ?_
  refine lv_iload_n hx hb dX11_keeps_63 rfl (lv_at hl 1 rfl) ?_
  refine lv_icmp_ge (tgt := 94) hx hb dX11_keeps_64 (by decide) (fun c9 => absurd c9 (by decide +kernel)) (fun _ => ?_)
  refine lv_aload_n hx hb dX11_keeps_67 rfl (lv_at hl 2 rfl) ?_
  refine va_get (D := D) (ci := 14) (v := .ref h2) (own := RX11) (C := RX11) (T := TX11) (N := 25) hx hb hts hi_X11 hown hK hP 0 rfl rfl 3 (by decide) (hts (.fieldLink RX11 20 "CanalMapsModel" "kept" "[I") (List.mem_of_getElem? (i := 3) (by decide +kernel))) (fun _ h9 => h9) rfl dX11_keeps_68 ?_
  refine lv_sipush (v := 8277) hx hb dX11_keeps_71 (by decide +kernel) ?_
  refine lv_aload_n hx hb dX11_keeps_74 rfl (lv_at hl 2 rfl) ?_
  refine va_get (D := D) (ci := 14) (v := .int 0) (own := RX11) (C := RX11) (T := TX11) (N := 25) hx hb hts hi_X11 hown hK hP 0 rfl rfl 4 (by decide) (hts (.fieldLink RX11 60 "CanalMapsModel" "undos" "I") (List.mem_of_getElem? (i := 1) (by decide +kernel))) (fun _ h9 => h9) rfl dX11_keeps_75 ?_
  refine lv_imul hx hb dX11_keeps_78 ?_
  refine kt_ (v := 0) (by decide +kernel) ?_
  refine lv_iload_n hx hb dX11_keeps_79 rfl (lv_at hl 0 rfl) ?_
  refine lv_iadd hx hb dX11_keeps_80 ?_
  refine kt_ (v := 27) (by decide +kernel) ?_
  refine lv_aload_n hx hb dX11_keeps_81 rfl (lv_at hl 2 rfl) ?_
  refine va_get (D := D) (ci := 14) (v := .ref h1) (own := RX11) (C := RX11) (T := TX11) (N := 25) hx hb hts hi_X11 hown hK hP 0 rfl rfl 1 (by decide) (hts (.fieldLink RX11 13 "CanalMapsModel" "tried" "[I") (List.mem_of_getElem? (i := 4) (by decide +kernel))) (fun _ h9 => h9) rfl dX11_keeps_82 ?_
  refine lv_iload_n hx hb dX11_keeps_85 rfl (lv_at hl 0 rfl) ?_
  refine va_iald hx hb hK hP 1 0 rfl rfl (vin_ (by decide +kernel)) dX11_keeps_86 ?_
  refine kt_ (v := 0) (by decide +kernel) ?_
  refine ka_iast (g := (fun _ => 0)) hx hb hK hP hD hS 2 1 rfl rfl (vin_ (by decide +kernel)) (up_same (by decide +kernel)) dX11_keeps_87 (fun H locs hP hD hS => ?_)
  have hP : va_P D vwCl [(h0, .inr (14, [v0, .ref h1, v1, .ref h2, .int 0, v2, v3, v4, v5, v6, v7, v8, v9, v10, v11, v12, v13, v14, v15, v16, v17, v18, v19, v20, v21])), (h1, .inl (k1, 8277, .inl (fun _ => 0))), (h2, .inl (k2, 66216, .inl (fun _ => 0)))] H := hP
  have hD : va_D A [(h0, .inr (14, [v0, .ref h1, v1, .ref h2, .int 0, v2, v3, v4, v5, v6, v7, v8, v9, v10, v11, v12, v13, v14, v15, v16, v17, v18, v19, v20, v21])), (h1, .inl (k1, 8277, .inl (fun _ => 0))), (h2, .inl (k2, 66216, .inl (fun _ => 0)))] := hD
  refine lv_iinc (v := 28) (lv' := [(3, .int 28), (2, .int 85), (0, .ref h0), (1, .int 0)]) hx hb dX11_keeps_88 hl (k := 0) rfl (by decide +kernel) (by decide) rfl (fun ls hl => ?_)
  refine lv_goto (tgt := 62) hx hb dX11_keeps_91 (by decide) ?_
  refine lv_iload_n hx hb dX11_keeps_62 rfl (lv_at hl 0 rfl) ?_
  refine lv_iload_n hx hb dX11_keeps_63 rfl (lv_at hl 1 rfl) ?_
  refine lv_icmp_ge (tgt := 94) hx hb dX11_keeps_64 (by decide) (fun c9 => absurd c9 (by decide +kernel)) (fun _ => ?_)
  refine lv_aload_n hx hb dX11_keeps_67 rfl (lv_at hl 2 rfl) ?_
  refine va_get (D := D) (ci := 14) (v := .ref h2) (own := RX11) (C := RX11) (T := TX11) (N := 25) hx hb hts hi_X11 hown hK hP 0 rfl rfl 3 (by decide) (hts (.fieldLink RX11 20 "CanalMapsModel" "kept" "[I") (List.mem_of_getElem? (i := 3) (by decide +kernel))) (fun _ h9 => h9) rfl dX11_keeps_68 ?_
  refine lv_sipush (v := 8277) hx hb dX11_keeps_71 (by decide +kernel) ?_
  refine lv_aload_n hx hb dX11_keeps_74 rfl (lv_at hl 2 rfl) ?_
  refine va_get (D := D) (ci := 14) (v := .int 0) (own := RX11) (C := RX11) (T := TX11) (N := 25) hx hb hts hi_X11 hown hK hP 0 rfl rfl 4 (by decide) (hts (.fieldLink RX11 60 "CanalMapsModel" "undos" "I") (List.mem_of_getElem? (i := 1) (by decide +kernel))) (fun _ h9 => h9) rfl dX11_keeps_75 ?_
  refine lv_imul hx hb dX11_keeps_78 ?_
  refine kt_ (v := 0) (by decide +kernel) ?_
  refine lv_iload_n hx hb dX11_keeps_79 rfl (lv_at hl 0 rfl) ?_
  refine lv_iadd hx hb dX11_keeps_80 ?_
  refine kt_ (v := 28) (by decide +kernel) ?_
  refine lv_aload_n hx hb dX11_keeps_81 rfl (lv_at hl 2 rfl) ?_
  refine va_get (D := D) (ci := 14) (v := .ref h1) (own := RX11) (C := RX11) (T := TX11) (N := 25) hx hb hts hi_X11 hown hK hP 0 rfl rfl 1 (by decide) (hts (.fieldLink RX11 13 "CanalMapsModel" "tried" "[I") (List.mem_of_getElem? (i := 4) (by decide +kernel))) (fun _ h9 => h9) rfl dX11_keeps_82 ?_
  refine lv_iload_n hx hb dX11_keeps_85 rfl (lv_at hl 0 rfl) ?_
  refine va_iald hx hb hK hP 1 0 rfl rfl (vin_ (by decide +kernel)) dX11_keeps_86 ?_
  refine kt_ (v := 0) (by decide +kernel) ?_
  refine ka_iast (g := (fun _ => 0)) hx hb hK hP hD hS 2 1 rfl rfl (vin_ (by decide +kernel)) (up_same (by decide +kernel)) dX11_keeps_87 (fun H locs hP hD hS => ?_)
  have hP : va_P D vwCl [(h0, .inr (14, [v0, .ref h1, v1, .ref h2, .int 0, v2, v3, v4, v5, v6, v7, v8, v9, v10, v11, v12, v13, v14, v15, v16, v17, v18, v19, v20, v21])), (h1, .inl (k1, 8277, .inl (fun _ => 0))), (h2, .inl (k2, 66216, .inl (fun _ => 0)))] H := hP
  have hD : va_D A [(h0, .inr (14, [v0, .ref h1, v1, .ref h2, .int 0, v2, v3, v4, v5, v6, v7, v8, v9, v10, v11, v12, v13, v14, v15, v16, v17, v18, v19, v20, v21])), (h1, .inl (k1, 8277, .inl (fun _ => 0))), (h2, .inl (k2, 66216, .inl (fun _ => 0)))] := hD
  refine lv_iinc (v := 29) (lv' := [(3, .int 29), (2, .int 85), (0, .ref h0), (1, .int 0)]) hx hb dX11_keeps_88 hl (k := 0) rfl (by decide +kernel) (by decide) rfl (fun ls hl => ?_)
  refine lv_goto (tgt := 62) hx hb dX11_keeps_91 (by decide) ?_
  refine lv_iload_n hx hb dX11_keeps_62 rfl (lv_at hl 0 rfl) ?_
  refine lv_iload_n hx hb dX11_keeps_63 rfl (lv_at hl 1 rfl) ?_
  refine lv_icmp_ge (tgt := 94) hx hb dX11_keeps_64 (by decide) (fun c9 => absurd c9 (by decide +kernel)) (fun _ => ?_)
  refine lv_aload_n hx hb dX11_keeps_67 rfl (lv_at hl 2 rfl) ?_
  refine va_get (D := D) (ci := 14) (v := .ref h2) (own := RX11) (C := RX11) (T := TX11) (N := 25) hx hb hts hi_X11 hown hK hP 0 rfl rfl 3 (by decide) (hts (.fieldLink RX11 20 "CanalMapsModel" "kept" "[I") (List.mem_of_getElem? (i := 3) (by decide +kernel))) (fun _ h9 => h9) rfl dX11_keeps_68 ?_
  refine lv_sipush (v := 8277) hx hb dX11_keeps_71 (by decide +kernel) ?_
  refine lv_aload_n hx hb dX11_keeps_74 rfl (lv_at hl 2 rfl) ?_
  refine va_get (D := D) (ci := 14) (v := .int 0) (own := RX11) (C := RX11) (T := TX11) (N := 25) hx hb hts hi_X11 hown hK hP 0 rfl rfl 4 (by decide) (hts (.fieldLink RX11 60 "CanalMapsModel" "undos" "I") (List.mem_of_getElem? (i := 1) (by decide +kernel))) (fun _ h9 => h9) rfl dX11_keeps_75 ?_
  refine lv_imul hx hb dX11_keeps_78 ?_
  refine kt_ (v := 0) (by decide +kernel) ?_
  refine lv_iload_n hx hb dX11_keeps_79 rfl (lv_at hl 0 rfl) ?_
  refine lv_iadd hx hb dX11_keeps_80 ?_
  refine kt_ (v := 29) (by decide +kernel) ?_
  refine lv_aload_n hx hb dX11_keeps_81 rfl (lv_at hl 2 rfl) ?_
  refine va_get (D := D) (ci := 14) (v := .ref h1) (own := RX11) (C := RX11) (T := TX11) (N := 25) hx hb hts hi_X11 hown hK hP 0 rfl rfl 1 (by decide) (hts (.fieldLink RX11 13 "CanalMapsModel" "tried" "[I") (List.mem_of_getElem? (i := 4) (by decide +kernel))) (fun _ h9 => h9) rfl dX11_keeps_82 ?_
  refine lv_iload_n hx hb dX11_keeps_85 rfl (lv_at hl 0 rfl) ?_
  refine va_iald hx hb hK hP 1 0 rfl rfl (vin_ (by decide +kernel)) dX11_keeps_86 ?_
  refine kt_ (v := 0) (by decide +kernel) ?_
  refine ka_iast (g := (fun _ => 0)) hx hb hK hP hD hS 2 1 rfl rfl (vin_ (by decide +kernel)) (up_same (by decide +kernel)) dX11_keeps_87 (fun H locs hP hD hS => ?_)
  have hP : va_P D vwCl [(h0, .inr (14, [v0, .ref h1, v1, .ref h2, .int 0, v2, v3, v4, v5, v6, v7, v8, v9, v10, v11, v12, v13, v14, v15, v16, v17, v18, v19, v20, v21])), (h1, .inl (k1, 8277, .inl (fun _ => 0))), (h2, .inl (k2, 66216, .inl (fun _ => 0)))] H := hP
  have hD : va_D A [(h0, .inr (14, [v0, .ref h1, v1, .ref h2, .int 0, v2, v3, v4, v5, v6, v7, v8, v9, v10, v11, v12, v13, v14, v15, v16, v17, v18, v19, v20, v21])), (h1, .inl (k1, 8277, .inl (fun _ => 0))), (h2, .inl (k2, 66216, .inl (fun _ => 0)))] := hD
  refine lv_iinc (v := 30) (lv' := [(3, .int 30), (2, .int 85), (0, .ref h0), (1, .int 0)]) hx hb dX11_keeps_88 hl (k := 0) rfl (by decide +kernel) (by decide) rfl (fun ls hl => ?_)
  refine lv_goto (tgt := 62) hx hb dX11_keeps_91 (by decide) ?_
  refine lv_iload_n hx hb dX11_keeps_62 rfl (lv_at hl 0 rfl) ?_
  refine lv_iload_n hx hb dX11_keeps_63 rfl (lv_at hl 1 rfl) ?_
  refine lv_icmp_ge (tgt := 94) hx hb dX11_keeps_64 (by decide) (fun c9 => absurd c9 (by decide +kernel)) (fun _ => ?_)
  refine lv_aload_n hx hb dX11_keeps_67 rfl (lv_at hl 2 rfl) ?_
  refine va_get (D := D) (ci := 14) (v := .ref h2) (own := RX11) (C := RX11) (T := TX11) (N := 25) hx hb hts hi_X11 hown hK hP 0 rfl rfl 3 (by decide) (hts (.fieldLink RX11 20 "CanalMapsModel" "kept" "[I") (List.mem_of_getElem? (i := 3) (by decide +kernel))) (fun _ h9 => h9) rfl dX11_keeps_68 ?_
  refine lv_sipush (v := 8277) hx hb dX11_keeps_71 (by decide +kernel) ?_
  refine lv_aload_n hx hb dX11_keeps_74 rfl (lv_at hl 2 rfl) ?_
  refine va_get (D := D) (ci := 14) (v := .int 0) (own := RX11) (C := RX11) (T := TX11) (N := 25) hx hb hts hi_X11 hown hK hP 0 rfl rfl 4 (by decide) (hts (.fieldLink RX11 60 "CanalMapsModel" "undos" "I") (List.mem_of_getElem? (i := 1) (by decide +kernel))) (fun _ h9 => h9) rfl dX11_keeps_75 ?_
  refine lv_imul hx hb dX11_keeps_78 ?_
  refine kt_ (v := 0) (by decide +kernel) ?_
  refine lv_iload_n hx hb dX11_keeps_79 rfl (lv_at hl 0 rfl) ?_
  refine lv_iadd hx hb dX11_keeps_80 ?_
  refine kt_ (v := 30) (by decide +kernel) ?_
  refine lv_aload_n hx hb dX11_keeps_81 rfl (lv_at hl 2 rfl) ?_
  refine va_get (D := D) (ci := 14) (v := .ref h1) (own := RX11) (C := RX11) (T := TX11) (N := 25) hx hb hts hi_X11 hown hK hP 0 rfl rfl 1 (by decide) (hts (.fieldLink RX11 13 "CanalMapsModel" "tried" "[I") (List.mem_of_getElem? (i := 4) (by decide +kernel))) (fun _ h9 => h9) rfl dX11_keeps_82 ?_
  refine lv_iload_n hx hb dX11_keeps_85 rfl (lv_at hl 0 rfl) ?_
  refine va_iald hx hb hK hP 1 0 rfl rfl (vin_ (by decide +kernel)) dX11_keeps_86 ?_
  refine kt_ (v := 0) (by decide +kernel) ?_
  refine ka_iast (g := (fun _ => 0)) hx hb hK hP hD hS 2 1 rfl rfl (vin_ (by decide +kernel)) (up_same (by decide +kernel)) dX11_keeps_87 (fun H locs hP hD hS => ?_)
  have hP : va_P D vwCl [(h0, .inr (14, [v0, .ref h1, v1, .ref h2, .int 0, v2, v3, v4, v5, v6, v7, v8, v9, v10, v11, v12, v13, v14, v15, v16, v17, v18, v19, v20, v21])), (h1, .inl (k1, 8277, .inl (fun _ => 0))), (h2, .inl (k2, 66216, .inl (fun _ => 0)))] H := hP
  have hD : va_D A [(h0, .inr (14, [v0, .ref h1, v1, .ref h2, .int 0, v2, v3, v4, v5, v6, v7, v8, v9, v10, v11, v12, v13, v14, v15, v16, v17, v18, v19, v20, v21])), (h1, .inl (k1, 8277, .inl (fun _ => 0))), (h2, .inl (k2, 66216, .inl (fun _ => 0)))] := hD
  refine lv_iinc (v := 31) (lv' := [(3, .int 31), (2, .int 85), (0, .ref h0), (1, .int 0)]) hx hb dX11_keeps_88 hl (k := 0) rfl (by decide +kernel) (by decide) rfl (fun ls hl => ?_)
  refine lv_goto (tgt := 62) hx hb dX11_keeps_91 (by decide) ?_
  refine lv_iload_n hx hb dX11_keeps_62 rfl (lv_at hl 0 rfl) ?_
  refine lv_iload_n hx hb dX11_keeps_63 rfl (lv_at hl 1 rfl) ?_
  refine lv_icmp_ge (tgt := 94) hx hb dX11_keeps_64 (by decide) (fun c9 => absurd c9 (by decide +kernel)) (fun _ => ?_)
  refine lv_aload_n hx hb dX11_keeps_67 rfl (lv_at hl 2 rfl) ?_
  refine va_get (D := D) (ci := 14) (v := .ref h2) (own := RX11) (C := RX11) (T := TX11) (N := 25) hx hb hts hi_X11 hown hK hP 0 rfl rfl 3 (by decide) (hts (.fieldLink RX11 20 "CanalMapsModel" "kept" "[I") (List.mem_of_getElem? (i := 3) (by decide +kernel))) (fun _ h9 => h9) rfl dX11_keeps_68 ?_
  refine lv_sipush (v := 8277) hx hb dX11_keeps_71 (by decide +kernel) ?_
  refine lv_aload_n hx hb dX11_keeps_74 rfl (lv_at hl 2 rfl) ?_
  refine va_get (D := D) (ci := 14) (v := .int 0) (own := RX11) (C := RX11) (T := TX11) (N := 25) hx hb hts hi_X11 hown hK hP 0 rfl rfl 4 (by decide) (hts (.fieldLink RX11 60 "CanalMapsModel" "undos" "I") (List.mem_of_getElem? (i := 1) (by decide +kernel))) (fun _ h9 => h9) rfl dX11_keeps_75 ?_
  refine lv_imul hx hb dX11_keeps_78 ?_
  refine kt_ (v := 0) (by decide +kernel) ?_
  refine lv_iload_n hx hb dX11_keeps_79 rfl (lv_at hl 0 rfl) ?_
  refine lv_iadd hx hb dX11_keeps_80 ?_
  refine kt_ (v := 31) (by decide +kernel) ?_
  refine lv_aload_n hx hb dX11_keeps_81 rfl (lv_at hl 2 rfl) ?_
  refine va_get (D := D) (ci := 14) (v := .ref h1) (own := RX11) (C := RX11) (T := TX11) (N := 25) hx hb hts hi_X11 hown hK hP 0 rfl rfl 1 (by decide) (hts (.fieldLink RX11 13 "CanalMapsModel" "tried" "[I") (List.mem_of_getElem? (i := 4) (by decide +kernel))) (fun _ h9 => h9) rfl dX11_keeps_82 ?_
  refine lv_iload_n hx hb dX11_keeps_85 rfl (lv_at hl 0 rfl) ?_
  refine va_iald hx hb hK hP 1 0 rfl rfl (vin_ (by decide +kernel)) dX11_keeps_86 ?_
  refine kt_ (v := 0) (by decide +kernel) ?_
  refine ka_iast (g := (fun _ => 0)) hx hb hK hP hD hS 2 1 rfl rfl (vin_ (by decide +kernel)) (up_same (by decide +kernel)) dX11_keeps_87 (fun H locs hP hD hS => ?_)
  have hP : va_P D vwCl [(h0, .inr (14, [v0, .ref h1, v1, .ref h2, .int 0, v2, v3, v4, v5, v6, v7, v8, v9, v10, v11, v12, v13, v14, v15, v16, v17, v18, v19, v20, v21])), (h1, .inl (k1, 8277, .inl (fun _ => 0))), (h2, .inl (k2, 66216, .inl (fun _ => 0)))] H := hP
  have hD : va_D A [(h0, .inr (14, [v0, .ref h1, v1, .ref h2, .int 0, v2, v3, v4, v5, v6, v7, v8, v9, v10, v11, v12, v13, v14, v15, v16, v17, v18, v19, v20, v21])), (h1, .inl (k1, 8277, .inl (fun _ => 0))), (h2, .inl (k2, 66216, .inl (fun _ => 0)))] := hD
  refine lv_iinc (v := 32) (lv' := [(3, .int 32), (2, .int 85), (0, .ref h0), (1, .int 0)]) hx hb dX11_keeps_88 hl (k := 0) rfl (by decide +kernel) (by decide) rfl (fun ls hl => ?_)
  refine lv_goto (tgt := 62) hx hb dX11_keeps_91 (by decide) ?_
  refine lv_iload_n hx hb dX11_keeps_62 rfl (lv_at hl 0 rfl) ?_
  refine lv_iload_n hx hb dX11_keeps_63 rfl (lv_at hl 1 rfl) ?_
  refine lv_icmp_ge (tgt := 94) hx hb dX11_keeps_64 (by decide) (fun c9 => absurd c9 (by decide +kernel)) (fun _ => ?_)
  refine lv_aload_n hx hb dX11_keeps_67 rfl (lv_at hl 2 rfl) ?_
  refine va_get (D := D) (ci := 14) (v := .ref h2) (own := RX11) (C := RX11) (T := TX11) (N := 25) hx hb hts hi_X11 hown hK hP 0 rfl rfl 3 (by decide) (hts (.fieldLink RX11 20 "CanalMapsModel" "kept" "[I") (List.mem_of_getElem? (i := 3) (by decide +kernel))) (fun _ h9 => h9) rfl dX11_keeps_68 ?_
  refine lv_sipush (v := 8277) hx hb dX11_keeps_71 (by decide +kernel) ?_
  refine lv_aload_n hx hb dX11_keeps_74 rfl (lv_at hl 2 rfl) ?_
  refine va_get (D := D) (ci := 14) (v := .int 0) (own := RX11) (C := RX11) (T := TX11) (N := 25) hx hb hts hi_X11 hown hK hP 0 rfl rfl 4 (by decide) (hts (.fieldLink RX11 60 "CanalMapsModel" "undos" "I") (List.mem_of_getElem? (i := 1) (by decide +kernel))) (fun _ h9 => h9) rfl dX11_keeps_75 ?_
  refine lv_imul hx hb dX11_keeps_78 ?_
  refine kt_ (v := 0) (by decide +kernel) ?_
  refine lv_iload_n hx hb dX11_keeps_79 rfl (lv_at hl 0 rfl) ?_
  refine lv_iadd hx hb dX11_keeps_80 ?_
  refine kt_ (v := 32) (by decide +kernel) ?_
  refine lv_aload_n hx hb dX11_keeps_81 rfl (lv_at hl 2 rfl) ?_
  refine va_get (D := D) (ci := 14) (v := .ref h1) (own := RX11) (C := RX11) (T := TX11) (N := 25) hx hb hts hi_X11 hown hK hP 0 rfl rfl 1 (by decide) (hts (.fieldLink RX11 13 "CanalMapsModel" "tried" "[I") (List.mem_of_getElem? (i := 4) (by decide +kernel))) (fun _ h9 => h9) rfl dX11_keeps_82 ?_
  refine lv_iload_n hx hb dX11_keeps_85 rfl (lv_at hl 0 rfl) ?_
  refine va_iald hx hb hK hP 1 0 rfl rfl (vin_ (by decide +kernel)) dX11_keeps_86 ?_
  refine kt_ (v := 0) (by decide +kernel) ?_
  refine ka_iast (g := (fun _ => 0)) hx hb hK hP hD hS 2 1 rfl rfl (vin_ (by decide +kernel)) (up_same (by decide +kernel)) dX11_keeps_87 (fun H locs hP hD hS => ?_)
  have hP : va_P D vwCl [(h0, .inr (14, [v0, .ref h1, v1, .ref h2, .int 0, v2, v3, v4, v5, v6, v7, v8, v9, v10, v11, v12, v13, v14, v15, v16, v17, v18, v19, v20, v21])), (h1, .inl (k1, 8277, .inl (fun _ => 0))), (h2, .inl (k2, 66216, .inl (fun _ => 0)))] H := hP
  have hD : va_D A [(h0, .inr (14, [v0, .ref h1, v1, .ref h2, .int 0, v2, v3, v4, v5, v6, v7, v8, v9, v10, v11, v12, v13, v14, v15, v16, v17, v18, v19, v20, v21])), (h1, .inl (k1, 8277, .inl (fun _ => 0))), (h2, .inl (k2, 66216, .inl (fun _ => 0)))] := hD
  refine lv_iinc (v := 33) (lv' := [(3, .int 33), (2, .int 85), (0, .ref h0), (1, .int 0)]) hx hb dX11_keeps_88 hl (k := 0) rfl (by decide +kernel) (by decide) rfl (fun ls hl => ?_)
  refine lv_goto (tgt := 62) hx hb dX11_keeps_91 (by decide) ?_
  refine lv_iload_n hx hb dX11_keeps_62 rfl (lv_at hl 0 rfl) ?_
  refine lv_iload_n hx hb dX11_keeps_63 rfl (lv_at hl 1 rfl) ?_
  refine lv_icmp_ge (tgt := 94) hx hb dX11_keeps_64 (by decide) (fun c9 => absurd c9 (by decide +kernel)) (fun _ => ?_)
  refine lv_aload_n hx hb dX11_keeps_67 rfl (lv_at hl 2 rfl) ?_
  refine va_get (D := D) (ci := 14) (v := .ref h2) (own := RX11) (C := RX11) (T := TX11) (N := 25) hx hb hts hi_X11 hown hK hP 0 rfl rfl 3 (by decide) (hts (.fieldLink RX11 20 "CanalMapsModel" "kept" "[I") (List.mem_of_getElem? (i := 3) (by decide +kernel))) (fun _ h9 => h9) rfl dX11_keeps_68 ?_
  refine lv_sipush (v := 8277) hx hb dX11_keeps_71 (by decide +kernel) ?_
  refine lv_aload_n hx hb dX11_keeps_74 rfl (lv_at hl 2 rfl) ?_
  refine va_get (D := D) (ci := 14) (v := .int 0) (own := RX11) (C := RX11) (T := TX11) (N := 25) hx hb hts hi_X11 hown hK hP 0 rfl rfl 4 (by decide) (hts (.fieldLink RX11 60 "CanalMapsModel" "undos" "I") (List.mem_of_getElem? (i := 1) (by decide +kernel))) (fun _ h9 => h9) rfl dX11_keeps_75 ?_
  refine lv_imul hx hb dX11_keeps_78 ?_
  refine kt_ (v := 0) (by decide +kernel) ?_
  refine lv_iload_n hx hb dX11_keeps_79 rfl (lv_at hl 0 rfl) ?_
  refine lv_iadd hx hb dX11_keeps_80 ?_
  refine kt_ (v := 33) (by decide +kernel) ?_
  refine lv_aload_n hx hb dX11_keeps_81 rfl (lv_at hl 2 rfl) ?_
  refine va_get (D := D) (ci := 14) (v := .ref h1) (own := RX11) (C := RX11) (T := TX11) (N := 25) hx hb hts hi_X11 hown hK hP 0 rfl rfl 1 (by decide) (hts (.fieldLink RX11 13 "CanalMapsModel" "tried" "[I") (List.mem_of_getElem? (i := 4) (by decide +kernel))) (fun _ h9 => h9) rfl dX11_keeps_82 ?_
  refine lv_iload_n hx hb dX11_keeps_85 rfl (lv_at hl 0 rfl) ?_
  refine va_iald hx hb hK hP 1 0 rfl rfl (vin_ (by decide +kernel)) dX11_keeps_86 ?_
  refine kt_ (v := 0) (by decide +kernel) ?_
  refine ka_iast (g := (fun _ => 0)) hx hb hK hP hD hS 2 1 rfl rfl (vin_ (by decide +kernel)) (up_same (by decide +kernel)) dX11_keeps_87 (fun H locs hP hD hS => ?_)
  have hP : va_P D vwCl [(h0, .inr (14, [v0, .ref h1, v1, .ref h2, .int 0, v2, v3, v4, v5, v6, v7, v8, v9, v10, v11, v12, v13, v14, v15, v16, v17, v18, v19, v20, v21])), (h1, .inl (k1, 8277, .inl (fun _ => 0))), (h2, .inl (k2, 66216, .inl (fun _ => 0)))] H := hP
  have hD : va_D A [(h0, .inr (14, [v0, .ref h1, v1, .ref h2, .int 0, v2, v3, v4, v5, v6, v7, v8, v9, v10, v11, v12, v13, v14, v15, v16, v17, v18, v19, v20, v21])), (h1, .inl (k1, 8277, .inl (fun _ => 0))), (h2, .inl (k2, 66216, .inl (fun _ => 0)))] := hD
  refine lv_iinc (v := 34) (lv' := [(3, .int 34), (2, .int 85), (0, .ref h0), (1, .int 0)]) hx hb dX11_keeps_88 hl (k := 0) rfl (by decide +kernel) (by decide) rfl (fun ls hl => ?_)
  refine lv_goto (tgt := 62) hx hb dX11_keeps_91 (by decide) ?_
  refine lv_iload_n hx hb dX11_keeps_62 rfl (lv_at hl 0 rfl) ?_
  refine lv_iload_n hx hb dX11_keeps_63 rfl (lv_at hl 1 rfl) ?_
  refine lv_icmp_ge (tgt := 94) hx hb dX11_keeps_64 (by decide) (fun c9 => absurd c9 (by decide +kernel)) (fun _ => ?_)
  refine lv_aload_n hx hb dX11_keeps_67 rfl (lv_at hl 2 rfl) ?_
  refine va_get (D := D) (ci := 14) (v := .ref h2) (own := RX11) (C := RX11) (T := TX11) (N := 25) hx hb hts hi_X11 hown hK hP 0 rfl rfl 3 (by decide) (hts (.fieldLink RX11 20 "CanalMapsModel" "kept" "[I") (List.mem_of_getElem? (i := 3) (by decide +kernel))) (fun _ h9 => h9) rfl dX11_keeps_68 ?_
  refine lv_sipush (v := 8277) hx hb dX11_keeps_71 (by decide +kernel) ?_
  refine lv_aload_n hx hb dX11_keeps_74 rfl (lv_at hl 2 rfl) ?_
  refine va_get (D := D) (ci := 14) (v := .int 0) (own := RX11) (C := RX11) (T := TX11) (N := 25) hx hb hts hi_X11 hown hK hP 0 rfl rfl 4 (by decide) (hts (.fieldLink RX11 60 "CanalMapsModel" "undos" "I") (List.mem_of_getElem? (i := 1) (by decide +kernel))) (fun _ h9 => h9) rfl dX11_keeps_75 ?_
  refine lv_imul hx hb dX11_keeps_78 ?_
  refine kt_ (v := 0) (by decide +kernel) ?_
  refine lv_iload_n hx hb dX11_keeps_79 rfl (lv_at hl 0 rfl) ?_
  refine lv_iadd hx hb dX11_keeps_80 ?_
  refine kt_ (v := 34) (by decide +kernel) ?_
  refine lv_aload_n hx hb dX11_keeps_81 rfl (lv_at hl 2 rfl) ?_
  refine va_get (D := D) (ci := 14) (v := .ref h1) (own := RX11) (C := RX11) (T := TX11) (N := 25) hx hb hts hi_X11 hown hK hP 0 rfl rfl 1 (by decide) (hts (.fieldLink RX11 13 "CanalMapsModel" "tried" "[I") (List.mem_of_getElem? (i := 4) (by decide +kernel))) (fun _ h9 => h9) rfl dX11_keeps_82 ?_
  refine lv_iload_n hx hb dX11_keeps_85 rfl (lv_at hl 0 rfl) ?_
  refine va_iald hx hb hK hP 1 0 rfl rfl (vin_ (by decide +kernel)) dX11_keeps_86 ?_
  refine kt_ (v := 0) (by decide +kernel) ?_
  refine ka_iast (g := (fun _ => 0)) hx hb hK hP hD hS 2 1 rfl rfl (vin_ (by decide +kernel)) (up_same (by decide +kernel)) dX11_keeps_87 (fun H locs hP hD hS => ?_)
  have hP : va_P D vwCl [(h0, .inr (14, [v0, .ref h1, v1, .ref h2, .int 0, v2, v3, v4, v5, v6, v7, v8, v9, v10, v11, v12, v13, v14, v15, v16, v17, v18, v19, v20, v21])), (h1, .inl (k1, 8277, .inl (fun _ => 0))), (h2, .inl (k2, 66216, .inl (fun _ => 0)))] H := hP
  have hD : va_D A [(h0, .inr (14, [v0, .ref h1, v1, .ref h2, .int 0, v2, v3, v4, v5, v6, v7, v8, v9, v10, v11, v12, v13, v14, v15, v16, v17, v18, v19, v20, v21])), (h1, .inl (k1, 8277, .inl (fun _ => 0))), (h2, .inl (k2, 66216, .inl (fun _ => 0)))] := hD
  refine lv_iinc (v := 35) (lv' := [(3, .int 35), (2, .int 85), (0, .ref h0), (1, .int 0)]) hx hb dX11_keeps_88 hl (k := 0) rfl (by decide +kernel) (by decide) rfl (fun ls hl => ?_)
  refine lv_goto (tgt := 62) hx hb dX11_keeps_91 (by decide) ?_
  refine lv_iload_n hx hb dX11_keeps_62 rfl (lv_at hl 0 rfl) ?_
  refine lv_iload_n hx hb dX11_keeps_63 rfl (lv_at hl 1 rfl) ?_
  refine lv_icmp_ge (tgt := 94) hx hb dX11_keeps_64 (by decide) (fun c9 => absurd c9 (by decide +kernel)) (fun _ => ?_)
  refine lv_aload_n hx hb dX11_keeps_67 rfl (lv_at hl 2 rfl) ?_
  refine va_get (D := D) (ci := 14) (v := .ref h2) (own := RX11) (C := RX11) (T := TX11) (N := 25) hx hb hts hi_X11 hown hK hP 0 rfl rfl 3 (by decide) (hts (.fieldLink RX11 20 "CanalMapsModel" "kept" "[I") (List.mem_of_getElem? (i := 3) (by decide +kernel))) (fun _ h9 => h9) rfl dX11_keeps_68 ?_
  refine lv_sipush (v := 8277) hx hb dX11_keeps_71 (by decide +kernel) ?_
  refine lv_aload_n hx hb dX11_keeps_74 rfl (lv_at hl 2 rfl) ?_
  refine va_get (D := D) (ci := 14) (v := .int 0) (own := RX11) (C := RX11) (T := TX11) (N := 25) hx hb hts hi_X11 hown hK hP 0 rfl rfl 4 (by decide) (hts (.fieldLink RX11 60 "CanalMapsModel" "undos" "I") (List.mem_of_getElem? (i := 1) (by decide +kernel))) (fun _ h9 => h9) rfl dX11_keeps_75 ?_
  refine lv_imul hx hb dX11_keeps_78 ?_
  refine kt_ (v := 0) (by decide +kernel) ?_
  refine lv_iload_n hx hb dX11_keeps_79 rfl (lv_at hl 0 rfl) ?_
  refine lv_iadd hx hb dX11_keeps_80 ?_
  refine kt_ (v := 35) (by decide +kernel) ?_
  refine lv_aload_n hx hb dX11_keeps_81 rfl (lv_at hl 2 rfl) ?_
  refine va_get (D := D) (ci := 14) (v := .ref h1) (own := RX11) (C := RX11) (T := TX11) (N := 25) hx hb hts hi_X11 hown hK hP 0 rfl rfl 1 (by decide) (hts (.fieldLink RX11 13 "CanalMapsModel" "tried" "[I") (List.mem_of_getElem? (i := 4) (by decide +kernel))) (fun _ h9 => h9) rfl dX11_keeps_82 ?_
  refine lv_iload_n hx hb dX11_keeps_85 rfl (lv_at hl 0 rfl) ?_
  refine va_iald hx hb hK hP 1 0 rfl rfl (vin_ (by decide +kernel)) dX11_keeps_86 ?_
  refine kt_ (v := 0) (by decide +kernel) ?_
  refine ka_iast (g := (fun _ => 0)) hx hb hK hP hD hS 2 1 rfl rfl (vin_ (by decide +kernel)) (up_same (by decide +kernel)) dX11_keeps_87 (fun H locs hP hD hS => ?_)
  have hP : va_P D vwCl [(h0, .inr (14, [v0, .ref h1, v1, .ref h2, .int 0, v2, v3, v4, v5, v6, v7, v8, v9, v10, v11, v12, v13, v14, v15, v16, v17, v18, v19, v20, v21])), (h1, .inl (k1, 8277, .inl (fun _ => 0))), (h2, .inl (k2, 66216, .inl (fun _ => 0)))] H := hP
  have hD : va_D A [(h0, .inr (14, [v0, .ref h1, v1, .ref h2, .int 0, v2, v3, v4, v5, v6, v7, v8, v9, v10, v11, v12, v13, v14, v15, v16, v17, v18, v19, v20, v21])), (h1, .inl (k1, 8277, .inl (fun _ => 0))), (h2, .inl (k2, 66216, .inl (fun _ => 0)))] := hD
  refine lv_iinc (v := 36) (lv' := [(3, .int 36), (2, .int 85), (0, .ref h0), (1, .int 0)]) hx hb dX11_keeps_88 hl (k := 0) rfl (by decide +kernel) (by decide) rfl (fun ls hl => ?_)
  refine lv_goto (tgt := 62) hx hb dX11_keeps_91 (by decide) ?_
  refine lv_iload_n hx hb dX11_keeps_62 rfl (lv_at hl 0 rfl) ?_
  refine lv_iload_n hx hb dX11_keeps_63 rfl (lv_at hl 1 rfl) ?_
  refine lv_icmp_ge (tgt := 94) hx hb dX11_keeps_64 (by decide) (fun c9 => absurd c9 (by decide +kernel)) (fun _ => ?_)
  refine lv_aload_n hx hb dX11_keeps_67 rfl (lv_at hl 2 rfl) ?_
  refine va_get (D := D) (ci := 14) (v := .ref h2) (own := RX11) (C := RX11) (T := TX11) (N := 25) hx hb hts hi_X11 hown hK hP 0 rfl rfl 3 (by decide) (hts (.fieldLink RX11 20 "CanalMapsModel" "kept" "[I") (List.mem_of_getElem? (i := 3) (by decide +kernel))) (fun _ h9 => h9) rfl dX11_keeps_68 ?_
  refine lv_sipush (v := 8277) hx hb dX11_keeps_71 (by decide +kernel) ?_
  refine lv_aload_n hx hb dX11_keeps_74 rfl (lv_at hl 2 rfl) ?_
  refine va_get (D := D) (ci := 14) (v := .int 0) (own := RX11) (C := RX11) (T := TX11) (N := 25) hx hb hts hi_X11 hown hK hP 0 rfl rfl 4 (by decide) (hts (.fieldLink RX11 60 "CanalMapsModel" "undos" "I") (List.mem_of_getElem? (i := 1) (by decide +kernel))) (fun _ h9 => h9) rfl dX11_keeps_75 ?_
  refine lv_imul hx hb dX11_keeps_78 ?_
  refine kt_ (v := 0) (by decide +kernel) ?_
  refine lv_iload_n hx hb dX11_keeps_79 rfl (lv_at hl 0 rfl) ?_
  refine lv_iadd hx hb dX11_keeps_80 ?_
  refine kt_ (v := 36) (by decide +kernel) ?_
  refine lv_aload_n hx hb dX11_keeps_81 rfl (lv_at hl 2 rfl) ?_
  refine va_get (D := D) (ci := 14) (v := .ref h1) (own := RX11) (C := RX11) (T := TX11) (N := 25) hx hb hts hi_X11 hown hK hP 0 rfl rfl 1 (by decide) (hts (.fieldLink RX11 13 "CanalMapsModel" "tried" "[I") (List.mem_of_getElem? (i := 4) (by decide +kernel))) (fun _ h9 => h9) rfl dX11_keeps_82 ?_
  refine lv_iload_n hx hb dX11_keeps_85 rfl (lv_at hl 0 rfl) ?_
  refine va_iald hx hb hK hP 1 0 rfl rfl (vin_ (by decide +kernel)) dX11_keeps_86 ?_
  refine kt_ (v := 0) (by decide +kernel) ?_
  refine ka_iast (g := (fun _ => 0)) hx hb hK hP hD hS 2 1 rfl rfl (vin_ (by decide +kernel)) (up_same (by decide +kernel)) dX11_keeps_87 (fun H locs hP hD hS => ?_)
  have hP : va_P D vwCl [(h0, .inr (14, [v0, .ref h1, v1, .ref h2, .int 0, v2, v3, v4, v5, v6, v7, v8, v9, v10, v11, v12, v13, v14, v15, v16, v17, v18, v19, v20, v21])), (h1, .inl (k1, 8277, .inl (fun _ => 0))), (h2, .inl (k2, 66216, .inl (fun _ => 0)))] H := hP
  have hD : va_D A [(h0, .inr (14, [v0, .ref h1, v1, .ref h2, .int 0, v2, v3, v4, v5, v6, v7, v8, v9, v10, v11, v12, v13, v14, v15, v16, v17, v18, v19, v20, v21])), (h1, .inl (k1, 8277, .inl (fun _ => 0))), (h2, .inl (k2, 66216, .inl (fun _ => 0)))] := hD
  refine lv_iinc (v := 37) (lv' := [(3, .int 37), (2, .int 85), (0, .ref h0), (1, .int 0)]) hx hb dX11_keeps_88 hl (k := 0) rfl (by decide +kernel) (by decide) rfl (fun ls hl => ?_)
  refine lv_goto (tgt := 62) hx hb dX11_keeps_91 (by decide) ?_
  refine lv_iload_n hx hb dX11_keeps_62 rfl (lv_at hl 0 rfl) ?_
  refine lv_iload_n hx hb dX11_keeps_63 rfl (lv_at hl 1 rfl) ?_
  refine lv_icmp_ge (tgt := 94) hx hb dX11_keeps_64 (by decide) (fun c9 => absurd c9 (by decide +kernel)) (fun _ => ?_)
  refine lv_aload_n hx hb dX11_keeps_67 rfl (lv_at hl 2 rfl) ?_
  refine va_get (D := D) (ci := 14) (v := .ref h2) (own := RX11) (C := RX11) (T := TX11) (N := 25) hx hb hts hi_X11 hown hK hP 0 rfl rfl 3 (by decide) (hts (.fieldLink RX11 20 "CanalMapsModel" "kept" "[I") (List.mem_of_getElem? (i := 3) (by decide +kernel))) (fun _ h9 => h9) rfl dX11_keeps_68 ?_
  refine lv_sipush (v := 8277) hx hb dX11_keeps_71 (by decide +kernel) ?_
  refine lv_aload_n hx hb dX11_keeps_74 rfl (lv_at hl 2 rfl) ?_
  refine va_get (D := D) (ci := 14) (v := .int 0) (own := RX11) (C := RX11) (T := TX11) (N := 25) hx hb hts hi_X11 hown hK hP 0 rfl rfl 4 (by decide) (hts (.fieldLink RX11 60 "CanalMapsModel" "undos" "I") (List.mem_of_getElem? (i := 1) (by decide +kernel))) (fun _ h9 => h9) rfl dX11_keeps_75 ?_
  refine lv_imul hx hb dX11_keeps_78 ?_
  refine kt_ (v := 0) (by decide +kernel) ?_
  refine lv_iload_n hx hb dX11_keeps_79 rfl (lv_at hl 0 rfl) ?_
  refine lv_iadd hx hb dX11_keeps_80 ?_
  refine kt_ (v := 37) (by decide +kernel) ?_
  refine lv_aload_n hx hb dX11_keeps_81 rfl (lv_at hl 2 rfl) ?_
  refine va_get (D := D) (ci := 14) (v := .ref h1) (own := RX11) (C := RX11) (T := TX11) (N := 25) hx hb hts hi_X11 hown hK hP 0 rfl rfl 1 (by decide) (hts (.fieldLink RX11 13 "CanalMapsModel" "tried" "[I") (List.mem_of_getElem? (i := 4) (by decide +kernel))) (fun _ h9 => h9) rfl dX11_keeps_82 ?_
  refine lv_iload_n hx hb dX11_keeps_85 rfl (lv_at hl 0 rfl) ?_
  refine va_iald hx hb hK hP 1 0 rfl rfl (vin_ (by decide +kernel)) dX11_keeps_86 ?_
  refine kt_ (v := 0) (by decide +kernel) ?_
  refine ka_iast (g := (fun _ => 0)) hx hb hK hP hD hS 2 1 rfl rfl (vin_ (by decide +kernel)) (up_same (by decide +kernel)) dX11_keeps_87 (fun H locs hP hD hS => ?_)
  have hP : va_P D vwCl [(h0, .inr (14, [v0, .ref h1, v1, .ref h2, .int 0, v2, v3, v4, v5, v6, v7, v8, v9, v10, v11, v12, v13, v14, v15, v16, v17, v18, v19, v20, v21])), (h1, .inl (k1, 8277, .inl (fun _ => 0))), (h2, .inl (k2, 66216, .inl (fun _ => 0)))] H := hP
  have hD : va_D A [(h0, .inr (14, [v0, .ref h1, v1, .ref h2, .int 0, v2, v3, v4, v5, v6, v7, v8, v9, v10, v11, v12, v13, v14, v15, v16, v17, v18, v19, v20, v21])), (h1, .inl (k1, 8277, .inl (fun _ => 0))), (h2, .inl (k2, 66216, .inl (fun _ => 0)))] := hD
  refine lv_iinc (v := 38) (lv' := [(3, .int 38), (2, .int 85), (0, .ref h0), (1, .int 0)]) hx hb dX11_keeps_88 hl (k := 0) rfl (by decide +kernel) (by decide) rfl (fun ls hl => ?_)
  refine lv_goto (tgt := 62) hx hb dX11_keeps_91 (by decide) ?_
  refine lv_iload_n hx hb dX11_keeps_62 rfl (lv_at hl 0 rfl) ?_
  refine lv_iload_n hx hb dX11_keeps_63 rfl (lv_at hl 1 rfl) ?_
  refine lv_icmp_ge (tgt := 94) hx hb dX11_keeps_64 (by decide) (fun c9 => absurd c9 (by decide +kernel)) (fun _ => ?_)
  refine lv_aload_n hx hb dX11_keeps_67 rfl (lv_at hl 2 rfl) ?_
  refine va_get (D := D) (ci := 14) (v := .ref h2) (own := RX11) (C := RX11) (T := TX11) (N := 25) hx hb hts hi_X11 hown hK hP 0 rfl rfl 3 (by decide) (hts (.fieldLink RX11 20 "CanalMapsModel" "kept" "[I") (List.mem_of_getElem? (i := 3) (by decide +kernel))) (fun _ h9 => h9) rfl dX11_keeps_68 ?_
  refine lv_sipush (v := 8277) hx hb dX11_keeps_71 (by decide +kernel) ?_
  refine lv_aload_n hx hb dX11_keeps_74 rfl (lv_at hl 2 rfl) ?_
  refine va_get (D := D) (ci := 14) (v := .int 0) (own := RX11) (C := RX11) (T := TX11) (N := 25) hx hb hts hi_X11 hown hK hP 0 rfl rfl 4 (by decide) (hts (.fieldLink RX11 60 "CanalMapsModel" "undos" "I") (List.mem_of_getElem? (i := 1) (by decide +kernel))) (fun _ h9 => h9) rfl dX11_keeps_75 ?_
  refine lv_imul hx hb dX11_keeps_78 ?_
  refine kt_ (v := 0) (by decide +kernel) ?_
  refine lv_iload_n hx hb dX11_keeps_79 rfl (lv_at hl 0 rfl) ?_
  refine lv_iadd hx hb dX11_keeps_80 ?_
  refine kt_ (v := 38) (by decide +kernel) ?_
  refine lv_aload_n hx hb dX11_keeps_81 rfl (lv_at hl 2 rfl) ?_
  refine va_get (D := D) (ci := 14) (v := .ref h1) (own := RX11) (C := RX11) (T := TX11) (N := 25) hx hb hts hi_X11 hown hK hP 0 rfl rfl 1 (by decide) (hts (.fieldLink RX11 13 "CanalMapsModel" "tried" "[I") (List.mem_of_getElem? (i := 4) (by decide +kernel))) (fun _ h9 => h9) rfl dX11_keeps_82 ?_
  refine lv_iload_n hx hb dX11_keeps_85 rfl (lv_at hl 0 rfl) ?_
  refine va_iald hx hb hK hP 1 0 rfl rfl (vin_ (by decide +kernel)) dX11_keeps_86 ?_
  refine kt_ (v := 0) (by decide +kernel) ?_
  refine ka_iast (g := (fun _ => 0)) hx hb hK hP hD hS 2 1 rfl rfl (vin_ (by decide +kernel)) (up_same (by decide +kernel)) dX11_keeps_87 (fun H locs hP hD hS => ?_)
  have hP : va_P D vwCl [(h0, .inr (14, [v0, .ref h1, v1, .ref h2, .int 0, v2, v3, v4, v5, v6, v7, v8, v9, v10, v11, v12, v13, v14, v15, v16, v17, v18, v19, v20, v21])), (h1, .inl (k1, 8277, .inl (fun _ => 0))), (h2, .inl (k2, 66216, .inl (fun _ => 0)))] H := hP
  have hD : va_D A [(h0, .inr (14, [v0, .ref h1, v1, .ref h2, .int 0, v2, v3, v4, v5, v6, v7, v8, v9, v10, v11, v12, v13, v14, v15, v16, v17, v18, v19, v20, v21])), (h1, .inl (k1, 8277, .inl (fun _ => 0))), (h2, .inl (k2, 66216, .inl (fun _ => 0)))] := hD
  refine lv_iinc (v := 39) (lv' := [(3, .int 39), (2, .int 85), (0, .ref h0), (1, .int 0)]) hx hb dX11_keeps_88 hl (k := 0) rfl (by decide +kernel) (by decide) rfl (fun ls hl => ?_)
  refine lv_goto (tgt := 62) hx hb dX11_keeps_91 (by decide) ?_
  refine lv_iload_n hx hb dX11_keeps_62 rfl (lv_at hl 0 rfl) ?_
  refine lv_iload_n hx hb dX11_keeps_63 rfl (lv_at hl 1 rfl) ?_
  refine lv_icmp_ge (tgt := 94) hx hb dX11_keeps_64 (by decide) (fun c9 => absurd c9 (by decide +kernel)) (fun _ => ?_)
  refine lv_aload_n hx hb dX11_keeps_67 rfl (lv_at hl 2 rfl) ?_
  refine va_get (D := D) (ci := 14) (v := .ref h2) (own := RX11) (C := RX11) (T := TX11) (N := 25) hx hb hts hi_X11 hown hK hP 0 rfl rfl 3 (by decide) (hts (.fieldLink RX11 20 "CanalMapsModel" "kept" "[I") (List.mem_of_getElem? (i := 3) (by decide +kernel))) (fun _ h9 => h9) rfl dX11_keeps_68 ?_
  refine lv_sipush (v := 8277) hx hb dX11_keeps_71 (by decide +kernel) ?_
  refine lv_aload_n hx hb dX11_keeps_74 rfl (lv_at hl 2 rfl) ?_
  refine va_get (D := D) (ci := 14) (v := .int 0) (own := RX11) (C := RX11) (T := TX11) (N := 25) hx hb hts hi_X11 hown hK hP 0 rfl rfl 4 (by decide) (hts (.fieldLink RX11 60 "CanalMapsModel" "undos" "I") (List.mem_of_getElem? (i := 1) (by decide +kernel))) (fun _ h9 => h9) rfl dX11_keeps_75 ?_
  refine lv_imul hx hb dX11_keeps_78 ?_
  refine kt_ (v := 0) (by decide +kernel) ?_
  refine lv_iload_n hx hb dX11_keeps_79 rfl (lv_at hl 0 rfl) ?_
  refine lv_iadd hx hb dX11_keeps_80 ?_
  refine kt_ (v := 39) (by decide +kernel) ?_
  refine lv_aload_n hx hb dX11_keeps_81 rfl (lv_at hl 2 rfl) ?_
  refine va_get (D := D) (ci := 14) (v := .ref h1) (own := RX11) (C := RX11) (T := TX11) (N := 25) hx hb hts hi_X11 hown hK hP 0 rfl rfl 1 (by decide) (hts (.fieldLink RX11 13 "CanalMapsModel" "tried" "[I") (List.mem_of_getElem? (i := 4) (by decide +kernel))) (fun _ h9 => h9) rfl dX11_keeps_82 ?_
  refine lv_iload_n hx hb dX11_keeps_85 rfl (lv_at hl 0 rfl) ?_
  refine va_iald hx hb hK hP 1 0 rfl rfl (vin_ (by decide +kernel)) dX11_keeps_86 ?_
  refine kt_ (v := 0) (by decide +kernel) ?_
  refine ka_iast (g := (fun _ => 0)) hx hb hK hP hD hS 2 1 rfl rfl (vin_ (by decide +kernel)) (up_same (by decide +kernel)) dX11_keeps_87 (fun H locs hP hD hS => ?_)
  have hP : va_P D vwCl [(h0, .inr (14, [v0, .ref h1, v1, .ref h2, .int 0, v2, v3, v4, v5, v6, v7, v8, v9, v10, v11, v12, v13, v14, v15, v16, v17, v18, v19, v20, v21])), (h1, .inl (k1, 8277, .inl (fun _ => 0))), (h2, .inl (k2, 66216, .inl (fun _ => 0)))] H := hP
  have hD : va_D A [(h0, .inr (14, [v0, .ref h1, v1, .ref h2, .int 0, v2, v3, v4, v5, v6, v7, v8, v9, v10, v11, v12, v13, v14, v15, v16, v17, v18, v19, v20, v21])), (h1, .inl (k1, 8277, .inl (fun _ => 0))), (h2, .inl (k2, 66216, .inl (fun _ => 0)))] := hD
  refine lv_iinc (v := 40) (lv' := [(3, .int 40), (2, .int 85), (0, .ref h0), (1, .int 0)]) hx hb dX11_keeps_88 hl (k := 0) rfl (by decide +kernel) (by decide) rfl (fun ls hl => ?_)
  refine lv_goto (tgt := 62) hx hb dX11_keeps_91 (by decide) ?_
  refine lv_iload_n hx hb dX11_keeps_62 rfl (lv_at hl 0 rfl) ?_
  refine lv_iload_n hx hb dX11_keeps_63 rfl (lv_at hl 1 rfl) ?_
  refine lv_icmp_ge (tgt := 94) hx hb dX11_keeps_64 (by decide) (fun c9 => absurd c9 (by decide +kernel)) (fun _ => ?_)
  refine lv_aload_n hx hb dX11_keeps_67 rfl (lv_at hl 2 rfl) ?_
  refine va_get (D := D) (ci := 14) (v := .ref h2) (own := RX11) (C := RX11) (T := TX11) (N := 25) hx hb hts hi_X11 hown hK hP 0 rfl rfl 3 (by decide) (hts (.fieldLink RX11 20 "CanalMapsModel" "kept" "[I") (List.mem_of_getElem? (i := 3) (by decide +kernel))) (fun _ h9 => h9) rfl dX11_keeps_68 ?_
  refine lv_sipush (v := 8277) hx hb dX11_keeps_71 (by decide +kernel) ?_
  refine lv_aload_n hx hb dX11_keeps_74 rfl (lv_at hl 2 rfl) ?_
  refine va_get (D := D) (ci := 14) (v := .int 0) (own := RX11) (C := RX11) (T := TX11) (N := 25) hx hb hts hi_X11 hown hK hP 0 rfl rfl 4 (by decide) (hts (.fieldLink RX11 60 "CanalMapsModel" "undos" "I") (List.mem_of_getElem? (i := 1) (by decide +kernel))) (fun _ h9 => h9) rfl dX11_keeps_75 ?_
  refine lv_imul hx hb dX11_keeps_78 ?_
  refine kt_ (v := 0) (by decide +kernel) ?_
  refine lv_iload_n hx hb dX11_keeps_79 rfl (lv_at hl 0 rfl) ?_
  refine lv_iadd hx hb dX11_keeps_80 ?_
  refine kt_ (v := 40) (by decide +kernel) ?_
  refine lv_aload_n hx hb dX11_keeps_81 rfl (lv_at hl 2 rfl) ?_
  refine va_get (D := D) (ci := 14) (v := .ref h1) (own := RX11) (C := RX11) (T := TX11) (N := 25) hx hb hts hi_X11 hown hK hP 0 rfl rfl 1 (by decide) (hts (.fieldLink RX11 13 "CanalMapsModel" "tried" "[I") (List.mem_of_getElem? (i := 4) (by decide +kernel))) (fun _ h9 => h9) rfl dX11_keeps_82 ?_
  refine lv_iload_n hx hb dX11_keeps_85 rfl (lv_at hl 0 rfl) ?_
  refine va_iald hx hb hK hP 1 0 rfl rfl (vin_ (by decide +kernel)) dX11_keeps_86 ?_
  refine kt_ (v := 0) (by decide +kernel) ?_
  refine ka_iast (g := (fun _ => 0)) hx hb hK hP hD hS 2 1 rfl rfl (vin_ (by decide +kernel)) (up_same (by decide +kernel)) dX11_keeps_87 (fun H locs hP hD hS => ?_)
  have hP : va_P D vwCl [(h0, .inr (14, [v0, .ref h1, v1, .ref h2, .int 0, v2, v3, v4, v5, v6, v7, v8, v9, v10, v11, v12, v13, v14, v15, v16, v17, v18, v19, v20, v21])), (h1, .inl (k1, 8277, .inl (fun _ => 0))), (h2, .inl (k2, 66216, .inl (fun _ => 0)))] H := hP
  have hD : va_D A [(h0, .inr (14, [v0, .ref h1, v1, .ref h2, .int 0, v2, v3, v4, v5, v6, v7, v8, v9, v10, v11, v12, v13, v14, v15, v16, v17, v18, v19, v20, v21])), (h1, .inl (k1, 8277, .inl (fun _ => 0))), (h2, .inl (k2, 66216, .inl (fun _ => 0)))] := hD
  refine lv_iinc (v := 41) (lv' := [(3, .int 41), (2, .int 85), (0, .ref h0), (1, .int 0)]) hx hb dX11_keeps_88 hl (k := 0) rfl (by decide +kernel) (by decide) rfl (fun ls hl => ?_)
  refine lv_goto (tgt := 62) hx hb dX11_keeps_91 (by decide) ?_
  refine lv_iload_n hx hb dX11_keeps_62 rfl (lv_at hl 0 rfl) ?_
  refine lv_iload_n hx hb dX11_keeps_63 rfl (lv_at hl 1 rfl) ?_
  refine lv_icmp_ge (tgt := 94) hx hb dX11_keeps_64 (by decide) (fun c9 => absurd c9 (by decide +kernel)) (fun _ => ?_)
  refine lv_aload_n hx hb dX11_keeps_67 rfl (lv_at hl 2 rfl) ?_
  refine va_get (D := D) (ci := 14) (v := .ref h2) (own := RX11) (C := RX11) (T := TX11) (N := 25) hx hb hts hi_X11 hown hK hP 0 rfl rfl 3 (by decide) (hts (.fieldLink RX11 20 "CanalMapsModel" "kept" "[I") (List.mem_of_getElem? (i := 3) (by decide +kernel))) (fun _ h9 => h9) rfl dX11_keeps_68 ?_
  refine lv_sipush (v := 8277) hx hb dX11_keeps_71 (by decide +kernel) ?_
  refine lv_aload_n hx hb dX11_keeps_74 rfl (lv_at hl 2 rfl) ?_
  refine va_get (D := D) (ci := 14) (v := .int 0) (own := RX11) (C := RX11) (T := TX11) (N := 25) hx hb hts hi_X11 hown hK hP 0 rfl rfl 4 (by decide) (hts (.fieldLink RX11 60 "CanalMapsModel" "undos" "I") (List.mem_of_getElem? (i := 1) (by decide +kernel))) (fun _ h9 => h9) rfl dX11_keeps_75 ?_
  refine lv_imul hx hb dX11_keeps_78 ?_
  refine kt_ (v := 0) (by decide +kernel) ?_
  refine lv_iload_n hx hb dX11_keeps_79 rfl (lv_at hl 0 rfl) ?_
  refine lv_iadd hx hb dX11_keeps_80 ?_
  refine kt_ (v := 41) (by decide +kernel) ?_
  refine lv_aload_n hx hb dX11_keeps_81 rfl (lv_at hl 2 rfl) ?_
  refine va_get (D := D) (ci := 14) (v := .ref h1) (own := RX11) (C := RX11) (T := TX11) (N := 25) hx hb hts hi_X11 hown hK hP 0 rfl rfl 1 (by decide) (hts (.fieldLink RX11 13 "CanalMapsModel" "tried" "[I") (List.mem_of_getElem? (i := 4) (by decide +kernel))) (fun _ h9 => h9) rfl dX11_keeps_82 ?_
  refine lv_iload_n hx hb dX11_keeps_85 rfl (lv_at hl 0 rfl) ?_
  refine va_iald hx hb hK hP 1 0 rfl rfl (vin_ (by decide +kernel)) dX11_keeps_86 ?_
  refine kt_ (v := 0) (by decide +kernel) ?_
  refine ka_iast (g := (fun _ => 0)) hx hb hK hP hD hS 2 1 rfl rfl (vin_ (by decide +kernel)) (up_same (by decide +kernel)) dX11_keeps_87 (fun H locs hP hD hS => ?_)
  have hP : va_P D vwCl [(h0, .inr (14, [v0, .ref h1, v1, .ref h2, .int 0, v2, v3, v4, v5, v6, v7, v8, v9, v10, v11, v12, v13, v14, v15, v16, v17, v18, v19, v20, v21])), (h1, .inl (k1, 8277, .inl (fun _ => 0))), (h2, .inl (k2, 66216, .inl (fun _ => 0)))] H := hP
  have hD : va_D A [(h0, .inr (14, [v0, .ref h1, v1, .ref h2, .int 0, v2, v3, v4, v5, v6, v7, v8, v9, v10, v11, v12, v13, v14, v15, v16, v17, v18, v19, v20, v21])), (h1, .inl (k1, 8277, .inl (fun _ => 0))), (h2, .inl (k2, 66216, .inl (fun _ => 0)))] := hD
  refine lv_iinc (v := 42) (lv' := [(3, .int 42), (2, .int 85), (0, .ref h0), (1, .int 0)]) hx hb dX11_keeps_88 hl (k := 0) rfl (by decide +kernel) (by decide) rfl (fun ls hl => ?_)
  refine lv_goto (tgt := 62) hx hb dX11_keeps_91 (by decide) ?_
  refine lv_iload_n hx hb dX11_keeps_62 rfl (lv_at hl 0 rfl) ?_
  refine lv_iload_n hx hb dX11_keeps_63 rfl (lv_at hl 1 rfl) ?_
  refine lv_icmp_ge (tgt := 94) hx hb dX11_keeps_64 (by decide) (fun c9 => absurd c9 (by decide +kernel)) (fun _ => ?_)
  refine lv_aload_n hx hb dX11_keeps_67 rfl (lv_at hl 2 rfl) ?_
  refine va_get (D := D) (ci := 14) (v := .ref h2) (own := RX11) (C := RX11) (T := TX11) (N := 25) hx hb hts hi_X11 hown hK hP 0 rfl rfl 3 (by decide) (hts (.fieldLink RX11 20 "CanalMapsModel" "kept" "[I") (List.mem_of_getElem? (i := 3) (by decide +kernel))) (fun _ h9 => h9) rfl dX11_keeps_68 ?_
  refine lv_sipush (v := 8277) hx hb dX11_keeps_71 (by decide +kernel) ?_
  refine lv_aload_n hx hb dX11_keeps_74 rfl (lv_at hl 2 rfl) ?_
  refine va_get (D := D) (ci := 14) (v := .int 0) (own := RX11) (C := RX11) (T := TX11) (N := 25) hx hb hts hi_X11 hown hK hP 0 rfl rfl 4 (by decide) (hts (.fieldLink RX11 60 "CanalMapsModel" "undos" "I") (List.mem_of_getElem? (i := 1) (by decide +kernel))) (fun _ h9 => h9) rfl dX11_keeps_75 ?_
  refine lv_imul hx hb dX11_keeps_78 ?_
  refine kt_ (v := 0) (by decide +kernel) ?_
  refine lv_iload_n hx hb dX11_keeps_79 rfl (lv_at hl 0 rfl) ?_
  refine lv_iadd hx hb dX11_keeps_80 ?_
  refine kt_ (v := 42) (by decide +kernel) ?_
  refine lv_aload_n hx hb dX11_keeps_81 rfl (lv_at hl 2 rfl) ?_
  refine va_get (D := D) (ci := 14) (v := .ref h1) (own := RX11) (C := RX11) (T := TX11) (N := 25) hx hb hts hi_X11 hown hK hP 0 rfl rfl 1 (by decide) (hts (.fieldLink RX11 13 "CanalMapsModel" "tried" "[I") (List.mem_of_getElem? (i := 4) (by decide +kernel))) (fun _ h9 => h9) rfl dX11_keeps_82 ?_
  refine lv_iload_n hx hb dX11_keeps_85 rfl (lv_at hl 0 rfl) ?_
  refine va_iald hx hb hK hP 1 0 rfl rfl (vin_ (by decide +kernel)) dX11_keeps_86 ?_
  refine kt_ (v := 0) (by decide +kernel) ?_
  refine ka_iast (g := (fun _ => 0)) hx hb hK hP hD hS 2 1 rfl rfl (vin_ (by decide +kernel)) (up_same (by decide +kernel)) dX11_keeps_87 (fun H locs hP hD hS => ?_)
  have hP : va_P D vwCl [(h0, .inr (14, [v0, .ref h1, v1, .ref h2, .int 0, v2, v3, v4, v5, v6, v7, v8, v9, v10, v11, v12, v13, v14, v15, v16, v17, v18, v19, v20, v21])), (h1, .inl (k1, 8277, .inl (fun _ => 0))), (h2, .inl (k2, 66216, .inl (fun _ => 0)))] H := hP
  have hD : va_D A [(h0, .inr (14, [v0, .ref h1, v1, .ref h2, .int 0, v2, v3, v4, v5, v6, v7, v8, v9, v10, v11, v12, v13, v14, v15, v16, v17, v18, v19, v20, v21])), (h1, .inl (k1, 8277, .inl (fun _ => 0))), (h2, .inl (k2, 66216, .inl (fun _ => 0)))] := hD
  refine lv_iinc (v := 43) (lv' := [(3, .int 43), (2, .int 85), (0, .ref h0), (1, .int 0)]) hx hb dX11_keeps_88 hl (k := 0) rfl (by decide +kernel) (by decide) rfl (fun ls hl => ?_)
  refine lv_goto (tgt := 62) hx hb dX11_keeps_91 (by decide) ?_
  refine lv_iload_n hx hb dX11_keeps_62 rfl (lv_at hl 0 rfl) ?_
  refine lv_iload_n hx hb dX11_keeps_63 rfl (lv_at hl 1 rfl) ?_
  refine lv_icmp_ge (tgt := 94) hx hb dX11_keeps_64 (by decide) (fun c9 => absurd c9 (by decide +kernel)) (fun _ => ?_)
  refine lv_aload_n hx hb dX11_keeps_67 rfl (lv_at hl 2 rfl) ?_
  refine va_get (D := D) (ci := 14) (v := .ref h2) (own := RX11) (C := RX11) (T := TX11) (N := 25) hx hb hts hi_X11 hown hK hP 0 rfl rfl 3 (by decide) (hts (.fieldLink RX11 20 "CanalMapsModel" "kept" "[I") (List.mem_of_getElem? (i := 3) (by decide +kernel))) (fun _ h9 => h9) rfl dX11_keeps_68 ?_
  refine lv_sipush (v := 8277) hx hb dX11_keeps_71 (by decide +kernel) ?_
  refine lv_aload_n hx hb dX11_keeps_74 rfl (lv_at hl 2 rfl) ?_
  refine va_get (D := D) (ci := 14) (v := .int 0) (own := RX11) (C := RX11) (T := TX11) (N := 25) hx hb hts hi_X11 hown hK hP 0 rfl rfl 4 (by decide) (hts (.fieldLink RX11 60 "CanalMapsModel" "undos" "I") (List.mem_of_getElem? (i := 1) (by decide +kernel))) (fun _ h9 => h9) rfl dX11_keeps_75 ?_
  refine lv_imul hx hb dX11_keeps_78 ?_
  refine kt_ (v := 0) (by decide +kernel) ?_
  refine lv_iload_n hx hb dX11_keeps_79 rfl (lv_at hl 0 rfl) ?_
  refine lv_iadd hx hb dX11_keeps_80 ?_
  refine kt_ (v := 43) (by decide +kernel) ?_
  refine lv_aload_n hx hb dX11_keeps_81 rfl (lv_at hl 2 rfl) ?_
  refine va_get (D := D) (ci := 14) (v := .ref h1) (own := RX11) (C := RX11) (T := TX11) (N := 25) hx hb hts hi_X11 hown hK hP 0 rfl rfl 1 (by decide) (hts (.fieldLink RX11 13 "CanalMapsModel" "tried" "[I") (List.mem_of_getElem? (i := 4) (by decide +kernel))) (fun _ h9 => h9) rfl dX11_keeps_82 ?_
  refine lv_iload_n hx hb dX11_keeps_85 rfl (lv_at hl 0 rfl) ?_
  refine va_iald hx hb hK hP 1 0 rfl rfl (vin_ (by decide +kernel)) dX11_keeps_86 ?_
  refine kt_ (v := 0) (by decide +kernel) ?_
  refine ka_iast (g := (fun _ => 0)) hx hb hK hP hD hS 2 1 rfl rfl (vin_ (by decide +kernel)) (up_same (by decide +kernel)) dX11_keeps_87 (fun H locs hP hD hS => ?_)
  have hP : va_P D vwCl [(h0, .inr (14, [v0, .ref h1, v1, .ref h2, .int 0, v2, v3, v4, v5, v6, v7, v8, v9, v10, v11, v12, v13, v14, v15, v16, v17, v18, v19, v20, v21])), (h1, .inl (k1, 8277, .inl (fun _ => 0))), (h2, .inl (k2, 66216, .inl (fun _ => 0)))] H := hP
  have hD : va_D A [(h0, .inr (14, [v0, .ref h1, v1, .ref h2, .int 0, v2, v3, v4, v5, v6, v7, v8, v9, v10, v11, v12, v13, v14, v15, v16, v17, v18, v19, v20, v21])), (h1, .inl (k1, 8277, .inl (fun _ => 0))), (h2, .inl (k2, 66216, .inl (fun _ => 0)))] := hD
  refine lv_iinc (v := 44) (lv' := [(3, .int 44), (2, .int 85), (0, .ref h0), (1, .int 0)]) hx hb dX11_keeps_88 hl (k := 0) rfl (by decide +kernel) (by decide) rfl (fun ls hl => ?_)
  refine lv_goto (tgt := 62) hx hb dX11_keeps_91 (by decide) ?_
  refine lv_iload_n hx hb dX11_keeps_62 rfl (lv_at hl 0 rfl) ?_
  refine lv_iload_n hx hb dX11_keeps_63 rfl (lv_at hl 1 rfl) ?_
  refine lv_icmp_ge (tgt := 94) hx hb dX11_keeps_64 (by decide) (fun c9 => absurd c9 (by decide +kernel)) (fun _ => ?_)
  refine lv_aload_n hx hb dX11_keeps_67 rfl (lv_at hl 2 rfl) ?_
  refine va_get (D := D) (ci := 14) (v := .ref h2) (own := RX11) (C := RX11) (T := TX11) (N := 25) hx hb hts hi_X11 hown hK hP 0 rfl rfl 3 (by decide) (hts (.fieldLink RX11 20 "CanalMapsModel" "kept" "[I") (List.mem_of_getElem? (i := 3) (by decide +kernel))) (fun _ h9 => h9) rfl dX11_keeps_68 ?_
  refine lv_sipush (v := 8277) hx hb dX11_keeps_71 (by decide +kernel) ?_
  refine lv_aload_n hx hb dX11_keeps_74 rfl (lv_at hl 2 rfl) ?_
  refine va_get (D := D) (ci := 14) (v := .int 0) (own := RX11) (C := RX11) (T := TX11) (N := 25) hx hb hts hi_X11 hown hK hP 0 rfl rfl 4 (by decide) (hts (.fieldLink RX11 60 "CanalMapsModel" "undos" "I") (List.mem_of_getElem? (i := 1) (by decide +kernel))) (fun _ h9 => h9) rfl dX11_keeps_75 ?_
  refine lv_imul hx hb dX11_keeps_78 ?_
  refine kt_ (v := 0) (by decide +kernel) ?_
  refine lv_iload_n hx hb dX11_keeps_79 rfl (lv_at hl 0 rfl) ?_
  refine lv_iadd hx hb dX11_keeps_80 ?_
  refine kt_ (v := 44) (by decide +kernel) ?_
  refine lv_aload_n hx hb dX11_keeps_81 rfl (lv_at hl 2 rfl) ?_
  refine va_get (D := D) (ci := 14) (v := .ref h1) (own := RX11) (C := RX11) (T := TX11) (N := 25) hx hb hts hi_X11 hown hK hP 0 rfl rfl 1 (by decide) (hts (.fieldLink RX11 13 "CanalMapsModel" "tried" "[I") (List.mem_of_getElem? (i := 4) (by decide +kernel))) (fun _ h9 => h9) rfl dX11_keeps_82 ?_
  refine lv_iload_n hx hb dX11_keeps_85 rfl (lv_at hl 0 rfl) ?_
  refine va_iald hx hb hK hP 1 0 rfl rfl (vin_ (by decide +kernel)) dX11_keeps_86 ?_
  refine kt_ (v := 0) (by decide +kernel) ?_
  refine ka_iast (g := (fun _ => 0)) hx hb hK hP hD hS 2 1 rfl rfl (vin_ (by decide +kernel)) (up_same (by decide +kernel)) dX11_keeps_87 (fun H locs hP hD hS => ?_)
  have hP : va_P D vwCl [(h0, .inr (14, [v0, .ref h1, v1, .ref h2, .int 0, v2, v3, v4, v5, v6, v7, v8, v9, v10, v11, v12, v13, v14, v15, v16, v17, v18, v19, v20, v21])), (h1, .inl (k1, 8277, .inl (fun _ => 0))), (h2, .inl (k2, 66216, .inl (fun _ => 0)))] H := hP
  have hD : va_D A [(h0, .inr (14, [v0, .ref h1, v1, .ref h2, .int 0, v2, v3, v4, v5, v6, v7, v8, v9, v10, v11, v12, v13, v14, v15, v16, v17, v18, v19, v20, v21])), (h1, .inl (k1, 8277, .inl (fun _ => 0))), (h2, .inl (k2, 66216, .inl (fun _ => 0)))] := hD
  refine lv_iinc (v := 45) (lv' := [(3, .int 45), (2, .int 85), (0, .ref h0), (1, .int 0)]) hx hb dX11_keeps_88 hl (k := 0) rfl (by decide +kernel) (by decide) rfl (fun ls hl => ?_)
  refine lv_goto (tgt := 62) hx hb dX11_keeps_91 (by decide) ?_
  refine lv_iload_n hx hb dX11_keeps_62 rfl (lv_at hl 0 rfl) ?_
  refine lv_iload_n hx hb dX11_keeps_63 rfl (lv_at hl 1 rfl) ?_
  refine lv_icmp_ge (tgt := 94) hx hb dX11_keeps_64 (by decide) (fun c9 => absurd c9 (by decide +kernel)) (fun _ => ?_)
  refine lv_aload_n hx hb dX11_keeps_67 rfl (lv_at hl 2 rfl) ?_
  refine va_get (D := D) (ci := 14) (v := .ref h2) (own := RX11) (C := RX11) (T := TX11) (N := 25) hx hb hts hi_X11 hown hK hP 0 rfl rfl 3 (by decide) (hts (.fieldLink RX11 20 "CanalMapsModel" "kept" "[I") (List.mem_of_getElem? (i := 3) (by decide +kernel))) (fun _ h9 => h9) rfl dX11_keeps_68 ?_
  refine lv_sipush (v := 8277) hx hb dX11_keeps_71 (by decide +kernel) ?_
  refine lv_aload_n hx hb dX11_keeps_74 rfl (lv_at hl 2 rfl) ?_
  refine va_get (D := D) (ci := 14) (v := .int 0) (own := RX11) (C := RX11) (T := TX11) (N := 25) hx hb hts hi_X11 hown hK hP 0 rfl rfl 4 (by decide) (hts (.fieldLink RX11 60 "CanalMapsModel" "undos" "I") (List.mem_of_getElem? (i := 1) (by decide +kernel))) (fun _ h9 => h9) rfl dX11_keeps_75 ?_
  refine lv_imul hx hb dX11_keeps_78 ?_
  refine kt_ (v := 0) (by decide +kernel) ?_
  refine lv_iload_n hx hb dX11_keeps_79 rfl (lv_at hl 0 rfl) ?_
  refine lv_iadd hx hb dX11_keeps_80 ?_
  refine kt_ (v := 45) (by decide +kernel) ?_
  refine lv_aload_n hx hb dX11_keeps_81 rfl (lv_at hl 2 rfl) ?_
  refine va_get (D := D) (ci := 14) (v := .ref h1) (own := RX11) (C := RX11) (T := TX11) (N := 25) hx hb hts hi_X11 hown hK hP 0 rfl rfl 1 (by decide) (hts (.fieldLink RX11 13 "CanalMapsModel" "tried" "[I") (List.mem_of_getElem? (i := 4) (by decide +kernel))) (fun _ h9 => h9) rfl dX11_keeps_82 ?_
  refine lv_iload_n hx hb dX11_keeps_85 rfl (lv_at hl 0 rfl) ?_
  refine va_iald hx hb hK hP 1 0 rfl rfl (vin_ (by decide +kernel)) dX11_keeps_86 ?_
  refine kt_ (v := 0) (by decide +kernel) ?_
  refine ka_iast (g := (fun _ => 0)) hx hb hK hP hD hS 2 1 rfl rfl (vin_ (by decide +kernel)) (up_same (by decide +kernel)) dX11_keeps_87 (fun H locs hP hD hS => ?_)
  have hP : va_P D vwCl [(h0, .inr (14, [v0, .ref h1, v1, .ref h2, .int 0, v2, v3, v4, v5, v6, v7, v8, v9, v10, v11, v12, v13, v14, v15, v16, v17, v18, v19, v20, v21])), (h1, .inl (k1, 8277, .inl (fun _ => 0))), (h2, .inl (k2, 66216, .inl (fun _ => 0)))] H := hP
  have hD : va_D A [(h0, .inr (14, [v0, .ref h1, v1, .ref h2, .int 0, v2, v3, v4, v5, v6, v7, v8, v9, v10, v11, v12, v13, v14, v15, v16, v17, v18, v19, v20, v21])), (h1, .inl (k1, 8277, .inl (fun _ => 0))), (h2, .inl (k2, 66216, .inl (fun _ => 0)))] := hD
  refine lv_iinc (v := 46) (lv' := [(3, .int 46), (2, .int 85), (0, .ref h0), (1, .int 0)]) hx hb dX11_keeps_88 hl (k := 0) rfl (by decide +kernel) (by decide) rfl (fun ls hl => ?_)
  refine lv_goto (tgt := 62) hx hb dX11_keeps_91 (by decide) ?_
  refine lv_iload_n hx hb dX11_keeps_62 rfl (lv_at hl 0 rfl) ?_
  refine lv_iload_n hx hb dX11_keeps_63 rfl (lv_at hl 1 rfl) ?_
  refine lv_icmp_ge (tgt := 94) hx hb dX11_keeps_64 (by decide) (fun c9 => absurd c9 (by decide +kernel)) (fun _ => ?_)
  refine lv_aload_n hx hb dX11_keeps_67 rfl (lv_at hl 2 rfl) ?_
  refine va_get (D := D) (ci := 14) (v := .ref h2) (own := RX11) (C := RX11) (T := TX11) (N := 25) hx hb hts hi_X11 hown hK hP 0 rfl rfl 3 (by decide) (hts (.fieldLink RX11 20 "CanalMapsModel" "kept" "[I") (List.mem_of_getElem? (i := 3) (by decide +kernel))) (fun _ h9 => h9) rfl dX11_keeps_68 ?_
  refine lv_sipush (v := 8277) hx hb dX11_keeps_71 (by decide +kernel) ?_
  refine lv_aload_n hx hb dX11_keeps_74 rfl (lv_at hl 2 rfl) ?_
  refine va_get (D := D) (ci := 14) (v := .int 0) (own := RX11) (C := RX11) (T := TX11) (N := 25) hx hb hts hi_X11 hown hK hP 0 rfl rfl 4 (by decide) (hts (.fieldLink RX11 60 "CanalMapsModel" "undos" "I") (List.mem_of_getElem? (i := 1) (by decide +kernel))) (fun _ h9 => h9) rfl dX11_keeps_75 ?_
  refine lv_imul hx hb dX11_keeps_78 ?_
  refine kt_ (v := 0) (by decide +kernel) ?_
  refine lv_iload_n hx hb dX11_keeps_79 rfl (lv_at hl 0 rfl) ?_
  refine lv_iadd hx hb dX11_keeps_80 ?_
  refine kt_ (v := 46) (by decide +kernel) ?_
  refine lv_aload_n hx hb dX11_keeps_81 rfl (lv_at hl 2 rfl) ?_
  refine va_get (D := D) (ci := 14) (v := .ref h1) (own := RX11) (C := RX11) (T := TX11) (N := 25) hx hb hts hi_X11 hown hK hP 0 rfl rfl 1 (by decide) (hts (.fieldLink RX11 13 "CanalMapsModel" "tried" "[I") (List.mem_of_getElem? (i := 4) (by decide +kernel))) (fun _ h9 => h9) rfl dX11_keeps_82 ?_
  refine lv_iload_n hx hb dX11_keeps_85 rfl (lv_at hl 0 rfl) ?_
  refine va_iald hx hb hK hP 1 0 rfl rfl (vin_ (by decide +kernel)) dX11_keeps_86 ?_
  refine kt_ (v := 0) (by decide +kernel) ?_
  refine ka_iast (g := (fun _ => 0)) hx hb hK hP hD hS 2 1 rfl rfl (vin_ (by decide +kernel)) (up_same (by decide +kernel)) dX11_keeps_87 (fun H locs hP hD hS => ?_)
  have hP : va_P D vwCl [(h0, .inr (14, [v0, .ref h1, v1, .ref h2, .int 0, v2, v3, v4, v5, v6, v7, v8, v9, v10, v11, v12, v13, v14, v15, v16, v17, v18, v19, v20, v21])), (h1, .inl (k1, 8277, .inl (fun _ => 0))), (h2, .inl (k2, 66216, .inl (fun _ => 0)))] H := hP
  have hD : va_D A [(h0, .inr (14, [v0, .ref h1, v1, .ref h2, .int 0, v2, v3, v4, v5, v6, v7, v8, v9, v10, v11, v12, v13, v14, v15, v16, v17, v18, v19, v20, v21])), (h1, .inl (k1, 8277, .inl (fun _ => 0))), (h2, .inl (k2, 66216, .inl (fun _ => 0)))] := hD
  refine lv_iinc (v := 47) (lv' := [(3, .int 47), (2, .int 85), (0, .ref h0), (1, .int 0)]) hx hb dX11_keeps_88 hl (k := 0) rfl (by decide +kernel) (by decide) rfl (fun ls hl => ?_)
  refine lv_goto (tgt := 62) hx hb dX11_keeps_91 (by decide) ?_
  refine lv_iload_n hx hb dX11_keeps_62 rfl (lv_at hl 0 rfl) ?_
  refine lv_iload_n hx hb dX11_keeps_63 rfl (lv_at hl 1 rfl) ?_
  refine lv_icmp_ge (tgt := 94) hx hb dX11_keeps_64 (by decide) (fun c9 => absurd c9 (by decide +kernel)) (fun _ => ?_)
  refine lv_aload_n hx hb dX11_keeps_67 rfl (lv_at hl 2 rfl) ?_
  refine va_get (D := D) (ci := 14) (v := .ref h2) (own := RX11) (C := RX11) (T := TX11) (N := 25) hx hb hts hi_X11 hown hK hP 0 rfl rfl 3 (by decide) (hts (.fieldLink RX11 20 "CanalMapsModel" "kept" "[I") (List.mem_of_getElem? (i := 3) (by decide +kernel))) (fun _ h9 => h9) rfl dX11_keeps_68 ?_
  refine lv_sipush (v := 8277) hx hb dX11_keeps_71 (by decide +kernel) ?_
  refine lv_aload_n hx hb dX11_keeps_74 rfl (lv_at hl 2 rfl) ?_
  refine va_get (D := D) (ci := 14) (v := .int 0) (own := RX11) (C := RX11) (T := TX11) (N := 25) hx hb hts hi_X11 hown hK hP 0 rfl rfl 4 (by decide) (hts (.fieldLink RX11 60 "CanalMapsModel" "undos" "I") (List.mem_of_getElem? (i := 1) (by decide +kernel))) (fun _ h9 => h9) rfl dX11_keeps_75 ?_
  refine lv_imul hx hb dX11_keeps_78 ?_
  refine kt_ (v := 0) (by decide +kernel) ?_
  refine lv_iload_n hx hb dX11_keeps_79 rfl (lv_at hl 0 rfl) ?_
  refine lv_iadd hx hb dX11_keeps_80 ?_
  refine kt_ (v := 47) (by decide +kernel) ?_
  refine lv_aload_n hx hb dX11_keeps_81 rfl (lv_at hl 2 rfl) ?_
  refine va_get (D := D) (ci := 14) (v := .ref h1) (own := RX11) (C := RX11) (T := TX11) (N := 25) hx hb hts hi_X11 hown hK hP 0 rfl rfl 1 (by decide) (hts (.fieldLink RX11 13 "CanalMapsModel" "tried" "[I") (List.mem_of_getElem? (i := 4) (by decide +kernel))) (fun _ h9 => h9) rfl dX11_keeps_82 ?_
  refine lv_iload_n hx hb dX11_keeps_85 rfl (lv_at hl 0 rfl) ?_
  refine va_iald hx hb hK hP 1 0 rfl rfl (vin_ (by decide +kernel)) dX11_keeps_86 ?_
  refine kt_ (v := 0) (by decide +kernel) ?_
  refine ka_iast (g := (fun _ => 0)) hx hb hK hP hD hS 2 1 rfl rfl (vin_ (by decide +kernel)) (up_same (by decide +kernel)) dX11_keeps_87 (fun H locs hP hD hS => ?_)
  have hP : va_P D vwCl [(h0, .inr (14, [v0, .ref h1, v1, .ref h2, .int 0, v2, v3, v4, v5, v6, v7, v8, v9, v10, v11, v12, v13, v14, v15, v16, v17, v18, v19, v20, v21])), (h1, .inl (k1, 8277, .inl (fun _ => 0))), (h2, .inl (k2, 66216, .inl (fun _ => 0)))] H := hP
  have hD : va_D A [(h0, .inr (14, [v0, .ref h1, v1, .ref h2, .int 0, v2, v3, v4, v5, v6, v7, v8, v9, v10, v11, v12, v13, v14, v15, v16, v17, v18, v19, v20, v21])), (h1, .inl (k1, 8277, .inl (fun _ => 0))), (h2, .inl (k2, 66216, .inl (fun _ => 0)))] := hD
  refine lv_iinc (v := 48) (lv' := [(3, .int 48), (2, .int 85), (0, .ref h0), (1, .int 0)]) hx hb dX11_keeps_88 hl (k := 0) rfl (by decide +kernel) (by decide) rfl (fun ls hl => ?_)
  refine lv_goto (tgt := 62) hx hb dX11_keeps_91 (by decide) ?_
  refine lv_iload_n hx hb dX11_keeps_62 rfl (lv_at hl 0 rfl) ?_
  refine lv_iload_n hx hb dX11_keeps_63 rfl (lv_at hl 1 rfl) ?_
  refine lv_icmp_ge (tgt := 94) hx hb dX11_keeps_64 (by decide) (fun c9 => absurd c9 (by decide +kernel)) (fun _ => ?_)
  refine lv_aload_n hx hb dX11_keeps_67 rfl (lv_at hl 2 rfl) ?_
  refine va_get (D := D) (ci := 14) (v := .ref h2) (own := RX11) (C := RX11) (T := TX11) (N := 25) hx hb hts hi_X11 hown hK hP 0 rfl rfl 3 (by decide) (hts (.fieldLink RX11 20 "CanalMapsModel" "kept" "[I") (List.mem_of_getElem? (i := 3) (by decide +kernel))) (fun _ h9 => h9) rfl dX11_keeps_68 ?_
  refine lv_sipush (v := 8277) hx hb dX11_keeps_71 (by decide +kernel) ?_
  refine lv_aload_n hx hb dX11_keeps_74 rfl (lv_at hl 2 rfl) ?_
  refine va_get (D := D) (ci := 14) (v := .int 0) (own := RX11) (C := RX11) (T := TX11) (N := 25) hx hb hts hi_X11 hown hK hP 0 rfl rfl 4 (by decide) (hts (.fieldLink RX11 60 "CanalMapsModel" "undos" "I") (List.mem_of_getElem? (i := 1) (by decide +kernel))) (fun _ h9 => h9) rfl dX11_keeps_75 ?_
  refine lv_imul hx hb dX11_keeps_78 ?_
  refine kt_ (v := 0) (by decide +kernel) ?_
  refine lv_iload_n hx hb dX11_keeps_79 rfl (lv_at hl 0 rfl) ?_
  refine lv_iadd hx hb dX11_keeps_80 ?_
  refine kt_ (v := 48) (by decide +kernel) ?_
  refine lv_aload_n hx hb dX11_keeps_81 rfl (lv_at hl 2 rfl) ?_
  refine va_get (D := D) (ci := 14) (v := .ref h1) (own := RX11) (C := RX11) (T := TX11) (N := 25) hx hb hts hi_X11 hown hK hP 0 rfl rfl 1 (by decide) (hts (.fieldLink RX11 13 "CanalMapsModel" "tried" "[I") (List.mem_of_getElem? (i := 4) (by decide +kernel))) (fun _ h9 => h9) rfl dX11_keeps_82 ?_
  refine lv_iload_n hx hb dX11_keeps_85 rfl (lv_at hl 0 rfl) ?_
  refine va_iald hx hb hK hP 1 0 rfl rfl (vin_ (by decide +kernel)) dX11_keeps_86 ?_
  refine kt_ (v := 0) (by decide +kernel) ?_
  refine ka_iast (g := (fun _ => 0)) hx hb hK hP hD hS 2 1 rfl rfl (vin_ (by decide +kernel)) (up_same (by decide +kernel)) dX11_keeps_87 (fun H locs hP hD hS => ?_)
  have hP : va_P D vwCl [(h0, .inr (14, [v0, .ref h1, v1, .ref h2, .int 0, v2, v3, v4, v5, v6, v7, v8, v9, v10, v11, v12, v13, v14, v15, v16, v17, v18, v19, v20, v21])), (h1, .inl (k1, 8277, .inl (fun _ => 0))), (h2, .inl (k2, 66216, .inl (fun _ => 0)))] H := hP
  have hD : va_D A [(h0, .inr (14, [v0, .ref h1, v1, .ref h2, .int 0, v2, v3, v4, v5, v6, v7, v8, v9, v10, v11, v12, v13, v14, v15, v16, v17, v18, v19, v20, v21])), (h1, .inl (k1, 8277, .inl (fun _ => 0))), (h2, .inl (k2, 66216, .inl (fun _ => 0)))] := hD
  refine lv_iinc (v := 49) (lv' := [(3, .int 49), (2, .int 85), (0, .ref h0), (1, .int 0)]) hx hb dX11_keeps_88 hl (k := 0) rfl (by decide +kernel) (by decide) rfl (fun ls hl => ?_)
  refine lv_goto (tgt := 62) hx hb dX11_keeps_91 (by decide) ?_
  refine lv_iload_n hx hb dX11_keeps_62 rfl (lv_at hl 0 rfl) ?_
  refine lv_iload_n hx hb dX11_keeps_63 rfl (lv_at hl 1 rfl) ?_
  refine lv_icmp_ge (tgt := 94) hx hb dX11_keeps_64 (by decide) (fun c9 => absurd c9 (by decide +kernel)) (fun _ => ?_)
  refine lv_aload_n hx hb dX11_keeps_67 rfl (lv_at hl 2 rfl) ?_
  refine va_get (D := D) (ci := 14) (v := .ref h2) (own := RX11) (C := RX11) (T := TX11) (N := 25) hx hb hts hi_X11 hown hK hP 0 rfl rfl 3 (by decide) (hts (.fieldLink RX11 20 "CanalMapsModel" "kept" "[I") (List.mem_of_getElem? (i := 3) (by decide +kernel))) (fun _ h9 => h9) rfl dX11_keeps_68 ?_
  refine lv_sipush (v := 8277) hx hb dX11_keeps_71 (by decide +kernel) ?_
  refine lv_aload_n hx hb dX11_keeps_74 rfl (lv_at hl 2 rfl) ?_
  refine va_get (D := D) (ci := 14) (v := .int 0) (own := RX11) (C := RX11) (T := TX11) (N := 25) hx hb hts hi_X11 hown hK hP 0 rfl rfl 4 (by decide) (hts (.fieldLink RX11 60 "CanalMapsModel" "undos" "I") (List.mem_of_getElem? (i := 1) (by decide +kernel))) (fun _ h9 => h9) rfl dX11_keeps_75 ?_
  refine lv_imul hx hb dX11_keeps_78 ?_
  refine kt_ (v := 0) (by decide +kernel) ?_
  refine lv_iload_n hx hb dX11_keeps_79 rfl (lv_at hl 0 rfl) ?_
  refine lv_iadd hx hb dX11_keeps_80 ?_
  refine kt_ (v := 49) (by decide +kernel) ?_
  refine lv_aload_n hx hb dX11_keeps_81 rfl (lv_at hl 2 rfl) ?_
  refine va_get (D := D) (ci := 14) (v := .ref h1) (own := RX11) (C := RX11) (T := TX11) (N := 25) hx hb hts hi_X11 hown hK hP 0 rfl rfl 1 (by decide) (hts (.fieldLink RX11 13 "CanalMapsModel" "tried" "[I") (List.mem_of_getElem? (i := 4) (by decide +kernel))) (fun _ h9 => h9) rfl dX11_keeps_82 ?_
  refine lv_iload_n hx hb dX11_keeps_85 rfl (lv_at hl 0 rfl) ?_
  refine va_iald hx hb hK hP 1 0 rfl rfl (vin_ (by decide +kernel)) dX11_keeps_86 ?_
  refine kt_ (v := 0) (by decide +kernel) ?_
  refine ka_iast (g := (fun _ => 0)) hx hb hK hP hD hS 2 1 rfl rfl (vin_ (by decide +kernel)) (up_same (by decide +kernel)) dX11_keeps_87 (fun H locs hP hD hS => ?_)
  have hP : va_P D vwCl [(h0, .inr (14, [v0, .ref h1, v1, .ref h2, .int 0, v2, v3, v4, v5, v6, v7, v8, v9, v10, v11, v12, v13, v14, v15, v16, v17, v18, v19, v20, v21])), (h1, .inl (k1, 8277, .inl (fun _ => 0))), (h2, .inl (k2, 66216, .inl (fun _ => 0)))] H := hP
  have hD : va_D A [(h0, .inr (14, [v0, .ref h1, v1, .ref h2, .int 0, v2, v3, v4, v5, v6, v7, v8, v9, v10, v11, v12, v13, v14, v15, v16, v17, v18, v19, v20, v21])), (h1, .inl (k1, 8277, .inl (fun _ => 0))), (h2, .inl (k2, 66216, .inl (fun _ => 0)))] := hD
  refine lv_iinc (v := 50) (lv' := [(3, .int 50), (2, .int 85), (0, .ref h0), (1, .int 0)]) hx hb dX11_keeps_88 hl (k := 0) rfl (by decide +kernel) (by decide) rfl (fun ls hl => ?_)
  refine lv_goto (tgt := 62) hx hb dX11_keeps_91 (by decide) ?_
  refine lv_iload_n hx hb dX11_keeps_62 rfl (lv_at hl 0 rfl) ?_
  refine lv_iload_n hx hb dX11_keeps_63 rfl (lv_at hl 1 rfl) ?_
  refine lv_icmp_ge (tgt := 94) hx hb dX11_keeps_64 (by decide) (fun c9 => absurd c9 (by decide +kernel)) (fun _ => ?_)
  refine lv_aload_n hx hb dX11_keeps_67 rfl (lv_at hl 2 rfl) ?_
  refine va_get (D := D) (ci := 14) (v := .ref h2) (own := RX11) (C := RX11) (T := TX11) (N := 25) hx hb hts hi_X11 hown hK hP 0 rfl rfl 3 (by decide) (hts (.fieldLink RX11 20 "CanalMapsModel" "kept" "[I") (List.mem_of_getElem? (i := 3) (by decide +kernel))) (fun _ h9 => h9) rfl dX11_keeps_68 ?_
  refine lv_sipush (v := 8277) hx hb dX11_keeps_71 (by decide +kernel) ?_
  refine lv_aload_n hx hb dX11_keeps_74 rfl (lv_at hl 2 rfl) ?_
  refine va_get (D := D) (ci := 14) (v := .int 0) (own := RX11) (C := RX11) (T := TX11) (N := 25) hx hb hts hi_X11 hown hK hP 0 rfl rfl 4 (by decide) (hts (.fieldLink RX11 60 "CanalMapsModel" "undos" "I") (List.mem_of_getElem? (i := 1) (by decide +kernel))) (fun _ h9 => h9) rfl dX11_keeps_75 ?_
  refine lv_imul hx hb dX11_keeps_78 ?_
  refine kt_ (v := 0) (by decide +kernel) ?_
  refine lv_iload_n hx hb dX11_keeps_79 rfl (lv_at hl 0 rfl) ?_
  refine lv_iadd hx hb dX11_keeps_80 ?_
  refine kt_ (v := 50) (by decide +kernel) ?_
  refine lv_aload_n hx hb dX11_keeps_81 rfl (lv_at hl 2 rfl) ?_
  refine va_get (D := D) (ci := 14) (v := .ref h1) (own := RX11) (C := RX11) (T := TX11) (N := 25) hx hb hts hi_X11 hown hK hP 0 rfl rfl 1 (by decide) (hts (.fieldLink RX11 13 "CanalMapsModel" "tried" "[I") (List.mem_of_getElem? (i := 4) (by decide +kernel))) (fun _ h9 => h9) rfl dX11_keeps_82 ?_
  refine lv_iload_n hx hb dX11_keeps_85 rfl (lv_at hl 0 rfl) ?_
  refine va_iald hx hb hK hP 1 0 rfl rfl (vin_ (by decide +kernel)) dX11_keeps_86 ?_
  refine kt_ (v := 0) (by decide +kernel) ?_
  refine ka_iast (g := (fun _ => 0)) hx hb hK hP hD hS 2 1 rfl rfl (vin_ (by decide +kernel)) (up_same (by decide +kernel)) dX11_keeps_87 (fun H locs hP hD hS => ?_)
  have hP : va_P D vwCl [(h0, .inr (14, [v0, .ref h1, v1, .ref h2, .int 0, v2, v3, v4, v5, v6, v7, v8, v9, v10, v11, v12, v13, v14, v15, v16, v17, v18, v19, v20, v21])), (h1, .inl (k1, 8277, .inl (fun _ => 0))), (h2, .inl (k2, 66216, .inl (fun _ => 0)))] H := hP
  have hD : va_D A [(h0, .inr (14, [v0, .ref h1, v1, .ref h2, .int 0, v2, v3, v4, v5, v6, v7, v8, v9, v10, v11, v12, v13, v14, v15, v16, v17, v18, v19, v20, v21])), (h1, .inl (k1, 8277, .inl (fun _ => 0))), (h2, .inl (k2, 66216, .inl (fun _ => 0)))] := hD
  refine lv_iinc (v := 51) (lv' := [(3, .int 51), (2, .int 85), (0, .ref h0), (1, .int 0)]) hx hb dX11_keeps_88 hl (k := 0) rfl (by decide +kernel) (by decide) rfl (fun ls hl => ?_)
  refine lv_goto (tgt := 62) hx hb dX11_keeps_91 (by decide) ?_
  refine lv_iload_n hx hb dX11_keeps_62 rfl (lv_at hl 0 rfl) ?_
  refine lv_iload_n hx hb dX11_keeps_63 rfl (lv_at hl 1 rfl) ?_
  refine lv_icmp_ge (tgt := 94) hx hb dX11_keeps_64 (by decide) (fun c9 => absurd c9 (by decide +kernel)) (fun _ => ?_)
  refine lv_aload_n hx hb dX11_keeps_67 rfl (lv_at hl 2 rfl) ?_
  refine va_get (D := D) (ci := 14) (v := .ref h2) (own := RX11) (C := RX11) (T := TX11) (N := 25) hx hb hts hi_X11 hown hK hP 0 rfl rfl 3 (by decide) (hts (.fieldLink RX11 20 "CanalMapsModel" "kept" "[I") (List.mem_of_getElem? (i := 3) (by decide +kernel))) (fun _ h9 => h9) rfl dX11_keeps_68 ?_
  refine lv_sipush (v := 8277) hx hb dX11_keeps_71 (by decide +kernel) ?_
  refine lv_aload_n hx hb dX11_keeps_74 rfl (lv_at hl 2 rfl) ?_
  refine va_get (D := D) (ci := 14) (v := .int 0) (own := RX11) (C := RX11) (T := TX11) (N := 25) hx hb hts hi_X11 hown hK hP 0 rfl rfl 4 (by decide) (hts (.fieldLink RX11 60 "CanalMapsModel" "undos" "I") (List.mem_of_getElem? (i := 1) (by decide +kernel))) (fun _ h9 => h9) rfl dX11_keeps_75 ?_
  refine lv_imul hx hb dX11_keeps_78 ?_
  refine kt_ (v := 0) (by decide +kernel) ?_
  refine lv_iload_n hx hb dX11_keeps_79 rfl (lv_at hl 0 rfl) ?_
  refine lv_iadd hx hb dX11_keeps_80 ?_
  refine kt_ (v := 51) (by decide +kernel) ?_
  refine lv_aload_n hx hb dX11_keeps_81 rfl (lv_at hl 2 rfl) ?_
  refine va_get (D := D) (ci := 14) (v := .ref h1) (own := RX11) (C := RX11) (T := TX11) (N := 25) hx hb hts hi_X11 hown hK hP 0 rfl rfl 1 (by decide) (hts (.fieldLink RX11 13 "CanalMapsModel" "tried" "[I") (List.mem_of_getElem? (i := 4) (by decide +kernel))) (fun _ h9 => h9) rfl dX11_keeps_82 ?_
  refine lv_iload_n hx hb dX11_keeps_85 rfl (lv_at hl 0 rfl) ?_
  refine va_iald hx hb hK hP 1 0 rfl rfl (vin_ (by decide +kernel)) dX11_keeps_86 ?_
  refine kt_ (v := 0) (by decide +kernel) ?_
  refine ka_iast (g := (fun _ => 0)) hx hb hK hP hD hS 2 1 rfl rfl (vin_ (by decide +kernel)) (up_same (by decide +kernel)) dX11_keeps_87 (fun H locs hP hD hS => ?_)
  have hP : va_P D vwCl [(h0, .inr (14, [v0, .ref h1, v1, .ref h2, .int 0, v2, v3, v4, v5, v6, v7, v8, v9, v10, v11, v12, v13, v14, v15, v16, v17, v18, v19, v20, v21])), (h1, .inl (k1, 8277, .inl (fun _ => 0))), (h2, .inl (k2, 66216, .inl (fun _ => 0)))] H := hP
  have hD : va_D A [(h0, .inr (14, [v0, .ref h1, v1, .ref h2, .int 0, v2, v3, v4, v5, v6, v7, v8, v9, v10, v11, v12, v13, v14, v15, v16, v17, v18, v19, v20, v21])), (h1, .inl (k1, 8277, .inl (fun _ => 0))), (h2, .inl (k2, 66216, .inl (fun _ => 0)))] := hD
  refine lv_iinc (v := 52) (lv' := [(3, .int 52), (2, .int 85), (0, .ref h0), (1, .int 0)]) hx hb dX11_keeps_88 hl (k := 0) rfl (by decide +kernel) (by decide) rfl (fun ls hl => ?_)
  refine lv_goto (tgt := 62) hx hb dX11_keeps_91 (by decide) ?_
  refine lv_iload_n hx hb dX11_keeps_62 rfl (lv_at hl 0 rfl) ?_
  refine lv_iload_n hx hb dX11_keeps_63 rfl (lv_at hl 1 rfl) ?_
  refine lv_icmp_ge (tgt := 94) hx hb dX11_keeps_64 (by decide) (fun c9 => absurd c9 (by decide +kernel)) (fun _ => ?_)
  refine lv_aload_n hx hb dX11_keeps_67 rfl (lv_at hl 2 rfl) ?_
  refine va_get (D := D) (ci := 14) (v := .ref h2) (own := RX11) (C := RX11) (T := TX11) (N := 25) hx hb hts hi_X11 hown hK hP 0 rfl rfl 3 (by decide) (hts (.fieldLink RX11 20 "CanalMapsModel" "kept" "[I") (List.mem_of_getElem? (i := 3) (by decide +kernel))) (fun _ h9 => h9) rfl dX11_keeps_68 ?_
  refine lv_sipush (v := 8277) hx hb dX11_keeps_71 (by decide +kernel) ?_
  refine lv_aload_n hx hb dX11_keeps_74 rfl (lv_at hl 2 rfl) ?_
  refine va_get (D := D) (ci := 14) (v := .int 0) (own := RX11) (C := RX11) (T := TX11) (N := 25) hx hb hts hi_X11 hown hK hP 0 rfl rfl 4 (by decide) (hts (.fieldLink RX11 60 "CanalMapsModel" "undos" "I") (List.mem_of_getElem? (i := 1) (by decide +kernel))) (fun _ h9 => h9) rfl dX11_keeps_75 ?_
  refine lv_imul hx hb dX11_keeps_78 ?_
  refine kt_ (v := 0) (by decide +kernel) ?_
  refine lv_iload_n hx hb dX11_keeps_79 rfl (lv_at hl 0 rfl) ?_
  refine lv_iadd hx hb dX11_keeps_80 ?_
  refine kt_ (v := 52) (by decide +kernel) ?_
  refine lv_aload_n hx hb dX11_keeps_81 rfl (lv_at hl 2 rfl) ?_
  refine va_get (D := D) (ci := 14) (v := .ref h1) (own := RX11) (C := RX11) (T := TX11) (N := 25) hx hb hts hi_X11 hown hK hP 0 rfl rfl 1 (by decide) (hts (.fieldLink RX11 13 "CanalMapsModel" "tried" "[I") (List.mem_of_getElem? (i := 4) (by decide +kernel))) (fun _ h9 => h9) rfl dX11_keeps_82 ?_
  refine lv_iload_n hx hb dX11_keeps_85 rfl (lv_at hl 0 rfl) ?_
  refine va_iald hx hb hK hP 1 0 rfl rfl (vin_ (by decide +kernel)) dX11_keeps_86 ?_
  refine kt_ (v := 0) (by decide +kernel) ?_
  refine ka_iast (g := (fun _ => 0)) hx hb hK hP hD hS 2 1 rfl rfl (vin_ (by decide +kernel)) (up_same (by decide +kernel)) dX11_keeps_87 (fun H locs hP hD hS => ?_)
  have hP : va_P D vwCl [(h0, .inr (14, [v0, .ref h1, v1, .ref h2, .int 0, v2, v3, v4, v5, v6, v7, v8, v9, v10, v11, v12, v13, v14, v15, v16, v17, v18, v19, v20, v21])), (h1, .inl (k1, 8277, .inl (fun _ => 0))), (h2, .inl (k2, 66216, .inl (fun _ => 0)))] H := hP
  have hD : va_D A [(h0, .inr (14, [v0, .ref h1, v1, .ref h2, .int 0, v2, v3, v4, v5, v6, v7, v8, v9, v10, v11, v12, v13, v14, v15, v16, v17, v18, v19, v20, v21])), (h1, .inl (k1, 8277, .inl (fun _ => 0))), (h2, .inl (k2, 66216, .inl (fun _ => 0)))] := hD
  refine lv_iinc (v := 53) (lv' := [(3, .int 53), (2, .int 85), (0, .ref h0), (1, .int 0)]) hx hb dX11_keeps_88 hl (k := 0) rfl (by decide +kernel) (by decide) rfl (fun ls hl => ?_)
  refine lv_goto (tgt := 62) hx hb dX11_keeps_91 (by decide) ?_
  refine lv_iload_n hx hb dX11_keeps_62 rfl (lv_at hl 0 rfl) ?_
  refine lv_iload_n hx hb dX11_keeps_63 rfl (lv_at hl 1 rfl) ?_
  refine lv_icmp_ge (tgt := 94) hx hb dX11_keeps_64 (by decide) (fun c9 => absurd c9 (by decide +kernel)) (fun _ => ?_)
  refine lv_aload_n hx hb dX11_keeps_67 rfl (lv_at hl 2 rfl) ?_
  refine va_get (D := D) (ci := 14) (v := .ref h2) (own := RX11) (C := RX11) (T := TX11) (N := 25) hx hb hts hi_X11 hown hK hP 0 rfl rfl 3 (by decide) (hts (.fieldLink RX11 20 "CanalMapsModel" "kept" "[I") (List.mem_of_getElem? (i := 3) (by decide +kernel))) (fun _ h9 => h9) rfl dX11_keeps_68 ?_
  refine lv_sipush (v := 8277) hx hb dX11_keeps_71 (by decide +kernel) ?_
  refine lv_aload_n hx hb dX11_keeps_74 rfl (lv_at hl 2 rfl) ?_
  refine va_get (D := D) (ci := 14) (v := .int 0) (own := RX11) (C := RX11) (T := TX11) (N := 25) hx hb hts hi_X11 hown hK hP 0 rfl rfl 4 (by decide) (hts (.fieldLink RX11 60 "CanalMapsModel" "undos" "I") (List.mem_of_getElem? (i := 1) (by decide +kernel))) (fun _ h9 => h9) rfl dX11_keeps_75 ?_
  refine lv_imul hx hb dX11_keeps_78 ?_
  refine kt_ (v := 0) (by decide +kernel) ?_
  refine lv_iload_n hx hb dX11_keeps_79 rfl (lv_at hl 0 rfl) ?_
  refine lv_iadd hx hb dX11_keeps_80 ?_
  refine kt_ (v := 53) (by decide +kernel) ?_
  refine lv_aload_n hx hb dX11_keeps_81 rfl (lv_at hl 2 rfl) ?_
  refine va_get (D := D) (ci := 14) (v := .ref h1) (own := RX11) (C := RX11) (T := TX11) (N := 25) hx hb hts hi_X11 hown hK hP 0 rfl rfl 1 (by decide) (hts (.fieldLink RX11 13 "CanalMapsModel" "tried" "[I") (List.mem_of_getElem? (i := 4) (by decide +kernel))) (fun _ h9 => h9) rfl dX11_keeps_82 ?_
  refine lv_iload_n hx hb dX11_keeps_85 rfl (lv_at hl 0 rfl) ?_
  refine va_iald hx hb hK hP 1 0 rfl rfl (vin_ (by decide +kernel)) dX11_keeps_86 ?_
  refine kt_ (v := 0) (by decide +kernel) ?_
  refine ka_iast (g := (fun _ => 0)) hx hb hK hP hD hS 2 1 rfl rfl (vin_ (by decide +kernel)) (up_same (by decide +kernel)) dX11_keeps_87 (fun H locs hP hD hS => ?_)
  have hP : va_P D vwCl [(h0, .inr (14, [v0, .ref h1, v1, .ref h2, .int 0, v2, v3, v4, v5, v6, v7, v8, v9, v10, v11, v12, v13, v14, v15, v16, v17, v18, v19, v20, v21])), (h1, .inl (k1, 8277, .inl (fun _ => 0))), (h2, .inl (k2, 66216, .inl (fun _ => 0)))] H := hP
  have hD : va_D A [(h0, .inr (14, [v0, .ref h1, v1, .ref h2, .int 0, v2, v3, v4, v5, v6, v7, v8, v9, v10, v11, v12, v13, v14, v15, v16, v17, v18, v19, v20, v21])), (h1, .inl (k1, 8277, .inl (fun _ => 0))), (h2, .inl (k2, 66216, .inl (fun _ => 0)))] := hD
  refine lv_iinc (v := 54) (lv' := [(3, .int 54), (2, .int 85), (0, .ref h0), (1, .int 0)]) hx hb dX11_keeps_88 hl (k := 0) rfl (by decide +kernel) (by decide) rfl (fun ls hl => ?_)
  refine lv_goto (tgt := 62) hx hb dX11_keeps_91 (by decide) ?_
  refine lv_iload_n hx hb dX11_keeps_62 rfl (lv_at hl 0 rfl) ?_
  refine lv_iload_n hx hb dX11_keeps_63 rfl (lv_at hl 1 rfl) ?_
  refine lv_icmp_ge (tgt := 94) hx hb dX11_keeps_64 (by decide) (fun c9 => absurd c9 (by decide +kernel)) (fun _ => ?_)
  refine lv_aload_n hx hb dX11_keeps_67 rfl (lv_at hl 2 rfl) ?_
  refine va_get (D := D) (ci := 14) (v := .ref h2) (own := RX11) (C := RX11) (T := TX11) (N := 25) hx hb hts hi_X11 hown hK hP 0 rfl rfl 3 (by decide) (hts (.fieldLink RX11 20 "CanalMapsModel" "kept" "[I") (List.mem_of_getElem? (i := 3) (by decide +kernel))) (fun _ h9 => h9) rfl dX11_keeps_68 ?_
  refine lv_sipush (v := 8277) hx hb dX11_keeps_71 (by decide +kernel) ?_
  refine lv_aload_n hx hb dX11_keeps_74 rfl (lv_at hl 2 rfl) ?_
  refine va_get (D := D) (ci := 14) (v := .int 0) (own := RX11) (C := RX11) (T := TX11) (N := 25) hx hb hts hi_X11 hown hK hP 0 rfl rfl 4 (by decide) (hts (.fieldLink RX11 60 "CanalMapsModel" "undos" "I") (List.mem_of_getElem? (i := 1) (by decide +kernel))) (fun _ h9 => h9) rfl dX11_keeps_75 ?_
  refine lv_imul hx hb dX11_keeps_78 ?_
  refine kt_ (v := 0) (by decide +kernel) ?_
  refine lv_iload_n hx hb dX11_keeps_79 rfl (lv_at hl 0 rfl) ?_
  refine lv_iadd hx hb dX11_keeps_80 ?_
  refine kt_ (v := 54) (by decide +kernel) ?_
  refine lv_aload_n hx hb dX11_keeps_81 rfl (lv_at hl 2 rfl) ?_
  refine va_get (D := D) (ci := 14) (v := .ref h1) (own := RX11) (C := RX11) (T := TX11) (N := 25) hx hb hts hi_X11 hown hK hP 0 rfl rfl 1 (by decide) (hts (.fieldLink RX11 13 "CanalMapsModel" "tried" "[I") (List.mem_of_getElem? (i := 4) (by decide +kernel))) (fun _ h9 => h9) rfl dX11_keeps_82 ?_
  refine lv_iload_n hx hb dX11_keeps_85 rfl (lv_at hl 0 rfl) ?_
  refine va_iald hx hb hK hP 1 0 rfl rfl (vin_ (by decide +kernel)) dX11_keeps_86 ?_
  refine kt_ (v := 0) (by decide +kernel) ?_
  refine ka_iast (g := (fun _ => 0)) hx hb hK hP hD hS 2 1 rfl rfl (vin_ (by decide +kernel)) (up_same (by decide +kernel)) dX11_keeps_87 (fun H locs hP hD hS => ?_)
  have hP : va_P D vwCl [(h0, .inr (14, [v0, .ref h1, v1, .ref h2, .int 0, v2, v3, v4, v5, v6, v7, v8, v9, v10, v11, v12, v13, v14, v15, v16, v17, v18, v19, v20, v21])), (h1, .inl (k1, 8277, .inl (fun _ => 0))), (h2, .inl (k2, 66216, .inl (fun _ => 0)))] H := hP
  have hD : va_D A [(h0, .inr (14, [v0, .ref h1, v1, .ref h2, .int 0, v2, v3, v4, v5, v6, v7, v8, v9, v10, v11, v12, v13, v14, v15, v16, v17, v18, v19, v20, v21])), (h1, .inl (k1, 8277, .inl (fun _ => 0))), (h2, .inl (k2, 66216, .inl (fun _ => 0)))] := hD
  refine lv_iinc (v := 55) (lv' := [(3, .int 55), (2, .int 85), (0, .ref h0), (1, .int 0)]) hx hb dX11_keeps_88 hl (k := 0) rfl (by decide +kernel) (by decide) rfl (fun ls hl => ?_)
  refine lv_goto (tgt := 62) hx hb dX11_keeps_91 (by decide) ?_
  refine lv_iload_n hx hb dX11_keeps_62 rfl (lv_at hl 0 rfl) ?_
  refine lv_iload_n hx hb dX11_keeps_63 rfl (lv_at hl 1 rfl) ?_
  refine lv_icmp_ge (tgt := 94) hx hb dX11_keeps_64 (by decide) (fun c9 => absurd c9 (by decide +kernel)) (fun _ => ?_)
  refine lv_aload_n hx hb dX11_keeps_67 rfl (lv_at hl 2 rfl) ?_
  refine va_get (D := D) (ci := 14) (v := .ref h2) (own := RX11) (C := RX11) (T := TX11) (N := 25) hx hb hts hi_X11 hown hK hP 0 rfl rfl 3 (by decide) (hts (.fieldLink RX11 20 "CanalMapsModel" "kept" "[I") (List.mem_of_getElem? (i := 3) (by decide +kernel))) (fun _ h9 => h9) rfl dX11_keeps_68 ?_
  refine lv_sipush (v := 8277) hx hb dX11_keeps_71 (by decide +kernel) ?_
  refine lv_aload_n hx hb dX11_keeps_74 rfl (lv_at hl 2 rfl) ?_
  refine va_get (D := D) (ci := 14) (v := .int 0) (own := RX11) (C := RX11) (T := TX11) (N := 25) hx hb hts hi_X11 hown hK hP 0 rfl rfl 4 (by decide) (hts (.fieldLink RX11 60 "CanalMapsModel" "undos" "I") (List.mem_of_getElem? (i := 1) (by decide +kernel))) (fun _ h9 => h9) rfl dX11_keeps_75 ?_
  refine lv_imul hx hb dX11_keeps_78 ?_
  refine kt_ (v := 0) (by decide +kernel) ?_
  refine lv_iload_n hx hb dX11_keeps_79 rfl (lv_at hl 0 rfl) ?_
  refine lv_iadd hx hb dX11_keeps_80 ?_
  refine kt_ (v := 55) (by decide +kernel) ?_
  refine lv_aload_n hx hb dX11_keeps_81 rfl (lv_at hl 2 rfl) ?_
  refine va_get (D := D) (ci := 14) (v := .ref h1) (own := RX11) (C := RX11) (T := TX11) (N := 25) hx hb hts hi_X11 hown hK hP 0 rfl rfl 1 (by decide) (hts (.fieldLink RX11 13 "CanalMapsModel" "tried" "[I") (List.mem_of_getElem? (i := 4) (by decide +kernel))) (fun _ h9 => h9) rfl dX11_keeps_82 ?_
  refine lv_iload_n hx hb dX11_keeps_85 rfl (lv_at hl 0 rfl) ?_
  refine va_iald hx hb hK hP 1 0 rfl rfl (vin_ (by decide +kernel)) dX11_keeps_86 ?_
  refine kt_ (v := 0) (by decide +kernel) ?_
  refine ka_iast (g := (fun _ => 0)) hx hb hK hP hD hS 2 1 rfl rfl (vin_ (by decide +kernel)) (up_same (by decide +kernel)) dX11_keeps_87 (fun H locs hP hD hS => ?_)
  have hP : va_P D vwCl [(h0, .inr (14, [v0, .ref h1, v1, .ref h2, .int 0, v2, v3, v4, v5, v6, v7, v8, v9, v10, v11, v12, v13, v14, v15, v16, v17, v18, v19, v20, v21])), (h1, .inl (k1, 8277, .inl (fun _ => 0))), (h2, .inl (k2, 66216, .inl (fun _ => 0)))] H := hP
  have hD : va_D A [(h0, .inr (14, [v0, .ref h1, v1, .ref h2, .int 0, v2, v3, v4, v5, v6, v7, v8, v9, v10, v11, v12, v13, v14, v15, v16, v17, v18, v19, v20, v21])), (h1, .inl (k1, 8277, .inl (fun _ => 0))), (h2, .inl (k2, 66216, .inl (fun _ => 0)))] := hD
  refine lv_iinc (v := 56) (lv' := [(3, .int 56), (2, .int 85), (0, .ref h0), (1, .int 0)]) hx hb dX11_keeps_88 hl (k := 0) rfl (by decide +kernel) (by decide) rfl (fun ls hl => ?_)
  refine lv_goto (tgt := 62) hx hb dX11_keeps_91 (by decide) ?_
  refine lv_iload_n hx hb dX11_keeps_62 rfl (lv_at hl 0 rfl) ?_
  refine lv_iload_n hx hb dX11_keeps_63 rfl (lv_at hl 1 rfl) ?_
  refine lv_icmp_ge (tgt := 94) hx hb dX11_keeps_64 (by decide) (fun c9 => absurd c9 (by decide +kernel)) (fun _ => ?_)
  refine lv_aload_n hx hb dX11_keeps_67 rfl (lv_at hl 2 rfl) ?_
  refine va_get (D := D) (ci := 14) (v := .ref h2) (own := RX11) (C := RX11) (T := TX11) (N := 25) hx hb hts hi_X11 hown hK hP 0 rfl rfl 3 (by decide) (hts (.fieldLink RX11 20 "CanalMapsModel" "kept" "[I") (List.mem_of_getElem? (i := 3) (by decide +kernel))) (fun _ h9 => h9) rfl dX11_keeps_68 ?_
  refine lv_sipush (v := 8277) hx hb dX11_keeps_71 (by decide +kernel) ?_
  refine lv_aload_n hx hb dX11_keeps_74 rfl (lv_at hl 2 rfl) ?_
  refine va_get (D := D) (ci := 14) (v := .int 0) (own := RX11) (C := RX11) (T := TX11) (N := 25) hx hb hts hi_X11 hown hK hP 0 rfl rfl 4 (by decide) (hts (.fieldLink RX11 60 "CanalMapsModel" "undos" "I") (List.mem_of_getElem? (i := 1) (by decide +kernel))) (fun _ h9 => h9) rfl dX11_keeps_75 ?_
  refine lv_imul hx hb dX11_keeps_78 ?_
  refine kt_ (v := 0) (by decide +kernel) ?_
  refine lv_iload_n hx hb dX11_keeps_79 rfl (lv_at hl 0 rfl) ?_
  refine lv_iadd hx hb dX11_keeps_80 ?_
  refine kt_ (v := 56) (by decide +kernel) ?_
  refine lv_aload_n hx hb dX11_keeps_81 rfl (lv_at hl 2 rfl) ?_
  refine va_get (D := D) (ci := 14) (v := .ref h1) (own := RX11) (C := RX11) (T := TX11) (N := 25) hx hb hts hi_X11 hown hK hP 0 rfl rfl 1 (by decide) (hts (.fieldLink RX11 13 "CanalMapsModel" "tried" "[I") (List.mem_of_getElem? (i := 4) (by decide +kernel))) (fun _ h9 => h9) rfl dX11_keeps_82 ?_
  refine lv_iload_n hx hb dX11_keeps_85 rfl (lv_at hl 0 rfl) ?_
  refine va_iald hx hb hK hP 1 0 rfl rfl (vin_ (by decide +kernel)) dX11_keeps_86 ?_
  refine kt_ (v := 0) (by decide +kernel) ?_
  refine ka_iast (g := (fun _ => 0)) hx hb hK hP hD hS 2 1 rfl rfl (vin_ (by decide +kernel)) (up_same (by decide +kernel)) dX11_keeps_87 (fun H locs hP hD hS => ?_)
  have hP : va_P D vwCl [(h0, .inr (14, [v0, .ref h1, v1, .ref h2, .int 0, v2, v3, v4, v5, v6, v7, v8, v9, v10, v11, v12, v13, v14, v15, v16, v17, v18, v19, v20, v21])), (h1, .inl (k1, 8277, .inl (fun _ => 0))), (h2, .inl (k2, 66216, .inl (fun _ => 0)))] H := hP
  have hD : va_D A [(h0, .inr (14, [v0, .ref h1, v1, .ref h2, .int 0, v2, v3, v4, v5, v6, v7, v8, v9, v10, v11, v12, v13, v14, v15, v16, v17, v18, v19, v20, v21])), (h1, .inl (k1, 8277, .inl (fun _ => 0))), (h2, .inl (k2, 66216, .inl (fun _ => 0)))] := hD
  refine lv_iinc (v := 57) (lv' := [(3, .int 57), (2, .int 85), (0, .ref h0), (1, .int 0)]) hx hb dX11_keeps_88 hl (k := 0) rfl (by decide +kernel) (by decide) rfl (fun ls hl => ?_)
  refine lv_goto (tgt := 62) hx hb dX11_keeps_91 (by decide) ?_
  refine lv_iload_n hx hb dX11_keeps_62 rfl (lv_at hl 0 rfl) ?_
  refine lv_iload_n hx hb dX11_keeps_63 rfl (lv_at hl 1 rfl) ?_
  refine lv_icmp_ge (tgt := 94) hx hb dX11_keeps_64 (by decide) (fun c9 => absurd c9 (by decide +kernel)) (fun _ => ?_)
  refine lv_aload_n hx hb dX11_keeps_67 rfl (lv_at hl 2 rfl) ?_
  refine va_get (D := D) (ci := 14) (v := .ref h2) (own := RX11) (C := RX11) (T := TX11) (N := 25) hx hb hts hi_X11 hown hK hP 0 rfl rfl 3 (by decide) (hts (.fieldLink RX11 20 "CanalMapsModel" "kept" "[I") (List.mem_of_getElem? (i := 3) (by decide +kernel))) (fun _ h9 => h9) rfl dX11_keeps_68 ?_
  refine lv_sipush (v := 8277) hx hb dX11_keeps_71 (by decide +kernel) ?_
  refine lv_aload_n hx hb dX11_keeps_74 rfl (lv_at hl 2 rfl) ?_
  refine va_get (D := D) (ci := 14) (v := .int 0) (own := RX11) (C := RX11) (T := TX11) (N := 25) hx hb hts hi_X11 hown hK hP 0 rfl rfl 4 (by decide) (hts (.fieldLink RX11 60 "CanalMapsModel" "undos" "I") (List.mem_of_getElem? (i := 1) (by decide +kernel))) (fun _ h9 => h9) rfl dX11_keeps_75 ?_
  refine lv_imul hx hb dX11_keeps_78 ?_
  refine kt_ (v := 0) (by decide +kernel) ?_
  refine lv_iload_n hx hb dX11_keeps_79 rfl (lv_at hl 0 rfl) ?_
  refine lv_iadd hx hb dX11_keeps_80 ?_
  refine kt_ (v := 57) (by decide +kernel) ?_
  refine lv_aload_n hx hb dX11_keeps_81 rfl (lv_at hl 2 rfl) ?_
  refine va_get (D := D) (ci := 14) (v := .ref h1) (own := RX11) (C := RX11) (T := TX11) (N := 25) hx hb hts hi_X11 hown hK hP 0 rfl rfl 1 (by decide) (hts (.fieldLink RX11 13 "CanalMapsModel" "tried" "[I") (List.mem_of_getElem? (i := 4) (by decide +kernel))) (fun _ h9 => h9) rfl dX11_keeps_82 ?_
  refine lv_iload_n hx hb dX11_keeps_85 rfl (lv_at hl 0 rfl) ?_
  refine va_iald hx hb hK hP 1 0 rfl rfl (vin_ (by decide +kernel)) dX11_keeps_86 ?_
  refine kt_ (v := 0) (by decide +kernel) ?_
  refine ka_iast (g := (fun _ => 0)) hx hb hK hP hD hS 2 1 rfl rfl (vin_ (by decide +kernel)) (up_same (by decide +kernel)) dX11_keeps_87 (fun H locs hP hD hS => ?_)
  have hP : va_P D vwCl [(h0, .inr (14, [v0, .ref h1, v1, .ref h2, .int 0, v2, v3, v4, v5, v6, v7, v8, v9, v10, v11, v12, v13, v14, v15, v16, v17, v18, v19, v20, v21])), (h1, .inl (k1, 8277, .inl (fun _ => 0))), (h2, .inl (k2, 66216, .inl (fun _ => 0)))] H := hP
  have hD : va_D A [(h0, .inr (14, [v0, .ref h1, v1, .ref h2, .int 0, v2, v3, v4, v5, v6, v7, v8, v9, v10, v11, v12, v13, v14, v15, v16, v17, v18, v19, v20, v21])), (h1, .inl (k1, 8277, .inl (fun _ => 0))), (h2, .inl (k2, 66216, .inl (fun _ => 0)))] := hD
  refine lv_iinc (v := 58) (lv' := [(3, .int 58), (2, .int 85), (0, .ref h0), (1, .int 0)]) hx hb dX11_keeps_88 hl (k := 0) rfl (by decide +kernel) (by decide) rfl (fun ls hl => ?_)
  refine lv_goto (tgt := 62) hx hb dX11_keeps_91 (by decide) ?_
  refine lv_iload_n hx hb dX11_keeps_62 rfl (lv_at hl 0 rfl) ?_
  refine lv_iload_n hx hb dX11_keeps_63 rfl (lv_at hl 1 rfl) ?_
  refine lv_icmp_ge (tgt := 94) hx hb dX11_keeps_64 (by decide) (fun c9 => absurd c9 (by decide +kernel)) (fun _ => ?_)
  refine lv_aload_n hx hb dX11_keeps_67 rfl (lv_at hl 2 rfl) ?_
  refine va_get (D := D) (ci := 14) (v := .ref h2) (own := RX11) (C := RX11) (T := TX11) (N := 25) hx hb hts hi_X11 hown hK hP 0 rfl rfl 3 (by decide) (hts (.fieldLink RX11 20 "CanalMapsModel" "kept" "[I") (List.mem_of_getElem? (i := 3) (by decide +kernel))) (fun _ h9 => h9) rfl dX11_keeps_68 ?_
  refine lv_sipush (v := 8277) hx hb dX11_keeps_71 (by decide +kernel) ?_
  refine lv_aload_n hx hb dX11_keeps_74 rfl (lv_at hl 2 rfl) ?_
  refine va_get (D := D) (ci := 14) (v := .int 0) (own := RX11) (C := RX11) (T := TX11) (N := 25) hx hb hts hi_X11 hown hK hP 0 rfl rfl 4 (by decide) (hts (.fieldLink RX11 60 "CanalMapsModel" "undos" "I") (List.mem_of_getElem? (i := 1) (by decide +kernel))) (fun _ h9 => h9) rfl dX11_keeps_75 ?_
  refine lv_imul hx hb dX11_keeps_78 ?_
  refine kt_ (v := 0) (by decide +kernel) ?_
  refine lv_iload_n hx hb dX11_keeps_79 rfl (lv_at hl 0 rfl) ?_
  refine lv_iadd hx hb dX11_keeps_80 ?_
  refine kt_ (v := 58) (by decide +kernel) ?_
  refine lv_aload_n hx hb dX11_keeps_81 rfl (lv_at hl 2 rfl) ?_
  refine va_get (D := D) (ci := 14) (v := .ref h1) (own := RX11) (C := RX11) (T := TX11) (N := 25) hx hb hts hi_X11 hown hK hP 0 rfl rfl 1 (by decide) (hts (.fieldLink RX11 13 "CanalMapsModel" "tried" "[I") (List.mem_of_getElem? (i := 4) (by decide +kernel))) (fun _ h9 => h9) rfl dX11_keeps_82 ?_
  refine lv_iload_n hx hb dX11_keeps_85 rfl (lv_at hl 0 rfl) ?_
  refine va_iald hx hb hK hP 1 0 rfl rfl (vin_ (by decide +kernel)) dX11_keeps_86 ?_
  refine kt_ (v := 0) (by decide +kernel) ?_
  refine ka_iast (g := (fun _ => 0)) hx hb hK hP hD hS 2 1 rfl rfl (vin_ (by decide +kernel)) (up_same (by decide +kernel)) dX11_keeps_87 (fun H locs hP hD hS => ?_)
  have hP : va_P D vwCl [(h0, .inr (14, [v0, .ref h1, v1, .ref h2, .int 0, v2, v3, v4, v5, v6, v7, v8, v9, v10, v11, v12, v13, v14, v15, v16, v17, v18, v19, v20, v21])), (h1, .inl (k1, 8277, .inl (fun _ => 0))), (h2, .inl (k2, 66216, .inl (fun _ => 0)))] H := hP
  have hD : va_D A [(h0, .inr (14, [v0, .ref h1, v1, .ref h2, .int 0, v2, v3, v4, v5, v6, v7, v8, v9, v10, v11, v12, v13, v14, v15, v16, v17, v18, v19, v20, v21])), (h1, .inl (k1, 8277, .inl (fun _ => 0))), (h2, .inl (k2, 66216, .inl (fun _ => 0)))] := hD
  refine lv_iinc (v := 59) (lv' := [(3, .int 59), (2, .int 85), (0, .ref h0), (1, .int 0)]) hx hb dX11_keeps_88 hl (k := 0) rfl (by decide +kernel) (by decide) rfl (fun ls hl => ?_)
  refine lv_goto (tgt := 62) hx hb dX11_keeps_91 (by decide) ?_
  refine lv_iload_n hx hb dX11_keeps_62 rfl (lv_at hl 0 rfl) ?_
  refine lv_iload_n hx hb dX11_keeps_63 rfl (lv_at hl 1 rfl) ?_
  refine lv_icmp_ge (tgt := 94) hx hb dX11_keeps_64 (by decide) (fun c9 => absurd c9 (by decide +kernel)) (fun _ => ?_)
  refine lv_aload_n hx hb dX11_keeps_67 rfl (lv_at hl 2 rfl) ?_
  refine va_get (D := D) (ci := 14) (v := .ref h2) (own := RX11) (C := RX11) (T := TX11) (N := 25) hx hb hts hi_X11 hown hK hP 0 rfl rfl 3 (by decide) (hts (.fieldLink RX11 20 "CanalMapsModel" "kept" "[I") (List.mem_of_getElem? (i := 3) (by decide +kernel))) (fun _ h9 => h9) rfl dX11_keeps_68 ?_
  refine lv_sipush (v := 8277) hx hb dX11_keeps_71 (by decide +kernel) ?_
  refine lv_aload_n hx hb dX11_keeps_74 rfl (lv_at hl 2 rfl) ?_
  refine va_get (D := D) (ci := 14) (v := .int 0) (own := RX11) (C := RX11) (T := TX11) (N := 25) hx hb hts hi_X11 hown hK hP 0 rfl rfl 4 (by decide) (hts (.fieldLink RX11 60 "CanalMapsModel" "undos" "I") (List.mem_of_getElem? (i := 1) (by decide +kernel))) (fun _ h9 => h9) rfl dX11_keeps_75 ?_
  refine lv_imul hx hb dX11_keeps_78 ?_
  refine kt_ (v := 0) (by decide +kernel) ?_
  refine lv_iload_n hx hb dX11_keeps_79 rfl (lv_at hl 0 rfl) ?_
  refine lv_iadd hx hb dX11_keeps_80 ?_
  refine kt_ (v := 59) (by decide +kernel) ?_
  refine lv_aload_n hx hb dX11_keeps_81 rfl (lv_at hl 2 rfl) ?_
  refine va_get (D := D) (ci := 14) (v := .ref h1) (own := RX11) (C := RX11) (T := TX11) (N := 25) hx hb hts hi_X11 hown hK hP 0 rfl rfl 1 (by decide) (hts (.fieldLink RX11 13 "CanalMapsModel" "tried" "[I") (List.mem_of_getElem? (i := 4) (by decide +kernel))) (fun _ h9 => h9) rfl dX11_keeps_82 ?_
  refine lv_iload_n hx hb dX11_keeps_85 rfl (lv_at hl 0 rfl) ?_
  refine va_iald hx hb hK hP 1 0 rfl rfl (vin_ (by decide +kernel)) dX11_keeps_86 ?_
  refine kt_ (v := 0) (by decide +kernel) ?_
  refine ka_iast (g := (fun _ => 0)) hx hb hK hP hD hS 2 1 rfl rfl (vin_ (by decide +kernel)) (up_same (by decide +kernel)) dX11_keeps_87 (fun H locs hP hD hS => ?_)
  have hP : va_P D vwCl [(h0, .inr (14, [v0, .ref h1, v1, .ref h2, .int 0, v2, v3, v4, v5, v6, v7, v8, v9, v10, v11, v12, v13, v14, v15, v16, v17, v18, v19, v20, v21])), (h1, .inl (k1, 8277, .inl (fun _ => 0))), (h2, .inl (k2, 66216, .inl (fun _ => 0)))] H := hP
  have hD : va_D A [(h0, .inr (14, [v0, .ref h1, v1, .ref h2, .int 0, v2, v3, v4, v5, v6, v7, v8, v9, v10, v11, v12, v13, v14, v15, v16, v17, v18, v19, v20, v21])), (h1, .inl (k1, 8277, .inl (fun _ => 0))), (h2, .inl (k2, 66216, .inl (fun _ => 0)))] := hD
  refine lv_iinc (v := 60) (lv' := [(3, .int 60), (2, .int 85), (0, .ref h0), (1, .int 0)]) hx hb dX11_keeps_88 hl (k := 0) rfl (by decide +kernel) (by decide) rfl (fun ls hl => ?_)
  refine lv_goto (tgt := 62) hx hb dX11_keeps_91 (by decide) ?_
  refine lv_iload_n hx hb dX11_keeps_62 rfl (lv_at hl 0 rfl) ?_
  refine lv_iload_n hx hb dX11_keeps_63 rfl (lv_at hl 1 rfl) ?_
  refine lv_icmp_ge (tgt := 94) hx hb dX11_keeps_64 (by decide) (fun c9 => absurd c9 (by decide +kernel)) (fun _ => ?_)
  refine lv_aload_n hx hb dX11_keeps_67 rfl (lv_at hl 2 rfl) ?_
  refine va_get (D := D) (ci := 14) (v := .ref h2) (own := RX11) (C := RX11) (T := TX11) (N := 25) hx hb hts hi_X11 hown hK hP 0 rfl rfl 3 (by decide) (hts (.fieldLink RX11 20 "CanalMapsModel" "kept" "[I") (List.mem_of_getElem? (i := 3) (by decide +kernel))) (fun _ h9 => h9) rfl dX11_keeps_68 ?_
  refine lv_sipush (v := 8277) hx hb dX11_keeps_71 (by decide +kernel) ?_
  refine lv_aload_n hx hb dX11_keeps_74 rfl (lv_at hl 2 rfl) ?_
  refine va_get (D := D) (ci := 14) (v := .int 0) (own := RX11) (C := RX11) (T := TX11) (N := 25) hx hb hts hi_X11 hown hK hP 0 rfl rfl 4 (by decide) (hts (.fieldLink RX11 60 "CanalMapsModel" "undos" "I") (List.mem_of_getElem? (i := 1) (by decide +kernel))) (fun _ h9 => h9) rfl dX11_keeps_75 ?_
  refine lv_imul hx hb dX11_keeps_78 ?_
  refine kt_ (v := 0) (by decide +kernel) ?_
  refine lv_iload_n hx hb dX11_keeps_79 rfl (lv_at hl 0 rfl) ?_
  refine lv_iadd hx hb dX11_keeps_80 ?_
  refine kt_ (v := 60) (by decide +kernel) ?_
  refine lv_aload_n hx hb dX11_keeps_81 rfl (lv_at hl 2 rfl) ?_
  refine va_get (D := D) (ci := 14) (v := .ref h1) (own := RX11) (C := RX11) (T := TX11) (N := 25) hx hb hts hi_X11 hown hK hP 0 rfl rfl 1 (by decide) (hts (.fieldLink RX11 13 "CanalMapsModel" "tried" "[I") (List.mem_of_getElem? (i := 4) (by decide +kernel))) (fun _ h9 => h9) rfl dX11_keeps_82 ?_
  refine lv_iload_n hx hb dX11_keeps_85 rfl (lv_at hl 0 rfl) ?_
  refine va_iald hx hb hK hP 1 0 rfl rfl (vin_ (by decide +kernel)) dX11_keeps_86 ?_
  refine kt_ (v := 0) (by decide +kernel) ?_
  refine ka_iast (g := (fun _ => 0)) hx hb hK hP hD hS 2 1 rfl rfl (vin_ (by decide +kernel)) (up_same (by decide +kernel)) dX11_keeps_87 (fun H locs hP hD hS => ?_)
  have hP : va_P D vwCl [(h0, .inr (14, [v0, .ref h1, v1, .ref h2, .int 0, v2, v3, v4, v5, v6, v7, v8, v9, v10, v11, v12, v13, v14, v15, v16, v17, v18, v19, v20, v21])), (h1, .inl (k1, 8277, .inl (fun _ => 0))), (h2, .inl (k2, 66216, .inl (fun _ => 0)))] H := hP
  have hD : va_D A [(h0, .inr (14, [v0, .ref h1, v1, .ref h2, .int 0, v2, v3, v4, v5, v6, v7, v8, v9, v10, v11, v12, v13, v14, v15, v16, v17, v18, v19, v20, v21])), (h1, .inl (k1, 8277, .inl (fun _ => 0))), (h2, .inl (k2, 66216, .inl (fun _ => 0)))] := hD
  refine lv_iinc (v := 61) (lv' := [(3, .int 61), (2, .int 85), (0, .ref h0), (1, .int 0)]) hx hb dX11_keeps_88 hl (k := 0) rfl (by decide +kernel) (by decide) rfl (fun ls hl => ?_)
  refine lv_goto (tgt := 62) hx hb dX11_keeps_91 (by decide) ?_
  refine lv_iload_n hx hb dX11_keeps_62 rfl (lv_at hl 0 rfl) ?_
  refine lv_iload_n hx hb dX11_keeps_63 rfl (lv_at hl 1 rfl) ?_
  refine lv_icmp_ge (tgt := 94) hx hb dX11_keeps_64 (by decide) (fun c9 => absurd c9 (by decide +kernel)) (fun _ => ?_)
  refine lv_aload_n hx hb dX11_keeps_67 rfl (lv_at hl 2 rfl) ?_
  refine va_get (D := D) (ci := 14) (v := .ref h2) (own := RX11) (C := RX11) (T := TX11) (N := 25) hx hb hts hi_X11 hown hK hP 0 rfl rfl 3 (by decide) (hts (.fieldLink RX11 20 "CanalMapsModel" "kept" "[I") (List.mem_of_getElem? (i := 3) (by decide +kernel))) (fun _ h9 => h9) rfl dX11_keeps_68 ?_
  refine lv_sipush (v := 8277) hx hb dX11_keeps_71 (by decide +kernel) ?_
  refine lv_aload_n hx hb dX11_keeps_74 rfl (lv_at hl 2 rfl) ?_
  refine va_get (D := D) (ci := 14) (v := .int 0) (own := RX11) (C := RX11) (T := TX11) (N := 25) hx hb hts hi_X11 hown hK hP 0 rfl rfl 4 (by decide) (hts (.fieldLink RX11 60 "CanalMapsModel" "undos" "I") (List.mem_of_getElem? (i := 1) (by decide +kernel))) (fun _ h9 => h9) rfl dX11_keeps_75 ?_
  refine lv_imul hx hb dX11_keeps_78 ?_
  refine kt_ (v := 0) (by decide +kernel) ?_
  refine lv_iload_n hx hb dX11_keeps_79 rfl (lv_at hl 0 rfl) ?_
  refine lv_iadd hx hb dX11_keeps_80 ?_
  refine kt_ (v := 61) (by decide +kernel) ?_
  refine lv_aload_n hx hb dX11_keeps_81 rfl (lv_at hl 2 rfl) ?_
  refine va_get (D := D) (ci := 14) (v := .ref h1) (own := RX11) (C := RX11) (T := TX11) (N := 25) hx hb hts hi_X11 hown hK hP 0 rfl rfl 1 (by decide) (hts (.fieldLink RX11 13 "CanalMapsModel" "tried" "[I") (List.mem_of_getElem? (i := 4) (by decide +kernel))) (fun _ h9 => h9) rfl dX11_keeps_82 ?_
  refine lv_iload_n hx hb dX11_keeps_85 rfl (lv_at hl 0 rfl) ?_
  refine va_iald hx hb hK hP 1 0 rfl rfl (vin_ (by decide +kernel)) dX11_keeps_86 ?_
  refine kt_ (v := 0) (by decide +kernel) ?_
  refine ka_iast (g := (fun _ => 0)) hx hb hK hP hD hS 2 1 rfl rfl (vin_ (by decide +kernel)) (up_same (by decide +kernel)) dX11_keeps_87 (fun H locs hP hD hS => ?_)
  have hP : va_P D vwCl [(h0, .inr (14, [v0, .ref h1, v1, .ref h2, .int 0, v2, v3, v4, v5, v6, v7, v8, v9, v10, v11, v12, v13, v14, v15, v16, v17, v18, v19, v20, v21])), (h1, .inl (k1, 8277, .inl (fun _ => 0))), (h2, .inl (k2, 66216, .inl (fun _ => 0)))] H := hP
  have hD : va_D A [(h0, .inr (14, [v0, .ref h1, v1, .ref h2, .int 0, v2, v3, v4, v5, v6, v7, v8, v9, v10, v11, v12, v13, v14, v15, v16, v17, v18, v19, v20, v21])), (h1, .inl (k1, 8277, .inl (fun _ => 0))), (h2, .inl (k2, 66216, .inl (fun _ => 0)))] := hD
  refine lv_iinc (v := 62) (lv' := [(3, .int 62), (2, .int 85), (0, .ref h0), (1, .int 0)]) hx hb dX11_keeps_88 hl (k := 0) rfl (by decide +kernel) (by decide) rfl (fun ls hl => ?_)
  refine lv_goto (tgt := 62) hx hb dX11_keeps_91 (by decide) ?_
  refine lv_iload_n hx hb dX11_keeps_62 rfl (lv_at hl 0 rfl) ?_
  refine lv_iload_n hx hb dX11_keeps_63 rfl (lv_at hl 1 rfl) ?_
  refine lv_icmp_ge (tgt := 94) hx hb dX11_keeps_64 (by decide) (fun c9 => absurd c9 (by decide +kernel)) (fun _ => ?_)
  refine lv_aload_n hx hb dX11_keeps_67 rfl (lv_at hl 2 rfl) ?_
  refine va_get (D := D) (ci := 14) (v := .ref h2) (own := RX11) (C := RX11) (T := TX11) (N := 25) hx hb hts hi_X11 hown hK hP 0 rfl rfl 3 (by decide) (hts (.fieldLink RX11 20 "CanalMapsModel" "kept" "[I") (List.mem_of_getElem? (i := 3) (by decide +kernel))) (fun _ h9 => h9) rfl dX11_keeps_68 ?_
  refine lv_sipush (v := 8277) hx hb dX11_keeps_71 (by decide +kernel) ?_
  refine lv_aload_n hx hb dX11_keeps_74 rfl (lv_at hl 2 rfl) ?_
  refine va_get (D := D) (ci := 14) (v := .int 0) (own := RX11) (C := RX11) (T := TX11) (N := 25) hx hb hts hi_X11 hown hK hP 0 rfl rfl 4 (by decide) (hts (.fieldLink RX11 60 "CanalMapsModel" "undos" "I") (List.mem_of_getElem? (i := 1) (by decide +kernel))) (fun _ h9 => h9) rfl dX11_keeps_75 ?_
  refine lv_imul hx hb dX11_keeps_78 ?_
  refine kt_ (v := 0) (by decide +kernel) ?_
  refine lv_iload_n hx hb dX11_keeps_79 rfl (lv_at hl 0 rfl) ?_
  refine lv_iadd hx hb dX11_keeps_80 ?_
  refine kt_ (v := 62) (by decide +kernel) ?_
  refine lv_aload_n hx hb dX11_keeps_81 rfl (lv_at hl 2 rfl) ?_
  refine va_get (D := D) (ci := 14) (v := .ref h1) (own := RX11) (C := RX11) (T := TX11) (N := 25) hx hb hts hi_X11 hown hK hP 0 rfl rfl 1 (by decide) (hts (.fieldLink RX11 13 "CanalMapsModel" "tried" "[I") (List.mem_of_getElem? (i := 4) (by decide +kernel))) (fun _ h9 => h9) rfl dX11_keeps_82 ?_
  refine lv_iload_n hx hb dX11_keeps_85 rfl (lv_at hl 0 rfl) ?_
  refine va_iald hx hb hK hP 1 0 rfl rfl (vin_ (by decide +kernel)) dX11_keeps_86 ?_
  refine kt_ (v := 0) (by decide +kernel) ?_
  refine ka_iast (g := (fun _ => 0)) hx hb hK hP hD hS 2 1 rfl rfl (vin_ (by decide +kernel)) (up_same (by decide +kernel)) dX11_keeps_87 (fun H locs hP hD hS => ?_)
  have hP : va_P D vwCl [(h0, .inr (14, [v0, .ref h1, v1, .ref h2, .int 0, v2, v3, v4, v5, v6, v7, v8, v9, v10, v11, v12, v13, v14, v15, v16, v17, v18, v19, v20, v21])), (h1, .inl (k1, 8277, .inl (fun _ => 0))), (h2, .inl (k2, 66216, .inl (fun _ => 0)))] H := hP
  have hD : va_D A [(h0, .inr (14, [v0, .ref h1, v1, .ref h2, .int 0, v2, v3, v4, v5, v6, v7, v8, v9, v10, v11, v12, v13, v14, v15, v16, v17, v18, v19, v20, v21])), (h1, .inl (k1, 8277, .inl (fun _ => 0))), (h2, .inl (k2, 66216, .inl (fun _ => 0)))] := hD
  refine lv_iinc (v := 63) (lv' := [(3, .int 63), (2, .int 85), (0, .ref h0), (1, .int 0)]) hx hb dX11_keeps_88 hl (k := 0) rfl (by decide +kernel) (by decide) rfl (fun ls hl => ?_)
  refine lv_goto (tgt := 62) hx hb dX11_keeps_91 (by decide) ?_
  refine lv_iload_n hx hb dX11_keeps_62 rfl (lv_at hl 0 rfl) ?_
  refine lv_iload_n hx hb dX11_keeps_63 rfl (lv_at hl 1 rfl) ?_
  refine lv_icmp_ge (tgt := 94) hx hb dX11_keeps_64 (by decide) (fun c9 => absurd c9 (by decide +kernel)) (fun _ => ?_)
  refine lv_aload_n hx hb dX11_keeps_67 rfl (lv_at hl 2 rfl) ?_
  refine va_get (D := D) (ci := 14) (v := .ref h2) (own := RX11) (C := RX11) (T := TX11) (N := 25) hx hb hts hi_X11 hown hK hP 0 rfl rfl 3 (by decide) (hts (.fieldLink RX11 20 "CanalMapsModel" "kept" "[I") (List.mem_of_getElem? (i := 3) (by decide +kernel))) (fun _ h9 => h9) rfl dX11_keeps_68 ?_
  refine lv_sipush (v := 8277) hx hb dX11_keeps_71 (by decide +kernel) ?_
  refine lv_aload_n hx hb dX11_keeps_74 rfl (lv_at hl 2 rfl) ?_
  refine va_get (D := D) (ci := 14) (v := .int 0) (own := RX11) (C := RX11) (T := TX11) (N := 25) hx hb hts hi_X11 hown hK hP 0 rfl rfl 4 (by decide) (hts (.fieldLink RX11 60 "CanalMapsModel" "undos" "I") (List.mem_of_getElem? (i := 1) (by decide +kernel))) (fun _ h9 => h9) rfl dX11_keeps_75 ?_
  refine lv_imul hx hb dX11_keeps_78 ?_
  refine kt_ (v := 0) (by decide +kernel) ?_
  refine lv_iload_n hx hb dX11_keeps_79 rfl (lv_at hl 0 rfl) ?_
  refine lv_iadd hx hb dX11_keeps_80 ?_
  refine kt_ (v := 63) (by decide +kernel) ?_
  refine lv_aload_n hx hb dX11_keeps_81 rfl (lv_at hl 2 rfl) ?_
  refine va_get (D := D) (ci := 14) (v := .ref h1) (own := RX11) (C := RX11) (T := TX11) (N := 25) hx hb hts hi_X11 hown hK hP 0 rfl rfl 1 (by decide) (hts (.fieldLink RX11 13 "CanalMapsModel" "tried" "[I") (List.mem_of_getElem? (i := 4) (by decide +kernel))) (fun _ h9 => h9) rfl dX11_keeps_82 ?_
  refine lv_iload_n hx hb dX11_keeps_85 rfl (lv_at hl 0 rfl) ?_
  refine va_iald hx hb hK hP 1 0 rfl rfl (vin_ (by decide +kernel)) dX11_keeps_86 ?_
  refine kt_ (v := 0) (by decide +kernel) ?_
  refine ka_iast (g := (fun _ => 0)) hx hb hK hP hD hS 2 1 rfl rfl (vin_ (by decide +kernel)) (up_same (by decide +kernel)) dX11_keeps_87 (fun H locs hP hD hS => ?_)
  have hP : va_P D vwCl [(h0, .inr (14, [v0, .ref h1, v1, .ref h2, .int 0, v2, v3, v4, v5, v6, v7, v8, v9, v10, v11, v12, v13, v14, v15, v16, v17, v18, v19, v20, v21])), (h1, .inl (k1, 8277, .inl (fun _ => 0))), (h2, .inl (k2, 66216, .inl (fun _ => 0)))] H := hP
  have hD : va_D A [(h0, .inr (14, [v0, .ref h1, v1, .ref h2, .int 0, v2, v3, v4, v5, v6, v7, v8, v9, v10, v11, v12, v13, v14, v15, v16, v17, v18, v19, v20, v21])), (h1, .inl (k1, 8277, .inl (fun _ => 0))), (h2, .inl (k2, 66216, .inl (fun _ => 0)))] := hD
  refine lv_iinc (v := 64) (lv' := [(3, .int 64), (2, .int 85), (0, .ref h0), (1, .int 0)]) hx hb dX11_keeps_88 hl (k := 0) rfl (by decide +kernel) (by decide) rfl (fun ls hl => ?_)
  refine lv_goto (tgt := 62) hx hb dX11_keeps_91 (by decide) ?_
  refine lv_iload_n hx hb dX11_keeps_62 rfl (lv_at hl 0 rfl) ?_
  refine lv_iload_n hx hb dX11_keeps_63 rfl (lv_at hl 1 rfl) ?_
  refine lv_icmp_ge (tgt := 94) hx hb dX11_keeps_64 (by decide) (fun c9 => absurd c9 (by decide +kernel)) (fun _ => ?_)
  refine lv_aload_n hx hb dX11_keeps_67 rfl (lv_at hl 2 rfl) ?_
  refine va_get (D := D) (ci := 14) (v := .ref h2) (own := RX11) (C := RX11) (T := TX11) (N := 25) hx hb hts hi_X11 hown hK hP 0 rfl rfl 3 (by decide) (hts (.fieldLink RX11 20 "CanalMapsModel" "kept" "[I") (List.mem_of_getElem? (i := 3) (by decide +kernel))) (fun _ h9 => h9) rfl dX11_keeps_68 ?_
  refine lv_sipush (v := 8277) hx hb dX11_keeps_71 (by decide +kernel) ?_
  refine lv_aload_n hx hb dX11_keeps_74 rfl (lv_at hl 2 rfl) ?_
  refine va_get (D := D) (ci := 14) (v := .int 0) (own := RX11) (C := RX11) (T := TX11) (N := 25) hx hb hts hi_X11 hown hK hP 0 rfl rfl 4 (by decide) (hts (.fieldLink RX11 60 "CanalMapsModel" "undos" "I") (List.mem_of_getElem? (i := 1) (by decide +kernel))) (fun _ h9 => h9) rfl dX11_keeps_75 ?_
  refine lv_imul hx hb dX11_keeps_78 ?_
  refine kt_ (v := 0) (by decide +kernel) ?_
  refine lv_iload_n hx hb dX11_keeps_79 rfl (lv_at hl 0 rfl) ?_
  refine lv_iadd hx hb dX11_keeps_80 ?_
  refine kt_ (v := 64) (by decide +kernel) ?_
  refine lv_aload_n hx hb dX11_keeps_81 rfl (lv_at hl 2 rfl) ?_
  refine va_get (D := D) (ci := 14) (v := .ref h1) (own := RX11) (C := RX11) (T := TX11) (N := 25) hx hb hts hi_X11 hown hK hP 0 rfl rfl 1 (by decide) (hts (.fieldLink RX11 13 "CanalMapsModel" "tried" "[I") (List.mem_of_getElem? (i := 4) (by decide +kernel))) (fun _ h9 => h9) rfl dX11_keeps_82 ?_
  refine lv_iload_n hx hb dX11_keeps_85 rfl (lv_at hl 0 rfl) ?_
  refine va_iald hx hb hK hP 1 0 rfl rfl (vin_ (by decide +kernel)) dX11_keeps_86 ?_
  refine kt_ (v := 0) (by decide +kernel) ?_
  refine ka_iast (g := (fun _ => 0)) hx hb hK hP hD hS 2 1 rfl rfl (vin_ (by decide +kernel)) (up_same (by decide +kernel)) dX11_keeps_87 (fun H locs hP hD hS => ?_)
  have hP : va_P D vwCl [(h0, .inr (14, [v0, .ref h1, v1, .ref h2, .int 0, v2, v3, v4, v5, v6, v7, v8, v9, v10, v11, v12, v13, v14, v15, v16, v17, v18, v19, v20, v21])), (h1, .inl (k1, 8277, .inl (fun _ => 0))), (h2, .inl (k2, 66216, .inl (fun _ => 0)))] H := hP
  have hD : va_D A [(h0, .inr (14, [v0, .ref h1, v1, .ref h2, .int 0, v2, v3, v4, v5, v6, v7, v8, v9, v10, v11, v12, v13, v14, v15, v16, v17, v18, v19, v20, v21])), (h1, .inl (k1, 8277, .inl (fun _ => 0))), (h2, .inl (k2, 66216, .inl (fun _ => 0)))] := hD
  refine lv_iinc (v := 65) (lv' := [(3, .int 65), (2, .int 85), (0, .ref h0), (1, .int 0)]) hx hb dX11_keeps_88 hl (k := 0) rfl (by decide +kernel) (by decide) rfl (fun ls hl => ?_)
  refine lv_goto (tgt := 62) hx hb dX11_keeps_91 (by decide) ?_
  refine lv_iload_n hx hb dX11_keeps_62 rfl (lv_at hl 0 rfl) ?_
  refine lv_iload_n hx hb dX11_keeps_63 rfl (lv_at hl 1 rfl) ?_
  refine lv_icmp_ge (tgt := 94) hx hb dX11_keeps_64 (by decide) (fun c9 => absurd c9 (by decide +kernel)) (fun _ => ?_)
  refine lv_aload_n hx hb dX11_keeps_67 rfl (lv_at hl 2 rfl) ?_
  refine va_get (D := D) (ci := 14) (v := .ref h2) (own := RX11) (C := RX11) (T := TX11) (N := 25) hx hb hts hi_X11 hown hK hP 0 rfl rfl 3 (by decide) (hts (.fieldLink RX11 20 "CanalMapsModel" "kept" "[I") (List.mem_of_getElem? (i := 3) (by decide +kernel))) (fun _ h9 => h9) rfl dX11_keeps_68 ?_
  refine lv_sipush (v := 8277) hx hb dX11_keeps_71 (by decide +kernel) ?_
  refine lv_aload_n hx hb dX11_keeps_74 rfl (lv_at hl 2 rfl) ?_
  refine va_get (D := D) (ci := 14) (v := .int 0) (own := RX11) (C := RX11) (T := TX11) (N := 25) hx hb hts hi_X11 hown hK hP 0 rfl rfl 4 (by decide) (hts (.fieldLink RX11 60 "CanalMapsModel" "undos" "I") (List.mem_of_getElem? (i := 1) (by decide +kernel))) (fun _ h9 => h9) rfl dX11_keeps_75 ?_
  refine lv_imul hx hb dX11_keeps_78 ?_
  refine kt_ (v := 0) (by decide +kernel) ?_
  refine lv_iload_n hx hb dX11_keeps_79 rfl (lv_at hl 0 rfl) ?_
  refine lv_iadd hx hb dX11_keeps_80 ?_
  refine kt_ (v := 65) (by decide +kernel) ?_
  refine lv_aload_n hx hb dX11_keeps_81 rfl (lv_at hl 2 rfl) ?_
  refine va_get (D := D) (ci := 14) (v := .ref h1) (own := RX11) (C := RX11) (T := TX11) (N := 25) hx hb hts hi_X11 hown hK hP 0 rfl rfl 1 (by decide) (hts (.fieldLink RX11 13 "CanalMapsModel" "tried" "[I") (List.mem_of_getElem? (i := 4) (by decide +kernel))) (fun _ h9 => h9) rfl dX11_keeps_82 ?_
  refine lv_iload_n hx hb dX11_keeps_85 rfl (lv_at hl 0 rfl) ?_
  refine va_iald hx hb hK hP 1 0 rfl rfl (vin_ (by decide +kernel)) dX11_keeps_86 ?_
  refine kt_ (v := 0) (by decide +kernel) ?_
  refine ka_iast (g := (fun _ => 0)) hx hb hK hP hD hS 2 1 rfl rfl (vin_ (by decide +kernel)) (up_same (by decide +kernel)) dX11_keeps_87 (fun H locs hP hD hS => ?_)
  have hP : va_P D vwCl [(h0, .inr (14, [v0, .ref h1, v1, .ref h2, .int 0, v2, v3, v4, v5, v6, v7, v8, v9, v10, v11, v12, v13, v14, v15, v16, v17, v18, v19, v20, v21])), (h1, .inl (k1, 8277, .inl (fun _ => 0))), (h2, .inl (k2, 66216, .inl (fun _ => 0)))] H := hP
  have hD : va_D A [(h0, .inr (14, [v0, .ref h1, v1, .ref h2, .int 0, v2, v3, v4, v5, v6, v7, v8, v9, v10, v11, v12, v13, v14, v15, v16, v17, v18, v19, v20, v21])), (h1, .inl (k1, 8277, .inl (fun _ => 0))), (h2, .inl (k2, 66216, .inl (fun _ => 0)))] := hD
  refine lv_iinc (v := 66) (lv' := [(3, .int 66), (2, .int 85), (0, .ref h0), (1, .int 0)]) hx hb dX11_keeps_88 hl (k := 0) rfl (by decide +kernel) (by decide) rfl (fun ls hl => ?_)
  refine lv_goto (tgt := 62) hx hb dX11_keeps_91 (by decide) ?_
  refine lv_iload_n hx hb dX11_keeps_62 rfl (lv_at hl 0 rfl) ?_
  refine lv_iload_n hx hb dX11_keeps_63 rfl (lv_at hl 1 rfl) ?_
  refine lv_icmp_ge (tgt := 94) hx hb dX11_keeps_64 (by decide) (fun c9 => absurd c9 (by decide +kernel)) (fun _ => ?_)
  refine lv_aload_n hx hb dX11_keeps_67 rfl (lv_at hl 2 rfl) ?_
  refine va_get (D := D) (ci := 14) (v := .ref h2) (own := RX11) (C := RX11) (T := TX11) (N := 25) hx hb hts hi_X11 hown hK hP 0 rfl rfl 3 (by decide) (hts (.fieldLink RX11 20 "CanalMapsModel" "kept" "[I") (List.mem_of_getElem? (i := 3) (by decide +kernel))) (fun _ h9 => h9) rfl dX11_keeps_68 ?_
  refine lv_sipush (v := 8277) hx hb dX11_keeps_71 (by decide +kernel) ?_
  refine lv_aload_n hx hb dX11_keeps_74 rfl (lv_at hl 2 rfl) ?_
  refine va_get (D := D) (ci := 14) (v := .int 0) (own := RX11) (C := RX11) (T := TX11) (N := 25) hx hb hts hi_X11 hown hK hP 0 rfl rfl 4 (by decide) (hts (.fieldLink RX11 60 "CanalMapsModel" "undos" "I") (List.mem_of_getElem? (i := 1) (by decide +kernel))) (fun _ h9 => h9) rfl dX11_keeps_75 ?_
  refine lv_imul hx hb dX11_keeps_78 ?_
  refine kt_ (v := 0) (by decide +kernel) ?_
  refine lv_iload_n hx hb dX11_keeps_79 rfl (lv_at hl 0 rfl) ?_
  refine lv_iadd hx hb dX11_keeps_80 ?_
  refine kt_ (v := 66) (by decide +kernel) ?_
  refine lv_aload_n hx hb dX11_keeps_81 rfl (lv_at hl 2 rfl) ?_
  refine va_get (D := D) (ci := 14) (v := .ref h1) (own := RX11) (C := RX11) (T := TX11) (N := 25) hx hb hts hi_X11 hown hK hP 0 rfl rfl 1 (by decide) (hts (.fieldLink RX11 13 "CanalMapsModel" "tried" "[I") (List.mem_of_getElem? (i := 4) (by decide +kernel))) (fun _ h9 => h9) rfl dX11_keeps_82 ?_
  refine lv_iload_n hx hb dX11_keeps_85 rfl (lv_at hl 0 rfl) ?_
  refine va_iald hx hb hK hP 1 0 rfl rfl (vin_ (by decide +kernel)) dX11_keeps_86 ?_
  refine kt_ (v := 0) (by decide +kernel) ?_
  refine ka_iast (g := (fun _ => 0)) hx hb hK hP hD hS 2 1 rfl rfl (vin_ (by decide +kernel)) (up_same (by decide +kernel)) dX11_keeps_87 (fun H locs hP hD hS => ?_)
  have hP : va_P D vwCl [(h0, .inr (14, [v0, .ref h1, v1, .ref h2, .int 0, v2, v3, v4, v5, v6, v7, v8, v9, v10, v11, v12, v13, v14, v15, v16, v17, v18, v19, v20, v21])), (h1, .inl (k1, 8277, .inl (fun _ => 0))), (h2, .inl (k2, 66216, .inl (fun _ => 0)))] H := hP
  have hD : va_D A [(h0, .inr (14, [v0, .ref h1, v1, .ref h2, .int 0, v2, v3, v4, v5, v6, v7, v8, v9, v10, v11, v12, v13, v14, v15, v16, v17, v18, v19, v20, v21])), (h1, .inl (k1, 8277, .inl (fun _ => 0))), (h2, .inl (k2, 66216, .inl (fun _ => 0)))] := hD
  refine lv_iinc (v := 67) (lv' := [(3, .int 67), (2, .int 85), (0, .ref h0), (1, .int 0)]) hx hb dX11_keeps_88 hl (k := 0) rfl (by decide +kernel) (by decide) rfl (fun ls hl => ?_)
  refine lv_goto (tgt := 62) hx hb dX11_keeps_91 (by decide) ?_
  refine lv_iload_n hx hb dX11_keeps_62 rfl (lv_at hl 0 rfl) ?_
  refine lv_iload_n hx hb dX11_keeps_63 rfl (lv_at hl 1 rfl) ?_
  refine lv_icmp_ge (tgt := 94) hx hb dX11_keeps_64 (by decide) (fun c9 => absurd c9 (by decide +kernel)) (fun _ => ?_)
  refine lv_aload_n hx hb dX11_keeps_67 rfl (lv_at hl 2 rfl) ?_
  refine va_get (D := D) (ci := 14) (v := .ref h2) (own := RX11) (C := RX11) (T := TX11) (N := 25) hx hb hts hi_X11 hown hK hP 0 rfl rfl 3 (by decide) (hts (.fieldLink RX11 20 "CanalMapsModel" "kept" "[I") (List.mem_of_getElem? (i := 3) (by decide +kernel))) (fun _ h9 => h9) rfl dX11_keeps_68 ?_
  refine lv_sipush (v := 8277) hx hb dX11_keeps_71 (by decide +kernel) ?_
  refine lv_aload_n hx hb dX11_keeps_74 rfl (lv_at hl 2 rfl) ?_
  refine va_get (D := D) (ci := 14) (v := .int 0) (own := RX11) (C := RX11) (T := TX11) (N := 25) hx hb hts hi_X11 hown hK hP 0 rfl rfl 4 (by decide) (hts (.fieldLink RX11 60 "CanalMapsModel" "undos" "I") (List.mem_of_getElem? (i := 1) (by decide +kernel))) (fun _ h9 => h9) rfl dX11_keeps_75 ?_
  refine lv_imul hx hb dX11_keeps_78 ?_
  refine kt_ (v := 0) (by decide +kernel) ?_
  refine lv_iload_n hx hb dX11_keeps_79 rfl (lv_at hl 0 rfl) ?_
  refine lv_iadd hx hb dX11_keeps_80 ?_
  refine kt_ (v := 67) (by decide +kernel) ?_
  refine lv_aload_n hx hb dX11_keeps_81 rfl (lv_at hl 2 rfl) ?_
  refine va_get (D := D) (ci := 14) (v := .ref h1) (own := RX11) (C := RX11) (T := TX11) (N := 25) hx hb hts hi_X11 hown hK hP 0 rfl rfl 1 (by decide) (hts (.fieldLink RX11 13 "CanalMapsModel" "tried" "[I") (List.mem_of_getElem? (i := 4) (by decide +kernel))) (fun _ h9 => h9) rfl dX11_keeps_82 ?_
  refine lv_iload_n hx hb dX11_keeps_85 rfl (lv_at hl 0 rfl) ?_
  refine va_iald hx hb hK hP 1 0 rfl rfl (vin_ (by decide +kernel)) dX11_keeps_86 ?_
  refine kt_ (v := 0) (by decide +kernel) ?_
  refine ka_iast (g := (fun _ => 0)) hx hb hK hP hD hS 2 1 rfl rfl (vin_ (by decide +kernel)) (up_same (by decide +kernel)) dX11_keeps_87 (fun H locs hP hD hS => ?_)
  have hP : va_P D vwCl [(h0, .inr (14, [v0, .ref h1, v1, .ref h2, .int 0, v2, v3, v4, v5, v6, v7, v8, v9, v10, v11, v12, v13, v14, v15, v16, v17, v18, v19, v20, v21])), (h1, .inl (k1, 8277, .inl (fun _ => 0))), (h2, .inl (k2, 66216, .inl (fun _ => 0)))] H := hP
  have hD : va_D A [(h0, .inr (14, [v0, .ref h1, v1, .ref h2, .int 0, v2, v3, v4, v5, v6, v7, v8, v9, v10, v11, v12, v13, v14, v15, v16, v17, v18, v19, v20, v21])), (h1, .inl (k1, 8277, .inl (fun _ => 0))), (h2, .inl (k2, 66216, .inl (fun _ => 0)))] := hD
  refine lv_iinc (v := 68) (lv' := [(3, .int 68), (2, .int 85), (0, .ref h0), (1, .int 0)]) hx hb dX11_keeps_88 hl (k := 0) rfl (by decide +kernel) (by decide) rfl (fun ls hl => ?_)
  refine lv_goto (tgt := 62) hx hb dX11_keeps_91 (by decide) ?_
  refine lv_iload_n hx hb dX11_keeps_62 rfl (lv_at hl 0 rfl) ?_
  refine lv_iload_n hx hb dX11_keeps_63 rfl (lv_at hl 1 rfl) ?_
  refine lv_icmp_ge (tgt := 94) hx hb dX11_keeps_64 (by decide) (fun c9 => absurd c9 (by decide +kernel)) (fun _ => ?_)
  refine lv_aload_n hx hb dX11_keeps_67 rfl (lv_at hl 2 rfl) ?_
  refine va_get (D := D) (ci := 14) (v := .ref h2) (own := RX11) (C := RX11) (T := TX11) (N := 25) hx hb hts hi_X11 hown hK hP 0 rfl rfl 3 (by decide) (hts (.fieldLink RX11 20 "CanalMapsModel" "kept" "[I") (List.mem_of_getElem? (i := 3) (by decide +kernel))) (fun _ h9 => h9) rfl dX11_keeps_68 ?_
  refine lv_sipush (v := 8277) hx hb dX11_keeps_71 (by decide +kernel) ?_
  refine lv_aload_n hx hb dX11_keeps_74 rfl (lv_at hl 2 rfl) ?_
  refine va_get (D := D) (ci := 14) (v := .int 0) (own := RX11) (C := RX11) (T := TX11) (N := 25) hx hb hts hi_X11 hown hK hP 0 rfl rfl 4 (by decide) (hts (.fieldLink RX11 60 "CanalMapsModel" "undos" "I") (List.mem_of_getElem? (i := 1) (by decide +kernel))) (fun _ h9 => h9) rfl dX11_keeps_75 ?_
  refine lv_imul hx hb dX11_keeps_78 ?_
  refine kt_ (v := 0) (by decide +kernel) ?_
  refine lv_iload_n hx hb dX11_keeps_79 rfl (lv_at hl 0 rfl) ?_
  refine lv_iadd hx hb dX11_keeps_80 ?_
  refine kt_ (v := 68) (by decide +kernel) ?_
  refine lv_aload_n hx hb dX11_keeps_81 rfl (lv_at hl 2 rfl) ?_
  refine va_get (D := D) (ci := 14) (v := .ref h1) (own := RX11) (C := RX11) (T := TX11) (N := 25) hx hb hts hi_X11 hown hK hP 0 rfl rfl 1 (by decide) (hts (.fieldLink RX11 13 "CanalMapsModel" "tried" "[I") (List.mem_of_getElem? (i := 4) (by decide +kernel))) (fun _ h9 => h9) rfl dX11_keeps_82 ?_
  refine lv_iload_n hx hb dX11_keeps_85 rfl (lv_at hl 0 rfl) ?_
  refine va_iald hx hb hK hP 1 0 rfl rfl (vin_ (by decide +kernel)) dX11_keeps_86 ?_
  refine kt_ (v := 0) (by decide +kernel) ?_
  refine ka_iast (g := (fun _ => 0)) hx hb hK hP hD hS 2 1 rfl rfl (vin_ (by decide +kernel)) (up_same (by decide +kernel)) dX11_keeps_87 (fun H locs hP hD hS => ?_)
  have hP : va_P D vwCl [(h0, .inr (14, [v0, .ref h1, v1, .ref h2, .int 0, v2, v3, v4, v5, v6, v7, v8, v9, v10, v11, v12, v13, v14, v15, v16, v17, v18, v19, v20, v21])), (h1, .inl (k1, 8277, .inl (fun _ => 0))), (h2, .inl (k2, 66216, .inl (fun _ => 0)))] H := hP
  have hD : va_D A [(h0, .inr (14, [v0, .ref h1, v1, .ref h2, .int 0, v2, v3, v4, v5, v6, v7, v8, v9, v10, v11, v12, v13, v14, v15, v16, v17, v18, v19, v20, v21])), (h1, .inl (k1, 8277, .inl (fun _ => 0))), (h2, .inl (k2, 66216, .inl (fun _ => 0)))] := hD
  refine lv_iinc (v := 69) (lv' := [(3, .int 69), (2, .int 85), (0, .ref h0), (1, .int 0)]) hx hb dX11_keeps_88 hl (k := 0) rfl (by decide +kernel) (by decide) rfl (fun ls hl => ?_)
  refine lv_goto (tgt := 62) hx hb dX11_keeps_91 (by decide) ?_
  refine lv_iload_n hx hb dX11_keeps_62 rfl (lv_at hl 0 rfl) ?_
  refine lv_iload_n hx hb dX11_keeps_63 rfl (lv_at hl 1 rfl) ?_
  refine lv_icmp_ge (tgt := 94) hx hb dX11_keeps_64 (by decide) (fun c9 => absurd c9 (by decide +kernel)) (fun _ => ?_)
  refine lv_aload_n hx hb dX11_keeps_67 rfl (lv_at hl 2 rfl) ?_
  refine va_get (D := D) (ci := 14) (v := .ref h2) (own := RX11) (C := RX11) (T := TX11) (N := 25) hx hb hts hi_X11 hown hK hP 0 rfl rfl 3 (by decide) (hts (.fieldLink RX11 20 "CanalMapsModel" "kept" "[I") (List.mem_of_getElem? (i := 3) (by decide +kernel))) (fun _ h9 => h9) rfl dX11_keeps_68 ?_
  refine lv_sipush (v := 8277) hx hb dX11_keeps_71 (by decide +kernel) ?_
  refine lv_aload_n hx hb dX11_keeps_74 rfl (lv_at hl 2 rfl) ?_
  refine va_get (D := D) (ci := 14) (v := .int 0) (own := RX11) (C := RX11) (T := TX11) (N := 25) hx hb hts hi_X11 hown hK hP 0 rfl rfl 4 (by decide) (hts (.fieldLink RX11 60 "CanalMapsModel" "undos" "I") (List.mem_of_getElem? (i := 1) (by decide +kernel))) (fun _ h9 => h9) rfl dX11_keeps_75 ?_
  refine lv_imul hx hb dX11_keeps_78 ?_
  refine kt_ (v := 0) (by decide +kernel) ?_
  refine lv_iload_n hx hb dX11_keeps_79 rfl (lv_at hl 0 rfl) ?_
  refine lv_iadd hx hb dX11_keeps_80 ?_
  refine kt_ (v := 69) (by decide +kernel) ?_
  refine lv_aload_n hx hb dX11_keeps_81 rfl (lv_at hl 2 rfl) ?_
  refine va_get (D := D) (ci := 14) (v := .ref h1) (own := RX11) (C := RX11) (T := TX11) (N := 25) hx hb hts hi_X11 hown hK hP 0 rfl rfl 1 (by decide) (hts (.fieldLink RX11 13 "CanalMapsModel" "tried" "[I") (List.mem_of_getElem? (i := 4) (by decide +kernel))) (fun _ h9 => h9) rfl dX11_keeps_82 ?_
  refine lv_iload_n hx hb dX11_keeps_85 rfl (lv_at hl 0 rfl) ?_
  refine va_iald hx hb hK hP 1 0 rfl rfl (vin_ (by decide +kernel)) dX11_keeps_86 ?_
  refine kt_ (v := 0) (by decide +kernel) ?_
  refine ka_iast (g := (fun _ => 0)) hx hb hK hP hD hS 2 1 rfl rfl (vin_ (by decide +kernel)) (up_same (by decide +kernel)) dX11_keeps_87 (fun H locs hP hD hS => ?_)
  have hP : va_P D vwCl [(h0, .inr (14, [v0, .ref h1, v1, .ref h2, .int 0, v2, v3, v4, v5, v6, v7, v8, v9, v10, v11, v12, v13, v14, v15, v16, v17, v18, v19, v20, v21])), (h1, .inl (k1, 8277, .inl (fun _ => 0))), (h2, .inl (k2, 66216, .inl (fun _ => 0)))] H := hP
  have hD : va_D A [(h0, .inr (14, [v0, .ref h1, v1, .ref h2, .int 0, v2, v3, v4, v5, v6, v7, v8, v9, v10, v11, v12, v13, v14, v15, v16, v17, v18, v19, v20, v21])), (h1, .inl (k1, 8277, .inl (fun _ => 0))), (h2, .inl (k2, 66216, .inl (fun _ => 0)))] := hD
  refine lv_iinc (v := 70) (lv' := [(3, .int 70), (2, .int 85), (0, .ref h0), (1, .int 0)]) hx hb dX11_keeps_88 hl (k := 0) rfl (by decide +kernel) (by decide) rfl (fun ls hl => ?_)
  refine lv_goto (tgt := 62) hx hb dX11_keeps_91 (by decide) ?_
  refine lv_iload_n hx hb dX11_keeps_62 rfl (lv_at hl 0 rfl) ?_
  refine lv_iload_n hx hb dX11_keeps_63 rfl (lv_at hl 1 rfl) ?_
  refine lv_icmp_ge (tgt := 94) hx hb dX11_keeps_64 (by decide) (fun c9 => absurd c9 (by decide +kernel)) (fun _ => ?_)
  refine lv_aload_n hx hb dX11_keeps_67 rfl (lv_at hl 2 rfl) ?_
  refine va_get (D := D) (ci := 14) (v := .ref h2) (own := RX11) (C := RX11) (T := TX11) (N := 25) hx hb hts hi_X11 hown hK hP 0 rfl rfl 3 (by decide) (hts (.fieldLink RX11 20 "CanalMapsModel" "kept" "[I") (List.mem_of_getElem? (i := 3) (by decide +kernel))) (fun _ h9 => h9) rfl dX11_keeps_68 ?_
  refine lv_sipush (v := 8277) hx hb dX11_keeps_71 (by decide +kernel) ?_
  refine lv_aload_n hx hb dX11_keeps_74 rfl (lv_at hl 2 rfl) ?_
  refine va_get (D := D) (ci := 14) (v := .int 0) (own := RX11) (C := RX11) (T := TX11) (N := 25) hx hb hts hi_X11 hown hK hP 0 rfl rfl 4 (by decide) (hts (.fieldLink RX11 60 "CanalMapsModel" "undos" "I") (List.mem_of_getElem? (i := 1) (by decide +kernel))) (fun _ h9 => h9) rfl dX11_keeps_75 ?_
  refine lv_imul hx hb dX11_keeps_78 ?_
  refine kt_ (v := 0) (by decide +kernel) ?_
  refine lv_iload_n hx hb dX11_keeps_79 rfl (lv_at hl 0 rfl) ?_
  refine lv_iadd hx hb dX11_keeps_80 ?_
  refine kt_ (v := 70) (by decide +kernel) ?_
  refine lv_aload_n hx hb dX11_keeps_81 rfl (lv_at hl 2 rfl) ?_
  refine va_get (D := D) (ci := 14) (v := .ref h1) (own := RX11) (C := RX11) (T := TX11) (N := 25) hx hb hts hi_X11 hown hK hP 0 rfl rfl 1 (by decide) (hts (.fieldLink RX11 13 "CanalMapsModel" "tried" "[I") (List.mem_of_getElem? (i := 4) (by decide +kernel))) (fun _ h9 => h9) rfl dX11_keeps_82 ?_
  refine lv_iload_n hx hb dX11_keeps_85 rfl (lv_at hl 0 rfl) ?_
  refine va_iald hx hb hK hP 1 0 rfl rfl (vin_ (by decide +kernel)) dX11_keeps_86 ?_
  refine kt_ (v := 0) (by decide +kernel) ?_
  refine ka_iast (g := (fun _ => 0)) hx hb hK hP hD hS 2 1 rfl rfl (vin_ (by decide +kernel)) (up_same (by decide +kernel)) dX11_keeps_87 (fun H locs hP hD hS => ?_)
  have hP : va_P D vwCl [(h0, .inr (14, [v0, .ref h1, v1, .ref h2, .int 0, v2, v3, v4, v5, v6, v7, v8, v9, v10, v11, v12, v13, v14, v15, v16, v17, v18, v19, v20, v21])), (h1, .inl (k1, 8277, .inl (fun _ => 0))), (h2, .inl (k2, 66216, .inl (fun _ => 0)))] H := hP
  have hD : va_D A [(h0, .inr (14, [v0, .ref h1, v1, .ref h2, .int 0, v2, v3, v4, v5, v6, v7, v8, v9, v10, v11, v12, v13, v14, v15, v16, v17, v18, v19, v20, v21])), (h1, .inl (k1, 8277, .inl (fun _ => 0))), (h2, .inl (k2, 66216, .inl (fun _ => 0)))] := hD
  refine lv_iinc (v := 71) (lv' := [(3, .int 71), (2, .int 85), (0, .ref h0), (1, .int 0)]) hx hb dX11_keeps_88 hl (k := 0) rfl (by decide +kernel) (by decide) rfl (fun ls hl => ?_)
  refine lv_goto (tgt := 62) hx hb dX11_keeps_91 (by decide) ?_
  refine lv_iload_n hx hb dX11_keeps_62 rfl (lv_at hl 0 rfl) ?_
  refine lv_iload_n hx hb dX11_keeps_63 rfl (lv_at hl 1 rfl) ?_
  refine lv_icmp_ge (tgt := 94) hx hb dX11_keeps_64 (by decide) (fun c9 => absurd c9 (by decide +kernel)) (fun _ => ?_)
  refine lv_aload_n hx hb dX11_keeps_67 rfl (lv_at hl 2 rfl) ?_
  refine va_get (D := D) (ci := 14) (v := .ref h2) (own := RX11) (C := RX11) (T := TX11) (N := 25) hx hb hts hi_X11 hown hK hP 0 rfl rfl 3 (by decide) (hts (.fieldLink RX11 20 "CanalMapsModel" "kept" "[I") (List.mem_of_getElem? (i := 3) (by decide +kernel))) (fun _ h9 => h9) rfl dX11_keeps_68 ?_
  refine lv_sipush (v := 8277) hx hb dX11_keeps_71 (by decide +kernel) ?_
  refine lv_aload_n hx hb dX11_keeps_74 rfl (lv_at hl 2 rfl) ?_
  refine va_get (D := D) (ci := 14) (v := .int 0) (own := RX11) (C := RX11) (T := TX11) (N := 25) hx hb hts hi_X11 hown hK hP 0 rfl rfl 4 (by decide) (hts (.fieldLink RX11 60 "CanalMapsModel" "undos" "I") (List.mem_of_getElem? (i := 1) (by decide +kernel))) (fun _ h9 => h9) rfl dX11_keeps_75 ?_
  refine lv_imul hx hb dX11_keeps_78 ?_
  refine kt_ (v := 0) (by decide +kernel) ?_
  refine lv_iload_n hx hb dX11_keeps_79 rfl (lv_at hl 0 rfl) ?_
  refine lv_iadd hx hb dX11_keeps_80 ?_
  refine kt_ (v := 71) (by decide +kernel) ?_
  refine lv_aload_n hx hb dX11_keeps_81 rfl (lv_at hl 2 rfl) ?_
  refine va_get (D := D) (ci := 14) (v := .ref h1) (own := RX11) (C := RX11) (T := TX11) (N := 25) hx hb hts hi_X11 hown hK hP 0 rfl rfl 1 (by decide) (hts (.fieldLink RX11 13 "CanalMapsModel" "tried" "[I") (List.mem_of_getElem? (i := 4) (by decide +kernel))) (fun _ h9 => h9) rfl dX11_keeps_82 ?_
  refine lv_iload_n hx hb dX11_keeps_85 rfl (lv_at hl 0 rfl) ?_
  refine va_iald hx hb hK hP 1 0 rfl rfl (vin_ (by decide +kernel)) dX11_keeps_86 ?_
  refine kt_ (v := 0) (by decide +kernel) ?_
  refine ka_iast (g := (fun _ => 0)) hx hb hK hP hD hS 2 1 rfl rfl (vin_ (by decide +kernel)) (up_same (by decide +kernel)) dX11_keeps_87 (fun H locs hP hD hS => ?_)
  have hP : va_P D vwCl [(h0, .inr (14, [v0, .ref h1, v1, .ref h2, .int 0, v2, v3, v4, v5, v6, v7, v8, v9, v10, v11, v12, v13, v14, v15, v16, v17, v18, v19, v20, v21])), (h1, .inl (k1, 8277, .inl (fun _ => 0))), (h2, .inl (k2, 66216, .inl (fun _ => 0)))] H := hP
  have hD : va_D A [(h0, .inr (14, [v0, .ref h1, v1, .ref h2, .int 0, v2, v3, v4, v5, v6, v7, v8, v9, v10, v11, v12, v13, v14, v15, v16, v17, v18, v19, v20, v21])), (h1, .inl (k1, 8277, .inl (fun _ => 0))), (h2, .inl (k2, 66216, .inl (fun _ => 0)))] := hD
  refine lv_iinc (v := 72) (lv' := [(3, .int 72), (2, .int 85), (0, .ref h0), (1, .int 0)]) hx hb dX11_keeps_88 hl (k := 0) rfl (by decide +kernel) (by decide) rfl (fun ls hl => ?_)
  refine lv_goto (tgt := 62) hx hb dX11_keeps_91 (by decide) ?_
  refine lv_iload_n hx hb dX11_keeps_62 rfl (lv_at hl 0 rfl) ?_
  refine lv_iload_n hx hb dX11_keeps_63 rfl (lv_at hl 1 rfl) ?_
  refine lv_icmp_ge (tgt := 94) hx hb dX11_keeps_64 (by decide) (fun c9 => absurd c9 (by decide +kernel)) (fun _ => ?_)
  refine lv_aload_n hx hb dX11_keeps_67 rfl (lv_at hl 2 rfl) ?_
  refine va_get (D := D) (ci := 14) (v := .ref h2) (own := RX11) (C := RX11) (T := TX11) (N := 25) hx hb hts hi_X11 hown hK hP 0 rfl rfl 3 (by decide) (hts (.fieldLink RX11 20 "CanalMapsModel" "kept" "[I") (List.mem_of_getElem? (i := 3) (by decide +kernel))) (fun _ h9 => h9) rfl dX11_keeps_68 ?_
  refine lv_sipush (v := 8277) hx hb dX11_keeps_71 (by decide +kernel) ?_
  refine lv_aload_n hx hb dX11_keeps_74 rfl (lv_at hl 2 rfl) ?_
  refine va_get (D := D) (ci := 14) (v := .int 0) (own := RX11) (C := RX11) (T := TX11) (N := 25) hx hb hts hi_X11 hown hK hP 0 rfl rfl 4 (by decide) (hts (.fieldLink RX11 60 "CanalMapsModel" "undos" "I") (List.mem_of_getElem? (i := 1) (by decide +kernel))) (fun _ h9 => h9) rfl dX11_keeps_75 ?_
  refine lv_imul hx hb dX11_keeps_78 ?_
  refine kt_ (v := 0) (by decide +kernel) ?_
  refine lv_iload_n hx hb dX11_keeps_79 rfl (lv_at hl 0 rfl) ?_
  refine lv_iadd hx hb dX11_keeps_80 ?_
  refine kt_ (v := 72) (by decide +kernel) ?_
  refine lv_aload_n hx hb dX11_keeps_81 rfl (lv_at hl 2 rfl) ?_
  refine va_get (D := D) (ci := 14) (v := .ref h1) (own := RX11) (C := RX11) (T := TX11) (N := 25) hx hb hts hi_X11 hown hK hP 0 rfl rfl 1 (by decide) (hts (.fieldLink RX11 13 "CanalMapsModel" "tried" "[I") (List.mem_of_getElem? (i := 4) (by decide +kernel))) (fun _ h9 => h9) rfl dX11_keeps_82 ?_
  refine lv_iload_n hx hb dX11_keeps_85 rfl (lv_at hl 0 rfl) ?_
  refine va_iald hx hb hK hP 1 0 rfl rfl (vin_ (by decide +kernel)) dX11_keeps_86 ?_
  refine kt_ (v := 0) (by decide +kernel) ?_
  refine ka_iast (g := (fun _ => 0)) hx hb hK hP hD hS 2 1 rfl rfl (vin_ (by decide +kernel)) (up_same (by decide +kernel)) dX11_keeps_87 (fun H locs hP hD hS => ?_)
  have hP : va_P D vwCl [(h0, .inr (14, [v0, .ref h1, v1, .ref h2, .int 0, v2, v3, v4, v5, v6, v7, v8, v9, v10, v11, v12, v13, v14, v15, v16, v17, v18, v19, v20, v21])), (h1, .inl (k1, 8277, .inl (fun _ => 0))), (h2, .inl (k2, 66216, .inl (fun _ => 0)))] H := hP
  have hD : va_D A [(h0, .inr (14, [v0, .ref h1, v1, .ref h2, .int 0, v2, v3, v4, v5, v6, v7, v8, v9, v10, v11, v12, v13, v14, v15, v16, v17, v18, v19, v20, v21])), (h1, .inl (k1, 8277, .inl (fun _ => 0))), (h2, .inl (k2, 66216, .inl (fun _ => 0)))] := hD
  refine lv_iinc (v := 73) (lv' := [(3, .int 73), (2, .int 85), (0, .ref h0), (1, .int 0)]) hx hb dX11_keeps_88 hl (k := 0) rfl (by decide +kernel) (by decide) rfl (fun ls hl => ?_)
  refine lv_goto (tgt := 62) hx hb dX11_keeps_91 (by decide) ?_
  refine lv_iload_n hx hb dX11_keeps_62 rfl (lv_at hl 0 rfl) ?_
  refine lv_iload_n hx hb dX11_keeps_63 rfl (lv_at hl 1 rfl) ?_
  refine lv_icmp_ge (tgt := 94) hx hb dX11_keeps_64 (by decide) (fun c9 => absurd c9 (by decide +kernel)) (fun _ => ?_)
  refine lv_aload_n hx hb dX11_keeps_67 rfl (lv_at hl 2 rfl) ?_
  refine va_get (D := D) (ci := 14) (v := .ref h2) (own := RX11) (C := RX11) (T := TX11) (N := 25) hx hb hts hi_X11 hown hK hP 0 rfl rfl 3 (by decide) (hts (.fieldLink RX11 20 "CanalMapsModel" "kept" "[I") (List.mem_of_getElem? (i := 3) (by decide +kernel))) (fun _ h9 => h9) rfl dX11_keeps_68 ?_
  refine lv_sipush (v := 8277) hx hb dX11_keeps_71 (by decide +kernel) ?_
  refine lv_aload_n hx hb dX11_keeps_74 rfl (lv_at hl 2 rfl) ?_
  refine va_get (D := D) (ci := 14) (v := .int 0) (own := RX11) (C := RX11) (T := TX11) (N := 25) hx hb hts hi_X11 hown hK hP 0 rfl rfl 4 (by decide) (hts (.fieldLink RX11 60 "CanalMapsModel" "undos" "I") (List.mem_of_getElem? (i := 1) (by decide +kernel))) (fun _ h9 => h9) rfl dX11_keeps_75 ?_
  refine lv_imul hx hb dX11_keeps_78 ?_
  refine kt_ (v := 0) (by decide +kernel) ?_
  refine lv_iload_n hx hb dX11_keeps_79 rfl (lv_at hl 0 rfl) ?_
  refine lv_iadd hx hb dX11_keeps_80 ?_
  refine kt_ (v := 73) (by decide +kernel) ?_
  refine lv_aload_n hx hb dX11_keeps_81 rfl (lv_at hl 2 rfl) ?_
  refine va_get (D := D) (ci := 14) (v := .ref h1) (own := RX11) (C := RX11) (T := TX11) (N := 25) hx hb hts hi_X11 hown hK hP 0 rfl rfl 1 (by decide) (hts (.fieldLink RX11 13 "CanalMapsModel" "tried" "[I") (List.mem_of_getElem? (i := 4) (by decide +kernel))) (fun _ h9 => h9) rfl dX11_keeps_82 ?_
  refine lv_iload_n hx hb dX11_keeps_85 rfl (lv_at hl 0 rfl) ?_
  refine va_iald hx hb hK hP 1 0 rfl rfl (vin_ (by decide +kernel)) dX11_keeps_86 ?_
  refine kt_ (v := 0) (by decide +kernel) ?_
  refine ka_iast (g := (fun _ => 0)) hx hb hK hP hD hS 2 1 rfl rfl (vin_ (by decide +kernel)) (up_same (by decide +kernel)) dX11_keeps_87 (fun H locs hP hD hS => ?_)
  have hP : va_P D vwCl [(h0, .inr (14, [v0, .ref h1, v1, .ref h2, .int 0, v2, v3, v4, v5, v6, v7, v8, v9, v10, v11, v12, v13, v14, v15, v16, v17, v18, v19, v20, v21])), (h1, .inl (k1, 8277, .inl (fun _ => 0))), (h2, .inl (k2, 66216, .inl (fun _ => 0)))] H := hP
  have hD : va_D A [(h0, .inr (14, [v0, .ref h1, v1, .ref h2, .int 0, v2, v3, v4, v5, v6, v7, v8, v9, v10, v11, v12, v13, v14, v15, v16, v17, v18, v19, v20, v21])), (h1, .inl (k1, 8277, .inl (fun _ => 0))), (h2, .inl (k2, 66216, .inl (fun _ => 0)))] := hD
  refine lv_iinc (v := 74) (lv' := [(3, .int 74), (2, .int 85), (0, .ref h0), (1, .int 0)]) hx hb dX11_keeps_88 hl (k := 0) rfl (by decide +kernel) (by decide) rfl (fun ls hl => ?_)
  refine lv_goto (tgt := 62) hx hb dX11_keeps_91 (by decide) ?_
  refine lv_iload_n hx hb dX11_keeps_62 rfl (lv_at hl 0 rfl) ?_
  refine lv_iload_n hx hb dX11_keeps_63 rfl (lv_at hl 1 rfl) ?_
  refine lv_icmp_ge (tgt := 94) hx hb dX11_keeps_64 (by decide) (fun c9 => absurd c9 (by decide +kernel)) (fun _ => ?_)
  refine lv_aload_n hx hb dX11_keeps_67 rfl (lv_at hl 2 rfl) ?_
  refine va_get (D := D) (ci := 14) (v := .ref h2) (own := RX11) (C := RX11) (T := TX11) (N := 25) hx hb hts hi_X11 hown hK hP 0 rfl rfl 3 (by decide) (hts (.fieldLink RX11 20 "CanalMapsModel" "kept" "[I") (List.mem_of_getElem? (i := 3) (by decide +kernel))) (fun _ h9 => h9) rfl dX11_keeps_68 ?_
  refine lv_sipush (v := 8277) hx hb dX11_keeps_71 (by decide +kernel) ?_
  refine lv_aload_n hx hb dX11_keeps_74 rfl (lv_at hl 2 rfl) ?_
  refine va_get (D := D) (ci := 14) (v := .int 0) (own := RX11) (C := RX11) (T := TX11) (N := 25) hx hb hts hi_X11 hown hK hP 0 rfl rfl 4 (by decide) (hts (.fieldLink RX11 60 "CanalMapsModel" "undos" "I") (List.mem_of_getElem? (i := 1) (by decide +kernel))) (fun _ h9 => h9) rfl dX11_keeps_75 ?_
  refine lv_imul hx hb dX11_keeps_78 ?_
  refine kt_ (v := 0) (by decide +kernel) ?_
  refine lv_iload_n hx hb dX11_keeps_79 rfl (lv_at hl 0 rfl) ?_
  refine lv_iadd hx hb dX11_keeps_80 ?_
  refine kt_ (v := 74) (by decide +kernel) ?_
  refine lv_aload_n hx hb dX11_keeps_81 rfl (lv_at hl 2 rfl) ?_
  refine va_get (D := D) (ci := 14) (v := .ref h1) (own := RX11) (C := RX11) (T := TX11) (N := 25) hx hb hts hi_X11 hown hK hP 0 rfl rfl 1 (by decide) (hts (.fieldLink RX11 13 "CanalMapsModel" "tried" "[I") (List.mem_of_getElem? (i := 4) (by decide +kernel))) (fun _ h9 => h9) rfl dX11_keeps_82 ?_
  refine lv_iload_n hx hb dX11_keeps_85 rfl (lv_at hl 0 rfl) ?_
  refine va_iald hx hb hK hP 1 0 rfl rfl (vin_ (by decide +kernel)) dX11_keeps_86 ?_
  refine kt_ (v := 0) (by decide +kernel) ?_
  refine ka_iast (g := (fun _ => 0)) hx hb hK hP hD hS 2 1 rfl rfl (vin_ (by decide +kernel)) (up_same (by decide +kernel)) dX11_keeps_87 (fun H locs hP hD hS => ?_)
  have hP : va_P D vwCl [(h0, .inr (14, [v0, .ref h1, v1, .ref h2, .int 0, v2, v3, v4, v5, v6, v7, v8, v9, v10, v11, v12, v13, v14, v15, v16, v17, v18, v19, v20, v21])), (h1, .inl (k1, 8277, .inl (fun _ => 0))), (h2, .inl (k2, 66216, .inl (fun _ => 0)))] H := hP
  have hD : va_D A [(h0, .inr (14, [v0, .ref h1, v1, .ref h2, .int 0, v2, v3, v4, v5, v6, v7, v8, v9, v10, v11, v12, v13, v14, v15, v16, v17, v18, v19, v20, v21])), (h1, .inl (k1, 8277, .inl (fun _ => 0))), (h2, .inl (k2, 66216, .inl (fun _ => 0)))] := hD
  refine lv_iinc (v := 75) (lv' := [(3, .int 75), (2, .int 85), (0, .ref h0), (1, .int 0)]) hx hb dX11_keeps_88 hl (k := 0) rfl (by decide +kernel) (by decide) rfl (fun ls hl => ?_)
  refine lv_goto (tgt := 62) hx hb dX11_keeps_91 (by decide) ?_
  refine lv_iload_n hx hb dX11_keeps_62 rfl (lv_at hl 0 rfl) ?_
  refine lv_iload_n hx hb dX11_keeps_63 rfl (lv_at hl 1 rfl) ?_
  refine lv_icmp_ge (tgt := 94) hx hb dX11_keeps_64 (by decide) (fun c9 => absurd c9 (by decide +kernel)) (fun _ => ?_)
  refine lv_aload_n hx hb dX11_keeps_67 rfl (lv_at hl 2 rfl) ?_
  refine va_get (D := D) (ci := 14) (v := .ref h2) (own := RX11) (C := RX11) (T := TX11) (N := 25) hx hb hts hi_X11 hown hK hP 0 rfl rfl 3 (by decide) (hts (.fieldLink RX11 20 "CanalMapsModel" "kept" "[I") (List.mem_of_getElem? (i := 3) (by decide +kernel))) (fun _ h9 => h9) rfl dX11_keeps_68 ?_
  refine lv_sipush (v := 8277) hx hb dX11_keeps_71 (by decide +kernel) ?_
  refine lv_aload_n hx hb dX11_keeps_74 rfl (lv_at hl 2 rfl) ?_
  refine va_get (D := D) (ci := 14) (v := .int 0) (own := RX11) (C := RX11) (T := TX11) (N := 25) hx hb hts hi_X11 hown hK hP 0 rfl rfl 4 (by decide) (hts (.fieldLink RX11 60 "CanalMapsModel" "undos" "I") (List.mem_of_getElem? (i := 1) (by decide +kernel))) (fun _ h9 => h9) rfl dX11_keeps_75 ?_
  refine lv_imul hx hb dX11_keeps_78 ?_
  refine kt_ (v := 0) (by decide +kernel) ?_
  refine lv_iload_n hx hb dX11_keeps_79 rfl (lv_at hl 0 rfl) ?_
  refine lv_iadd hx hb dX11_keeps_80 ?_
  refine kt_ (v := 75) (by decide +kernel) ?_
  refine lv_aload_n hx hb dX11_keeps_81 rfl (lv_at hl 2 rfl) ?_
  refine va_get (D := D) (ci := 14) (v := .ref h1) (own := RX11) (C := RX11) (T := TX11) (N := 25) hx hb hts hi_X11 hown hK hP 0 rfl rfl 1 (by decide) (hts (.fieldLink RX11 13 "CanalMapsModel" "tried" "[I") (List.mem_of_getElem? (i := 4) (by decide +kernel))) (fun _ h9 => h9) rfl dX11_keeps_82 ?_
  refine lv_iload_n hx hb dX11_keeps_85 rfl (lv_at hl 0 rfl) ?_
  refine va_iald hx hb hK hP 1 0 rfl rfl (vin_ (by decide +kernel)) dX11_keeps_86 ?_
  refine kt_ (v := 0) (by decide +kernel) ?_
  refine ka_iast (g := (fun _ => 0)) hx hb hK hP hD hS 2 1 rfl rfl (vin_ (by decide +kernel)) (up_same (by decide +kernel)) dX11_keeps_87 (fun H locs hP hD hS => ?_)
  have hP : va_P D vwCl [(h0, .inr (14, [v0, .ref h1, v1, .ref h2, .int 0, v2, v3, v4, v5, v6, v7, v8, v9, v10, v11, v12, v13, v14, v15, v16, v17, v18, v19, v20, v21])), (h1, .inl (k1, 8277, .inl (fun _ => 0))), (h2, .inl (k2, 66216, .inl (fun _ => 0)))] H := hP
  have hD : va_D A [(h0, .inr (14, [v0, .ref h1, v1, .ref h2, .int 0, v2, v3, v4, v5, v6, v7, v8, v9, v10, v11, v12, v13, v14, v15, v16, v17, v18, v19, v20, v21])), (h1, .inl (k1, 8277, .inl (fun _ => 0))), (h2, .inl (k2, 66216, .inl (fun _ => 0)))] := hD
  refine lv_iinc (v := 76) (lv' := [(3, .int 76), (2, .int 85), (0, .ref h0), (1, .int 0)]) hx hb dX11_keeps_88 hl (k := 0) rfl (by decide +kernel) (by decide) rfl (fun ls hl => ?_)
  refine lv_goto (tgt := 62) hx hb dX11_keeps_91 (by decide) ?_
  refine lv_iload_n hx hb dX11_keeps_62 rfl (lv_at hl 0 rfl) ?_
  refine lv_iload_n hx hb dX11_keeps_63 rfl (lv_at hl 1 rfl) ?_
  refine lv_icmp_ge (tgt := 94) hx hb dX11_keeps_64 (by decide) (fun c9 => absurd c9 (by decide +kernel)) (fun _ => ?_)
  refine lv_aload_n hx hb dX11_keeps_67 rfl (lv_at hl 2 rfl) ?_
  refine va_get (D := D) (ci := 14) (v := .ref h2) (own := RX11) (C := RX11) (T := TX11) (N := 25) hx hb hts hi_X11 hown hK hP 0 rfl rfl 3 (by decide) (hts (.fieldLink RX11 20 "CanalMapsModel" "kept" "[I") (List.mem_of_getElem? (i := 3) (by decide +kernel))) (fun _ h9 => h9) rfl dX11_keeps_68 ?_
  refine lv_sipush (v := 8277) hx hb dX11_keeps_71 (by decide +kernel) ?_
  refine lv_aload_n hx hb dX11_keeps_74 rfl (lv_at hl 2 rfl) ?_
  refine va_get (D := D) (ci := 14) (v := .int 0) (own := RX11) (C := RX11) (T := TX11) (N := 25) hx hb hts hi_X11 hown hK hP 0 rfl rfl 4 (by decide) (hts (.fieldLink RX11 60 "CanalMapsModel" "undos" "I") (List.mem_of_getElem? (i := 1) (by decide +kernel))) (fun _ h9 => h9) rfl dX11_keeps_75 ?_
  refine lv_imul hx hb dX11_keeps_78 ?_
  refine kt_ (v := 0) (by decide +kernel) ?_
  refine lv_iload_n hx hb dX11_keeps_79 rfl (lv_at hl 0 rfl) ?_
  refine lv_iadd hx hb dX11_keeps_80 ?_
  refine kt_ (v := 76) (by decide +kernel) ?_
  refine lv_aload_n hx hb dX11_keeps_81 rfl (lv_at hl 2 rfl) ?_
  refine va_get (D := D) (ci := 14) (v := .ref h1) (own := RX11) (C := RX11) (T := TX11) (N := 25) hx hb hts hi_X11 hown hK hP 0 rfl rfl 1 (by decide) (hts (.fieldLink RX11 13 "CanalMapsModel" "tried" "[I") (List.mem_of_getElem? (i := 4) (by decide +kernel))) (fun _ h9 => h9) rfl dX11_keeps_82 ?_
  refine lv_iload_n hx hb dX11_keeps_85 rfl (lv_at hl 0 rfl) ?_
  refine va_iald hx hb hK hP 1 0 rfl rfl (vin_ (by decide +kernel)) dX11_keeps_86 ?_
  refine kt_ (v := 0) (by decide +kernel) ?_
  refine ka_iast (g := (fun _ => 0)) hx hb hK hP hD hS 2 1 rfl rfl (vin_ (by decide +kernel)) (up_same (by decide +kernel)) dX11_keeps_87 (fun H locs hP hD hS => ?_)
  have hP : va_P D vwCl [(h0, .inr (14, [v0, .ref h1, v1, .ref h2, .int 0, v2, v3, v4, v5, v6, v7, v8, v9, v10, v11, v12, v13, v14, v15, v16, v17, v18, v19, v20, v21])), (h1, .inl (k1, 8277, .inl (fun _ => 0))), (h2, .inl (k2, 66216, .inl (fun _ => 0)))] H := hP
  have hD : va_D A [(h0, .inr (14, [v0, .ref h1, v1, .ref h2, .int 0, v2, v3, v4, v5, v6, v7, v8, v9, v10, v11, v12, v13, v14, v15, v16, v17, v18, v19, v20, v21])), (h1, .inl (k1, 8277, .inl (fun _ => 0))), (h2, .inl (k2, 66216, .inl (fun _ => 0)))] := hD
  refine lv_iinc (v := 77) (lv' := [(3, .int 77), (2, .int 85), (0, .ref h0), (1, .int 0)]) hx hb dX11_keeps_88 hl (k := 0) rfl (by decide +kernel) (by decide) rfl (fun ls hl => ?_)
  refine lv_goto (tgt := 62) hx hb dX11_keeps_91 (by decide) ?_
  refine lv_iload_n hx hb dX11_keeps_62 rfl (lv_at hl 0 rfl) ?_
  refine lv_iload_n hx hb dX11_keeps_63 rfl (lv_at hl 1 rfl) ?_
  refine lv_icmp_ge (tgt := 94) hx hb dX11_keeps_64 (by decide) (fun c9 => absurd c9 (by decide +kernel)) (fun _ => ?_)
  refine lv_aload_n hx hb dX11_keeps_67 rfl (lv_at hl 2 rfl) ?_
  refine va_get (D := D) (ci := 14) (v := .ref h2) (own := RX11) (C := RX11) (T := TX11) (N := 25) hx hb hts hi_X11 hown hK hP 0 rfl rfl 3 (by decide) (hts (.fieldLink RX11 20 "CanalMapsModel" "kept" "[I") (List.mem_of_getElem? (i := 3) (by decide +kernel))) (fun _ h9 => h9) rfl dX11_keeps_68 ?_
  refine lv_sipush (v := 8277) hx hb dX11_keeps_71 (by decide +kernel) ?_
  refine lv_aload_n hx hb dX11_keeps_74 rfl (lv_at hl 2 rfl) ?_
  refine va_get (D := D) (ci := 14) (v := .int 0) (own := RX11) (C := RX11) (T := TX11) (N := 25) hx hb hts hi_X11 hown hK hP 0 rfl rfl 4 (by decide) (hts (.fieldLink RX11 60 "CanalMapsModel" "undos" "I") (List.mem_of_getElem? (i := 1) (by decide +kernel))) (fun _ h9 => h9) rfl dX11_keeps_75 ?_
  refine lv_imul hx hb dX11_keeps_78 ?_
  refine kt_ (v := 0) (by decide +kernel) ?_
  refine lv_iload_n hx hb dX11_keeps_79 rfl (lv_at hl 0 rfl) ?_
  refine lv_iadd hx hb dX11_keeps_80 ?_
  refine kt_ (v := 77) (by decide +kernel) ?_
  refine lv_aload_n hx hb dX11_keeps_81 rfl (lv_at hl 2 rfl) ?_
  refine va_get (D := D) (ci := 14) (v := .ref h1) (own := RX11) (C := RX11) (T := TX11) (N := 25) hx hb hts hi_X11 hown hK hP 0 rfl rfl 1 (by decide) (hts (.fieldLink RX11 13 "CanalMapsModel" "tried" "[I") (List.mem_of_getElem? (i := 4) (by decide +kernel))) (fun _ h9 => h9) rfl dX11_keeps_82 ?_
  refine lv_iload_n hx hb dX11_keeps_85 rfl (lv_at hl 0 rfl) ?_
  refine va_iald hx hb hK hP 1 0 rfl rfl (vin_ (by decide +kernel)) dX11_keeps_86 ?_
  refine kt_ (v := 0) (by decide +kernel) ?_
  refine ka_iast (g := (fun _ => 0)) hx hb hK hP hD hS 2 1 rfl rfl (vin_ (by decide +kernel)) (up_same (by decide +kernel)) dX11_keeps_87 (fun H locs hP hD hS => ?_)
  have hP : va_P D vwCl [(h0, .inr (14, [v0, .ref h1, v1, .ref h2, .int 0, v2, v3, v4, v5, v6, v7, v8, v9, v10, v11, v12, v13, v14, v15, v16, v17, v18, v19, v20, v21])), (h1, .inl (k1, 8277, .inl (fun _ => 0))), (h2, .inl (k2, 66216, .inl (fun _ => 0)))] H := hP
  have hD : va_D A [(h0, .inr (14, [v0, .ref h1, v1, .ref h2, .int 0, v2, v3, v4, v5, v6, v7, v8, v9, v10, v11, v12, v13, v14, v15, v16, v17, v18, v19, v20, v21])), (h1, .inl (k1, 8277, .inl (fun _ => 0))), (h2, .inl (k2, 66216, .inl (fun _ => 0)))] := hD
  refine lv_iinc (v := 78) (lv' := [(3, .int 78), (2, .int 85), (0, .ref h0), (1, .int 0)]) hx hb dX11_keeps_88 hl (k := 0) rfl (by decide +kernel) (by decide) rfl (fun ls hl => ?_)
  refine lv_goto (tgt := 62) hx hb dX11_keeps_91 (by decide) ?_
  refine lv_iload_n hx hb dX11_keeps_62 rfl (lv_at hl 0 rfl) ?_
  refine lv_iload_n hx hb dX11_keeps_63 rfl (lv_at hl 1 rfl) ?_
  refine lv_icmp_ge (tgt := 94) hx hb dX11_keeps_64 (by decide) (fun c9 => absurd c9 (by decide +kernel)) (fun _ => ?_)
  refine lv_aload_n hx hb dX11_keeps_67 rfl (lv_at hl 2 rfl) ?_
  refine va_get (D := D) (ci := 14) (v := .ref h2) (own := RX11) (C := RX11) (T := TX11) (N := 25) hx hb hts hi_X11 hown hK hP 0 rfl rfl 3 (by decide) (hts (.fieldLink RX11 20 "CanalMapsModel" "kept" "[I") (List.mem_of_getElem? (i := 3) (by decide +kernel))) (fun _ h9 => h9) rfl dX11_keeps_68 ?_
  refine lv_sipush (v := 8277) hx hb dX11_keeps_71 (by decide +kernel) ?_
  refine lv_aload_n hx hb dX11_keeps_74 rfl (lv_at hl 2 rfl) ?_
  refine va_get (D := D) (ci := 14) (v := .int 0) (own := RX11) (C := RX11) (T := TX11) (N := 25) hx hb hts hi_X11 hown hK hP 0 rfl rfl 4 (by decide) (hts (.fieldLink RX11 60 "CanalMapsModel" "undos" "I") (List.mem_of_getElem? (i := 1) (by decide +kernel))) (fun _ h9 => h9) rfl dX11_keeps_75 ?_
  refine lv_imul hx hb dX11_keeps_78 ?_
  refine kt_ (v := 0) (by decide +kernel) ?_
  refine lv_iload_n hx hb dX11_keeps_79 rfl (lv_at hl 0 rfl) ?_
  refine lv_iadd hx hb dX11_keeps_80 ?_
  refine kt_ (v := 78) (by decide +kernel) ?_
  refine lv_aload_n hx hb dX11_keeps_81 rfl (lv_at hl 2 rfl) ?_
  refine va_get (D := D) (ci := 14) (v := .ref h1) (own := RX11) (C := RX11) (T := TX11) (N := 25) hx hb hts hi_X11 hown hK hP 0 rfl rfl 1 (by decide) (hts (.fieldLink RX11 13 "CanalMapsModel" "tried" "[I") (List.mem_of_getElem? (i := 4) (by decide +kernel))) (fun _ h9 => h9) rfl dX11_keeps_82 ?_
  refine lv_iload_n hx hb dX11_keeps_85 rfl (lv_at hl 0 rfl) ?_
  refine va_iald hx hb hK hP 1 0 rfl rfl (vin_ (by decide +kernel)) dX11_keeps_86 ?_
  refine kt_ (v := 0) (by decide +kernel) ?_
  refine ka_iast (g := (fun _ => 0)) hx hb hK hP hD hS 2 1 rfl rfl (vin_ (by decide +kernel)) (up_same (by decide +kernel)) dX11_keeps_87 (fun H locs hP hD hS => ?_)
  have hP : va_P D vwCl [(h0, .inr (14, [v0, .ref h1, v1, .ref h2, .int 0, v2, v3, v4, v5, v6, v7, v8, v9, v10, v11, v12, v13, v14, v15, v16, v17, v18, v19, v20, v21])), (h1, .inl (k1, 8277, .inl (fun _ => 0))), (h2, .inl (k2, 66216, .inl (fun _ => 0)))] H := hP
  have hD : va_D A [(h0, .inr (14, [v0, .ref h1, v1, .ref h2, .int 0, v2, v3, v4, v5, v6, v7, v8, v9, v10, v11, v12, v13, v14, v15, v16, v17, v18, v19, v20, v21])), (h1, .inl (k1, 8277, .inl (fun _ => 0))), (h2, .inl (k2, 66216, .inl (fun _ => 0)))] := hD
  refine lv_iinc (v := 79) (lv' := [(3, .int 79), (2, .int 85), (0, .ref h0), (1, .int 0)]) hx hb dX11_keeps_88 hl (k := 0) rfl (by decide +kernel) (by decide) rfl (fun ls hl => ?_)
  refine lv_goto (tgt := 62) hx hb dX11_keeps_91 (by decide) ?_
  refine lv_iload_n hx hb dX11_keeps_62 rfl (lv_at hl 0 rfl) ?_
  refine lv_iload_n hx hb dX11_keeps_63 rfl (lv_at hl 1 rfl) ?_
  refine lv_icmp_ge (tgt := 94) hx hb dX11_keeps_64 (by decide) (fun c9 => absurd c9 (by decide +kernel)) (fun _ => ?_)
  refine lv_aload_n hx hb dX11_keeps_67 rfl (lv_at hl 2 rfl) ?_
  refine va_get (D := D) (ci := 14) (v := .ref h2) (own := RX11) (C := RX11) (T := TX11) (N := 25) hx hb hts hi_X11 hown hK hP 0 rfl rfl 3 (by decide) (hts (.fieldLink RX11 20 "CanalMapsModel" "kept" "[I") (List.mem_of_getElem? (i := 3) (by decide +kernel))) (fun _ h9 => h9) rfl dX11_keeps_68 ?_
  refine lv_sipush (v := 8277) hx hb dX11_keeps_71 (by decide +kernel) ?_
  refine lv_aload_n hx hb dX11_keeps_74 rfl (lv_at hl 2 rfl) ?_
  refine va_get (D := D) (ci := 14) (v := .int 0) (own := RX11) (C := RX11) (T := TX11) (N := 25) hx hb hts hi_X11 hown hK hP 0 rfl rfl 4 (by decide) (hts (.fieldLink RX11 60 "CanalMapsModel" "undos" "I") (List.mem_of_getElem? (i := 1) (by decide +kernel))) (fun _ h9 => h9) rfl dX11_keeps_75 ?_
  refine lv_imul hx hb dX11_keeps_78 ?_
  refine kt_ (v := 0) (by decide +kernel) ?_
  refine lv_iload_n hx hb dX11_keeps_79 rfl (lv_at hl 0 rfl) ?_
  refine lv_iadd hx hb dX11_keeps_80 ?_
  refine kt_ (v := 79) (by decide +kernel) ?_
  refine lv_aload_n hx hb dX11_keeps_81 rfl (lv_at hl 2 rfl) ?_
  refine va_get (D := D) (ci := 14) (v := .ref h1) (own := RX11) (C := RX11) (T := TX11) (N := 25) hx hb hts hi_X11 hown hK hP 0 rfl rfl 1 (by decide) (hts (.fieldLink RX11 13 "CanalMapsModel" "tried" "[I") (List.mem_of_getElem? (i := 4) (by decide +kernel))) (fun _ h9 => h9) rfl dX11_keeps_82 ?_
  refine lv_iload_n hx hb dX11_keeps_85 rfl (lv_at hl 0 rfl) ?_
  refine va_iald hx hb hK hP 1 0 rfl rfl (vin_ (by decide +kernel)) dX11_keeps_86 ?_
  refine kt_ (v := 0) (by decide +kernel) ?_
  refine ka_iast (g := (fun _ => 0)) hx hb hK hP hD hS 2 1 rfl rfl (vin_ (by decide +kernel)) (up_same (by decide +kernel)) dX11_keeps_87 (fun H locs hP hD hS => ?_)
  have hP : va_P D vwCl [(h0, .inr (14, [v0, .ref h1, v1, .ref h2, .int 0, v2, v3, v4, v5, v6, v7, v8, v9, v10, v11, v12, v13, v14, v15, v16, v17, v18, v19, v20, v21])), (h1, .inl (k1, 8277, .inl (fun _ => 0))), (h2, .inl (k2, 66216, .inl (fun _ => 0)))] H := hP
  have hD : va_D A [(h0, .inr (14, [v0, .ref h1, v1, .ref h2, .int 0, v2, v3, v4, v5, v6, v7, v8, v9, v10, v11, v12, v13, v14, v15, v16, v17, v18, v19, v20, v21])), (h1, .inl (k1, 8277, .inl (fun _ => 0))), (h2, .inl (k2, 66216, .inl (fun _ => 0)))] := hD
  refine lv_iinc (v := 80) (lv' := [(3, .int 80), (2, .int 85), (0, .ref h0), (1, .int 0)]) hx hb dX11_keeps_88 hl (k := 0) rfl (by decide +kernel) (by decide) rfl (fun ls hl => ?_)
  refine lv_goto (tgt := 62) hx hb dX11_keeps_91 (by decide) ?_
  refine lv_iload_n hx hb dX11_keeps_62 rfl (lv_at hl 0 rfl) ?_
  refine lv_iload_n hx hb dX11_keeps_63 rfl (lv_at hl 1 rfl) ?_
  refine lv_icmp_ge (tgt := 94) hx hb dX11_keeps_64 (by decide) (fun c9 => absurd c9 (by decide +kernel)) (fun _ => ?_)
  refine lv_aload_n hx hb dX11_keeps_67 rfl (lv_at hl 2 rfl) ?_
  refine va_get (D := D) (ci := 14) (v := .ref h2) (own := RX11) (C := RX11) (T := TX11) (N := 25) hx hb hts hi_X11 hown hK hP 0 rfl rfl 3 (by decide) (hts (.fieldLink RX11 20 "CanalMapsModel" "kept" "[I") (List.mem_of_getElem? (i := 3) (by decide +kernel))) (fun _ h9 => h9) rfl dX11_keeps_68 ?_
  refine lv_sipush (v := 8277) hx hb dX11_keeps_71 (by decide +kernel) ?_
  refine lv_aload_n hx hb dX11_keeps_74 rfl (lv_at hl 2 rfl) ?_
  refine va_get (D := D) (ci := 14) (v := .int 0) (own := RX11) (C := RX11) (T := TX11) (N := 25) hx hb hts hi_X11 hown hK hP 0 rfl rfl 4 (by decide) (hts (.fieldLink RX11 60 "CanalMapsModel" "undos" "I") (List.mem_of_getElem? (i := 1) (by decide +kernel))) (fun _ h9 => h9) rfl dX11_keeps_75 ?_
  refine lv_imul hx hb dX11_keeps_78 ?_
  refine kt_ (v := 0) (by decide +kernel) ?_
  refine lv_iload_n hx hb dX11_keeps_79 rfl (lv_at hl 0 rfl) ?_
  refine lv_iadd hx hb dX11_keeps_80 ?_
  refine kt_ (v := 80) (by decide +kernel) ?_
  refine lv_aload_n hx hb dX11_keeps_81 rfl (lv_at hl 2 rfl) ?_
  refine va_get (D := D) (ci := 14) (v := .ref h1) (own := RX11) (C := RX11) (T := TX11) (N := 25) hx hb hts hi_X11 hown hK hP 0 rfl rfl 1 (by decide) (hts (.fieldLink RX11 13 "CanalMapsModel" "tried" "[I") (List.mem_of_getElem? (i := 4) (by decide +kernel))) (fun _ h9 => h9) rfl dX11_keeps_82 ?_
  refine lv_iload_n hx hb dX11_keeps_85 rfl (lv_at hl 0 rfl) ?_
  refine va_iald hx hb hK hP 1 0 rfl rfl (vin_ (by decide +kernel)) dX11_keeps_86 ?_
  refine kt_ (v := 0) (by decide +kernel) ?_
  refine ka_iast (g := (fun _ => 0)) hx hb hK hP hD hS 2 1 rfl rfl (vin_ (by decide +kernel)) (up_same (by decide +kernel)) dX11_keeps_87 (fun H locs hP hD hS => ?_)
  have hP : va_P D vwCl [(h0, .inr (14, [v0, .ref h1, v1, .ref h2, .int 0, v2, v3, v4, v5, v6, v7, v8, v9, v10, v11, v12, v13, v14, v15, v16, v17, v18, v19, v20, v21])), (h1, .inl (k1, 8277, .inl (fun _ => 0))), (h2, .inl (k2, 66216, .inl (fun _ => 0)))] H := hP
  have hD : va_D A [(h0, .inr (14, [v0, .ref h1, v1, .ref h2, .int 0, v2, v3, v4, v5, v6, v7, v8, v9, v10, v11, v12, v13, v14, v15, v16, v17, v18, v19, v20, v21])), (h1, .inl (k1, 8277, .inl (fun _ => 0))), (h2, .inl (k2, 66216, .inl (fun _ => 0)))] := hD
  refine lv_iinc (v := 81) (lv' := [(3, .int 81), (2, .int 85), (0, .ref h0), (1, .int 0)]) hx hb dX11_keeps_88 hl (k := 0) rfl (by decide +kernel) (by decide) rfl (fun ls hl => ?_)
  refine lv_goto (tgt := 62) hx hb dX11_keeps_91 (by decide) ?_
  refine lv_iload_n hx hb dX11_keeps_62 rfl (lv_at hl 0 rfl) ?_
  refine lv_iload_n hx hb dX11_keeps_63 rfl (lv_at hl 1 rfl) ?_
  refine lv_icmp_ge (tgt := 94) hx hb dX11_keeps_64 (by decide) (fun c9 => absurd c9 (by decide +kernel)) (fun _ => ?_)
  refine lv_aload_n hx hb dX11_keeps_67 rfl (lv_at hl 2 rfl) ?_
  refine va_get (D := D) (ci := 14) (v := .ref h2) (own := RX11) (C := RX11) (T := TX11) (N := 25) hx hb hts hi_X11 hown hK hP 0 rfl rfl 3 (by decide) (hts (.fieldLink RX11 20 "CanalMapsModel" "kept" "[I") (List.mem_of_getElem? (i := 3) (by decide +kernel))) (fun _ h9 => h9) rfl dX11_keeps_68 ?_
  refine lv_sipush (v := 8277) hx hb dX11_keeps_71 (by decide +kernel) ?_
  refine lv_aload_n hx hb dX11_keeps_74 rfl (lv_at hl 2 rfl) ?_
  refine va_get (D := D) (ci := 14) (v := .int 0) (own := RX11) (C := RX11) (T := TX11) (N := 25) hx hb hts hi_X11 hown hK hP 0 rfl rfl 4 (by decide) (hts (.fieldLink RX11 60 "CanalMapsModel" "undos" "I") (List.mem_of_getElem? (i := 1) (by decide +kernel))) (fun _ h9 => h9) rfl dX11_keeps_75 ?_
  refine lv_imul hx hb dX11_keeps_78 ?_
  refine kt_ (v := 0) (by decide +kernel) ?_
  refine lv_iload_n hx hb dX11_keeps_79 rfl (lv_at hl 0 rfl) ?_
  refine lv_iadd hx hb dX11_keeps_80 ?_
  refine kt_ (v := 81) (by decide +kernel) ?_
  refine lv_aload_n hx hb dX11_keeps_81 rfl (lv_at hl 2 rfl) ?_
  refine va_get (D := D) (ci := 14) (v := .ref h1) (own := RX11) (C := RX11) (T := TX11) (N := 25) hx hb hts hi_X11 hown hK hP 0 rfl rfl 1 (by decide) (hts (.fieldLink RX11 13 "CanalMapsModel" "tried" "[I") (List.mem_of_getElem? (i := 4) (by decide +kernel))) (fun _ h9 => h9) rfl dX11_keeps_82 ?_
  refine lv_iload_n hx hb dX11_keeps_85 rfl (lv_at hl 0 rfl) ?_
  refine va_iald hx hb hK hP 1 0 rfl rfl (vin_ (by decide +kernel)) dX11_keeps_86 ?_
  refine kt_ (v := 0) (by decide +kernel) ?_
  refine ka_iast (g := (fun _ => 0)) hx hb hK hP hD hS 2 1 rfl rfl (vin_ (by decide +kernel)) (up_same (by decide +kernel)) dX11_keeps_87 (fun H locs hP hD hS => ?_)
  have hP : va_P D vwCl [(h0, .inr (14, [v0, .ref h1, v1, .ref h2, .int 0, v2, v3, v4, v5, v6, v7, v8, v9, v10, v11, v12, v13, v14, v15, v16, v17, v18, v19, v20, v21])), (h1, .inl (k1, 8277, .inl (fun _ => 0))), (h2, .inl (k2, 66216, .inl (fun _ => 0)))] H := hP
  have hD : va_D A [(h0, .inr (14, [v0, .ref h1, v1, .ref h2, .int 0, v2, v3, v4, v5, v6, v7, v8, v9, v10, v11, v12, v13, v14, v15, v16, v17, v18, v19, v20, v21])), (h1, .inl (k1, 8277, .inl (fun _ => 0))), (h2, .inl (k2, 66216, .inl (fun _ => 0)))] := hD
  refine lv_iinc (v := 82) (lv' := [(3, .int 82), (2, .int 85), (0, .ref h0), (1, .int 0)]) hx hb dX11_keeps_88 hl (k := 0) rfl (by decide +kernel) (by decide) rfl (fun ls hl => ?_)
  refine lv_goto (tgt := 62) hx hb dX11_keeps_91 (by decide) ?_
  refine lv_iload_n hx hb dX11_keeps_62 rfl (lv_at hl 0 rfl) ?_
  refine lv_iload_n hx hb dX11_keeps_63 rfl (lv_at hl 1 rfl) ?_
  refine lv_icmp_ge (tgt := 94) hx hb dX11_keeps_64 (by decide) (fun c9 => absurd c9 (by decide +kernel)) (fun _ => ?_)
  refine lv_aload_n hx hb dX11_keeps_67 rfl (lv_at hl 2 rfl) ?_
  refine va_get (D := D) (ci := 14) (v := .ref h2) (own := RX11) (C := RX11) (T := TX11) (N := 25) hx hb hts hi_X11 hown hK hP 0 rfl rfl 3 (by decide) (hts (.fieldLink RX11 20 "CanalMapsModel" "kept" "[I") (List.mem_of_getElem? (i := 3) (by decide +kernel))) (fun _ h9 => h9) rfl dX11_keeps_68 ?_
  refine lv_sipush (v := 8277) hx hb dX11_keeps_71 (by decide +kernel) ?_
  refine lv_aload_n hx hb dX11_keeps_74 rfl (lv_at hl 2 rfl) ?_
  refine va_get (D := D) (ci := 14) (v := .int 0) (own := RX11) (C := RX11) (T := TX11) (N := 25) hx hb hts hi_X11 hown hK hP 0 rfl rfl 4 (by decide) (hts (.fieldLink RX11 60 "CanalMapsModel" "undos" "I") (List.mem_of_getElem? (i := 1) (by decide +kernel))) (fun _ h9 => h9) rfl dX11_keeps_75 ?_
  refine lv_imul hx hb dX11_keeps_78 ?_
  refine kt_ (v := 0) (by decide +kernel) ?_
  refine lv_iload_n hx hb dX11_keeps_79 rfl (lv_at hl 0 rfl) ?_
  refine lv_iadd hx hb dX11_keeps_80 ?_
  refine kt_ (v := 82) (by decide +kernel) ?_
  refine lv_aload_n hx hb dX11_keeps_81 rfl (lv_at hl 2 rfl) ?_
  refine va_get (D := D) (ci := 14) (v := .ref h1) (own := RX11) (C := RX11) (T := TX11) (N := 25) hx hb hts hi_X11 hown hK hP 0 rfl rfl 1 (by decide) (hts (.fieldLink RX11 13 "CanalMapsModel" "tried" "[I") (List.mem_of_getElem? (i := 4) (by decide +kernel))) (fun _ h9 => h9) rfl dX11_keeps_82 ?_
  refine lv_iload_n hx hb dX11_keeps_85 rfl (lv_at hl 0 rfl) ?_
  refine va_iald hx hb hK hP 1 0 rfl rfl (vin_ (by decide +kernel)) dX11_keeps_86 ?_
  refine kt_ (v := 0) (by decide +kernel) ?_
  refine ka_iast (g := (fun _ => 0)) hx hb hK hP hD hS 2 1 rfl rfl (vin_ (by decide +kernel)) (up_same (by decide +kernel)) dX11_keeps_87 (fun H locs hP hD hS => ?_)
  have hP : va_P D vwCl [(h0, .inr (14, [v0, .ref h1, v1, .ref h2, .int 0, v2, v3, v4, v5, v6, v7, v8, v9, v10, v11, v12, v13, v14, v15, v16, v17, v18, v19, v20, v21])), (h1, .inl (k1, 8277, .inl (fun _ => 0))), (h2, .inl (k2, 66216, .inl (fun _ => 0)))] H := hP
  have hD : va_D A [(h0, .inr (14, [v0, .ref h1, v1, .ref h2, .int 0, v2, v3, v4, v5, v6, v7, v8, v9, v10, v11, v12, v13, v14, v15, v16, v17, v18, v19, v20, v21])), (h1, .inl (k1, 8277, .inl (fun _ => 0))), (h2, .inl (k2, 66216, .inl (fun _ => 0)))] := hD
  refine lv_iinc (v := 83) (lv' := [(3, .int 83), (2, .int 85), (0, .ref h0), (1, .int 0)]) hx hb dX11_keeps_88 hl (k := 0) rfl (by decide +kernel) (by decide) rfl (fun ls hl => ?_)
  refine lv_goto (tgt := 62) hx hb dX11_keeps_91 (by decide) ?_
  refine lv_iload_n hx hb dX11_keeps_62 rfl (lv_at hl 0 rfl) ?_
  refine lv_iload_n hx hb dX11_keeps_63 rfl (lv_at hl 1 rfl) ?_
  refine lv_icmp_ge (tgt := 94) hx hb dX11_keeps_64 (by decide) (fun c9 => absurd c9 (by decide +kernel)) (fun _ => ?_)
  refine lv_aload_n hx hb dX11_keeps_67 rfl (lv_at hl 2 rfl) ?_
  refine va_get (D := D) (ci := 14) (v := .ref h2) (own := RX11) (C := RX11) (T := TX11) (N := 25) hx hb hts hi_X11 hown hK hP 0 rfl rfl 3 (by decide) (hts (.fieldLink RX11 20 "CanalMapsModel" "kept" "[I") (List.mem_of_getElem? (i := 3) (by decide +kernel))) (fun _ h9 => h9) rfl dX11_keeps_68 ?_
  refine lv_sipush (v := 8277) hx hb dX11_keeps_71 (by decide +kernel) ?_
  refine lv_aload_n hx hb dX11_keeps_74 rfl (lv_at hl 2 rfl) ?_
  refine va_get (D := D) (ci := 14) (v := .int 0) (own := RX11) (C := RX11) (T := TX11) (N := 25) hx hb hts hi_X11 hown hK hP 0 rfl rfl 4 (by decide) (hts (.fieldLink RX11 60 "CanalMapsModel" "undos" "I") (List.mem_of_getElem? (i := 1) (by decide +kernel))) (fun _ h9 => h9) rfl dX11_keeps_75 ?_
  refine lv_imul hx hb dX11_keeps_78 ?_
  refine kt_ (v := 0) (by decide +kernel) ?_
  refine lv_iload_n hx hb dX11_keeps_79 rfl (lv_at hl 0 rfl) ?_
  refine lv_iadd hx hb dX11_keeps_80 ?_
  refine kt_ (v := 83) (by decide +kernel) ?_
  refine lv_aload_n hx hb dX11_keeps_81 rfl (lv_at hl 2 rfl) ?_
  refine va_get (D := D) (ci := 14) (v := .ref h1) (own := RX11) (C := RX11) (T := TX11) (N := 25) hx hb hts hi_X11 hown hK hP 0 rfl rfl 1 (by decide) (hts (.fieldLink RX11 13 "CanalMapsModel" "tried" "[I") (List.mem_of_getElem? (i := 4) (by decide +kernel))) (fun _ h9 => h9) rfl dX11_keeps_82 ?_
  refine lv_iload_n hx hb dX11_keeps_85 rfl (lv_at hl 0 rfl) ?_
  refine va_iald hx hb hK hP 1 0 rfl rfl (vin_ (by decide +kernel)) dX11_keeps_86 ?_
  refine kt_ (v := 0) (by decide +kernel) ?_
  refine ka_iast (g := (fun _ => 0)) hx hb hK hP hD hS 2 1 rfl rfl (vin_ (by decide +kernel)) (up_same (by decide +kernel)) dX11_keeps_87 (fun H locs hP hD hS => ?_)
  have hP : va_P D vwCl [(h0, .inr (14, [v0, .ref h1, v1, .ref h2, .int 0, v2, v3, v4, v5, v6, v7, v8, v9, v10, v11, v12, v13, v14, v15, v16, v17, v18, v19, v20, v21])), (h1, .inl (k1, 8277, .inl (fun _ => 0))), (h2, .inl (k2, 66216, .inl (fun _ => 0)))] H := hP
  have hD : va_D A [(h0, .inr (14, [v0, .ref h1, v1, .ref h2, .int 0, v2, v3, v4, v5, v6, v7, v8, v9, v10, v11, v12, v13, v14, v15, v16, v17, v18, v19, v20, v21])), (h1, .inl (k1, 8277, .inl (fun _ => 0))), (h2, .inl (k2, 66216, .inl (fun _ => 0)))] := hD
  refine lv_iinc (v := 84) (lv' := [(3, .int 84), (2, .int 85), (0, .ref h0), (1, .int 0)]) hx hb dX11_keeps_88 hl (k := 0) rfl (by decide +kernel) (by decide) rfl (fun ls hl => ?_)
  refine lv_goto (tgt := 62) hx hb dX11_keeps_91 (by decide) ?_
  refine lv_iload_n hx hb dX11_keeps_62 rfl (lv_at hl 0 rfl) ?_
  refine lv_iload_n hx hb dX11_keeps_63 rfl (lv_at hl 1 rfl) ?_
  refine lv_icmp_ge (tgt := 94) hx hb dX11_keeps_64 (by decide) (fun c9 => absurd c9 (by decide +kernel)) (fun _ => ?_)
  refine lv_aload_n hx hb dX11_keeps_67 rfl (lv_at hl 2 rfl) ?_
  refine va_get (D := D) (ci := 14) (v := .ref h2) (own := RX11) (C := RX11) (T := TX11) (N := 25) hx hb hts hi_X11 hown hK hP 0 rfl rfl 3 (by decide) (hts (.fieldLink RX11 20 "CanalMapsModel" "kept" "[I") (List.mem_of_getElem? (i := 3) (by decide +kernel))) (fun _ h9 => h9) rfl dX11_keeps_68 ?_
  refine lv_sipush (v := 8277) hx hb dX11_keeps_71 (by decide +kernel) ?_
  refine lv_aload_n hx hb dX11_keeps_74 rfl (lv_at hl 2 rfl) ?_
  refine va_get (D := D) (ci := 14) (v := .int 0) (own := RX11) (C := RX11) (T := TX11) (N := 25) hx hb hts hi_X11 hown hK hP 0 rfl rfl 4 (by decide) (hts (.fieldLink RX11 60 "CanalMapsModel" "undos" "I") (List.mem_of_getElem? (i := 1) (by decide +kernel))) (fun _ h9 => h9) rfl dX11_keeps_75 ?_
  refine lv_imul hx hb dX11_keeps_78 ?_
  refine kt_ (v := 0) (by decide +kernel) ?_
  refine lv_iload_n hx hb dX11_keeps_79 rfl (lv_at hl 0 rfl) ?_
  refine lv_iadd hx hb dX11_keeps_80 ?_
  refine kt_ (v := 84) (by decide +kernel) ?_
  refine lv_aload_n hx hb dX11_keeps_81 rfl (lv_at hl 2 rfl) ?_
  refine va_get (D := D) (ci := 14) (v := .ref h1) (own := RX11) (C := RX11) (T := TX11) (N := 25) hx hb hts hi_X11 hown hK hP 0 rfl rfl 1 (by decide) (hts (.fieldLink RX11 13 "CanalMapsModel" "tried" "[I") (List.mem_of_getElem? (i := 4) (by decide +kernel))) (fun _ h9 => h9) rfl dX11_keeps_82 ?_
  refine lv_iload_n hx hb dX11_keeps_85 rfl (lv_at hl 0 rfl) ?_
  refine va_iald hx hb hK hP 1 0 rfl rfl (vin_ (by decide +kernel)) dX11_keeps_86 ?_
  refine kt_ (v := 0) (by decide +kernel) ?_
  refine ka_iast (g := (fun _ => 0)) hx hb hK hP hD hS 2 1 rfl rfl (vin_ (by decide +kernel)) (up_same (by decide +kernel)) dX11_keeps_87 (fun H locs hP hD hS => ?_)
  have hP : va_P D vwCl [(h0, .inr (14, [v0, .ref h1, v1, .ref h2, .int 0, v2, v3, v4, v5, v6, v7, v8, v9, v10, v11, v12, v13, v14, v15, v16, v17, v18, v19, v20, v21])), (h1, .inl (k1, 8277, .inl (fun _ => 0))), (h2, .inl (k2, 66216, .inl (fun _ => 0)))] H := hP
  have hD : va_D A [(h0, .inr (14, [v0, .ref h1, v1, .ref h2, .int 0, v2, v3, v4, v5, v6, v7, v8, v9, v10, v11, v12, v13, v14, v15, v16, v17, v18, v19, v20, v21])), (h1, .inl (k1, 8277, .inl (fun _ => 0))), (h2, .inl (k2, 66216, .inl (fun _ => 0)))] := hD
  refine lv_iinc (v := 85) (lv' := [(3, .int 85), (2, .int 85), (0, .ref h0), (1, .int 0)]) hx hb dX11_keeps_88 hl (k := 0) rfl (by decide +kernel) (by decide) rfl (fun ls hl => ?_)
  refine lv_goto (tgt := 62) hx hb dX11_keeps_91 (by decide) ?_
  refine lv_iload_n hx hb dX11_keeps_62 rfl (lv_at hl 0 rfl) ?_
  refine lv_iload_n hx hb dX11_keeps_63 rfl (lv_at hl 1 rfl) ?_
  refine lv_icmp_ge (tgt := 94) hx hb dX11_keeps_64 (by decide) (fun _ => ?_) (fun c9 => absurd (by decide +kernel) c9)
  refine lv_aload_n hx hb dX11_keeps_94 rfl (lv_at hl 2 rfl) ?_
  refine lv_dup hx hb dX11_keeps_95 rfl ?_
  refine va_get (D := D) (ci := 14) (v := .int 0) (own := RX11) (C := RX11) (T := TX11) (N := 25) hx hb hts hi_X11 hown hK hP 0 rfl rfl 4 (by decide) (hts (.fieldLink RX11 60 "CanalMapsModel" "undos" "I") (List.mem_of_getElem? (i := 1) (by decide +kernel))) (fun _ h9 => h9) rfl dX11_keeps_96 ?_
  refine lv_iconst (v := 1) hx hb dX11_keeps_99 (by decide) ?_
  refine lv_iadd hx hb dX11_keeps_100 ?_
  refine kt_ (v := 1) (by decide +kernel) ?_
  refine va_put (D := D) (ci := 14) (v := .int 1) (ty := .int) (own := RX11) (C := RX11) (T := TX11) (N := 25) hx hb hts hi_X11 tyX11 tyX11_ok nmX11 hown hK hP hD hS 0 rfl rfl 4 (by decide) (hts (.fieldLink RX11 60 "CanalMapsModel" "undos" "I") (List.mem_of_getElem? (i := 1) (by decide +kernel))) (fun _ h9 => h9) rfl (by decide +kernel) rfl rfl (Nat.le_of_ble_eq_true rfl) dX11_keeps_101 (fun H locs hP hD hS => ?_)
  have hP : va_P D vwCl [(h0, .inr (14, [v0, .ref h1, v1, .ref h2, .int 1, v2, v3, v4, v5, v6, v7, v8, v9, v10, v11, v12, v13, v14, v15, v16, v17, v18, v19, v20, v21])), (h1, .inl (k1, 8277, .inl (fun _ => 0))), (h2, .inl (k2, 66216, .inl (fun _ => 0)))] H := hP
  have hD : va_D A [(h0, .inr (14, [v0, .ref h1, v1, .ref h2, .int 1, v2, v3, v4, v5, v6, v7, v8, v9, v10, v11, v12, v13, v14, v15, v16, v17, v18, v19, v20, v21])), (h1, .inl (k1, 8277, .inl (fun _ => 0))), (h2, .inl (k2, 66216, .inl (fun _ => 0)))] := hD
  refine lv_iload_n hx hb dX11_keeps_104 rfl (lv_at hl 3 rfl) ?_
  refine W.widen (k := 0) (n := 0) (Nat.le_of_ble_eq_true rfl) (Nat.le_of_ble_eq_true rfl) ?_
  exact W.iret (v := 0) hx hb hr (QG_.mk (fun _ => 0) (fun _ => 0) (fun _ => 0) [0, 1, 2] [0, 1] hP hD hK hS rfl trivial rfl (by decide) rfl) hS.2.2 dX11_keeps_105
