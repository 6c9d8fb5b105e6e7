set_option maxHeartbeats 4000000 in
set_option maxRecDepth 100000 in
theorem c_X11_comes_0 (l : Launch) (hl0 : l.stackTraces = false) (D : va_G) (ad : Nat → Nat) (sz : Nat) (h0 : Nat) (h1 : Nat) (h2 : Nat) (k1 : ClassId) (k2 : ClassId) (v0 : Value) (v1 : Value) (v2 : Value) (v3 : Value) (v4 : Value) (v5 : Value) (v6 : Value) (v7 : Value) (v8 : Value) (v9 : Value) (v10 : Value) (v11 : Value) (v12 : Value) (v13 : Value) (v14 : Value) (v15 : Value) (v16 : Value) (v17 : Value) (v18 : Value) (v19 : Value) (v20 : Value) (v21 : Value) : Met l yX11_comes wsX11_comes ({ frames := 3, cells := 0, slots := 0, locals := 75 }) (PC_ D ad [(h0, .inr (14, [.ref h1, v0, v1, v2, v3, v4, v5, .ref h2, .int 0, v6, v7, v8, v9, v10, v11, v12, v13, v14, v15, v16, v17, v18, v19, v20, v21])), (h1, .inl (k1, 8277, .inl (fun _ => 0))), (h2, .inl (k2, 147456, .inl (fun _ => 0)))] [(k1, .int), (k2, .int)] sz [.ref h0]) (QG_ D (fun q i => some (.int 1)) (fun q i => True) (fun q k i => [(h0, .inr (14, [.ref h1, v0, v1, v2, v3, v4, v5, .ref h2, .int 1, v6, v7, v8, v9, v10, v11, v12, v13, v14, v15, v16, v17, v18, .int 0, v20, v21])), (h1, .inl (k1, 8277, .inl (upd (upd (upd (fun _ => 0) 0 1) 48 1) 5 1))), (h2, .inl (k2, 147456, .inl (upd (fun _ => 0) 1 1)))]) (fun q k i => [(k1, .int), (k2, .int)]) (va_A [(h0, .inr (14, [.ref h1, v0, v1, v2, v3, v4, v5, .ref h2, .int 0, v6, v7, v8, v9, v10, v11, v12, v13, v14, v15, v16, v17, v18, v19, v20, v21])), (h1, .inl (k1, 8277, .inl (fun _ => 0))), (h2, .inl (k2, 147456, .inl (fun _ => 0)))] sz)) 0 0 (va_A [(h0, .inr (14, [.ref h1, v0, v1, v2, v3, v4, v5, .ref h2, .int 0, v6, v7, v8, v9, v10, v11, v12, v13, v14, v15, v16, v17, v18, v19, v20, v21])), (h1, .inl (k1, 8277, .inl (fun _ => 0))), (h2, .inl (k2, 147456, .inl (fun _ => 0)))] sz) := by
  refine Met.ofW (cc := cX11_comes) (maxL := 3) (ret := (some .boolean)) (by decide) rfl ?_
  intro p e s m args below meth c s₁ B hml hv
  obtain ⟨rfl, hsz, hP, hK, hD0, hF⟩ := hv
  have hx := B.exec
  have hb := B.bytes
  have hr := B.returns
  have hts := atoms_spec (ws := wsX11_comes) B.pre
  have hown : s.vm.findClass RX11 = some m.cls := findClass_of_methodNamed B.named
  have hlocks := B.notSynchronized
  subst hsz
  have hD := hD0.self (sz := s.heap.size)
  generalize hAe : va_A [(h0, .inr (14, [.ref h1, v0, v1, v2, v3, v4, v5, .ref h2, .int 0, v6, v7, v8, v9, v10, v11, v12, v13, v14, v15, v16, v17, v18, v19, v20, v21])), (h1, .inl (k1, 8277, .inl (fun _ => 0))), (h2, .inl (k2, 147456, .inl (fun _ => 0)))] s.heap.size = A at hD hF ⊢
  have hA : ∀ q : Nat, s.heap.size ≤ q → A q := fun q h => by rw [← hAe]; exact Or.inr h
  obtain ⟨H, hHe⟩ : ∃ H : Heap, H = s.heap := ⟨_, rfl⟩
  have hS : va_S A s.heap H [] := by rw [hHe]; exact va_S.rf
  have hP : va_P D vwCl [(h0, .inr (14, [.ref h1, v0, v1, v2, v3, v4, v5, .ref h2, .int 0, v6, v7, v8, v9, v10, v11, v12, v13, v14, v15, v16, v17, v18, v19, v20, v21])), (h1, .inl (k1, 8277, .inl (fun _ => 0))), (h2, .inl (k2, 147456, .inl (fun _ => 0)))] H := by rw [hHe]; exact hP
  rw [← hHe]
  have hi_X11 : ∀ w ∈ wsX110, w ∈ wsX11_comes := by decide +kernel
  have hl := lv_entry [.ref h0] (n := 3) (Nat.le_of_ble_eq_true rfl)
  rw [lg_entry_eq]
  generalize (lg_sl [.ref h0] ++ List.replicate (3 - (lg_sl [.ref h0]).length) Slot.unset).toArray = ls at hl ⊢
  have hl : lv_has ls 3 [(0, .ref h0)] := hl
  refine lv_aload_n hx hb dX11_comes_0 rfl (lv_at hl 0 rfl) ?_
  refine va_get (D := D) (ci := 14) (v := .ref h1) (own := RX11) (C := RX11) (T := TX11) (N := 25) hx hb hts hi_X11 hown hK hP 0 rfl rfl 0 (by decide) (hts (.fieldLink RX11 9 "CanalMapsModel" "now" "[I") (List.mem_of_getElem? (i := 1) (by decide +kernel))) (fun _ h9 => h9) rfl dX11_comes_1 ?_
  refine lv_iconst (v := 0) hx hb dX11_comes_4 (by decide) ?_
  refine va_iald hx hb hK hP 1 0 rfl rfl (vin_ (by decide +kernel)) dX11_comes_5 ?_
  refine kt_ (v := 0) (by decide +kernel) ?_
  refine lv_bipush (v := 6) hx hb dX11_comes_6 (by decide) ?_
  refine lv_icmp_ne (tgt := 19) hx hb dX11_comes_8 (by decide) (fun _ => ?_) (fun c9 => absurd c9 (by decide +kernel))
  refine lv_aload_n hx hb dX11_comes_19 rfl (lv_at hl 0 rfl) ?_
  refine va_get (D := D) (ci := 14) (v := .ref h1) (own := RX11) (C := RX11) (T := TX11) (N := 25) hx hb hts hi_X11 hown hK hP 0 rfl rfl 0 (by decide) (hts (.fieldLink RX11 9 "CanalMapsModel" "now" "[I") (List.mem_of_getElem? (i := 1) (by decide +kernel))) (fun _ h9 => h9) rfl dX11_comes_20 ?_
  refine lv_iconst (v := 0) hx hb dX11_comes_23 (by decide) ?_
  refine lv_dup2_11 hx hb dX11_comes_24 rfl rfl ?_
  refine va_iald hx hb hK hP 1 0 rfl rfl (vin_ (by decide +kernel)) dX11_comes_25 ?_
  refine kt_ (v := 0) (by decide +kernel) ?_
  refine lv_dup_x2 hx hb dX11_comes_26 rfl rfl rfl ?_
  refine lv_iconst (v := 1) hx hb dX11_comes_27 (by decide) ?_
  refine lv_iadd hx hb dX11_comes_28 ?_
  refine kt_ (v := 1) (by decide +kernel) ?_
  refine ka_iast (g := (upd (fun _ => 0) 0 1)) hx hb hK hP hD hS 1 0 rfl rfl (vin_ (by decide +kernel)) (congrArg (fun z9 => upd _ z9 _) (by decide +kernel)) dX11_comes_29 (fun H locs hP hD hS => ?_)
  have hP : va_P D vwCl [(h0, .inr (14, [.ref h1, v0, v1, v2, v3, v4, v5, .ref h2, .int 0, v6, v7, v8, v9, v10, v11, v12, v13, v14, v15, v16, v17, v18, v19, v20, v21])), (h1, .inl (k1, 8277, .inl (upd (fun _ => 0) 0 1))), (h2, .inl (k2, 147456, .inl (fun _ => 0)))] H := hP
  have hD : va_D A [(h0, .inr (14, [.ref h1, v0, v1, v2, v3, v4, v5, .ref h2, .int 0, v6, v7, v8, v9, v10, v11, v12, v13, v14, v15, v16, v17, v18, v19, v20, v21])), (h1, .inl (k1, 8277, .inl (upd (fun _ => 0) 0 1))), (h2, .inl (k2, 147456, .inl (fun _ => 0)))] := hD
  refine lv_istore_n (lv' := [(1, .int 0), (0, .ref h0)]) hx hb dX11_comes_30 rfl hl (by decide) rfl (fun ls hl => ?_)
  refine lv_aload_n hx hb dX11_comes_31 rfl (lv_at hl 1 rfl) ?_
  refine va_get (D := D) (ci := 14) (v := .ref h1) (own := RX11) (C := RX11) (T := TX11) (N := 25) hx hb hts hi_X11 hown hK hP 0 rfl rfl 0 (by decide) (hts (.fieldLink RX11 9 "CanalMapsModel" "now" "[I") (List.mem_of_getElem? (i := 1) (by decide +kernel))) (fun _ h9 => h9) rfl dX11_comes_32 ?_
  refine lv_bipush (v := 6) hx hb dX11_comes_35 (by decide) ?_
  refine lv_iload_n hx hb dX11_comes_37 rfl (lv_at hl 0 rfl) ?_
  refine lv_iadd hx hb dX11_comes_38 ?_
  refine kt_ (v := 6) (by decide +kernel) ?_
  refine lv_iconst (v := 0) hx hb dX11_comes_39 (by decide) ?_
  refine ka_iast (g := (upd (fun _ => 0) 0 1)) hx hb hK hP hD hS 1 0 rfl rfl (vin_ (by decide +kernel)) (up_same (by decide +kernel)) dX11_comes_40 (fun H locs hP hD hS => ?_)
  have hP : va_P D vwCl [(h0, .inr (14, [.ref h1, v0, v1, v2, v3, v4, v5, .ref h2, .int 0, v6, v7, v8, v9, v10, v11, v12, v13, v14, v15, v16, v17, v18, v19, v20, v21])), (h1, .inl (k1, 8277, .inl (upd (fun _ => 0) 0 1))), (h2, .inl (k2, 147456, .inl (fun _ => 0)))] H := hP
  have hD : va_D A [(h0, .inr (14, [.ref h1, v0, v1, v2, v3, v4, v5, .ref h2, .int 0, v6, v7, v8, v9, v10, v11, v12, v13, v14, v15, v16, v17, v18, v19, v20, v21])), (h1, .inl (k1, 8277, .inl (upd (fun _ => 0) 0 1))), (h2, .inl (k2, 147456, .inl (fun _ => 0)))] := hD
  refine lv_iconst (v := 0) hx hb dX11_comes_41 (by decide) ?_
  refine lv_istore_n (lv' := [(2, .int 0), (1, .int 0), (0, .ref h0)]) hx hb dX11_comes_42 rfl hl (by decide) rfl (fun ls hl => ?_)
  refine lv_iload_n hx hb dX11_comes_43 rfl (lv_at hl 0 rfl) ?_
  refine lv_bipush (v := 6) hx hb dX11_comes_44 (by decide) ?_
  refine lv_icmp_ge (tgt := 115) hx hb dX11_comes_46 (by decide) (fun c9 => absurd c9 (by decide +kernel)) (fun _ => ?_)
  refine lv_aload_n hx hb dX11_comes_49 rfl (lv_at hl 2 rfl) ?_
  refine va_get (D := D) (ci := 14) (v := .ref h1) (own := RX11) (C := RX11) (T := TX11) (N := 25) hx hb hts hi_X11 hown hK hP 0 rfl rfl 0 (by decide) (hts (.fieldLink RX11 9 "CanalMapsModel" "now" "[I") (List.mem_of_getElem? (i := 1) (by decide +kernel))) (fun _ h9 => h9) rfl dX11_comes_50 ?_
  refine lv_bipush (v := 12) hx hb dX11_comes_53 (by decide) ?_
  refine lv_bipush (v := 6) hx hb dX11_comes_55 (by decide) ?_
  refine lv_iload_n hx hb dX11_comes_57 rfl (lv_at hl 1 rfl) ?_
  refine lv_imul hx hb dX11_comes_58 ?_
  refine kt_ (v := 0) (by decide +kernel) ?_
  refine lv_iadd hx hb dX11_comes_59 ?_
  refine kt_ (v := 12) (by decide +kernel) ?_
  refine lv_iload_n hx hb dX11_comes_60 rfl (lv_at hl 0 rfl) ?_
  refine lv_iadd hx hb dX11_comes_61 ?_
  refine kt_ (v := 12) (by decide +kernel) ?_
  refine lv_iconst (v := 0) hx hb dX11_comes_62 (by decide) ?_
  refine ka_iast (g := (upd (fun _ => 0) 0 1)) hx hb hK hP hD hS 1 0 rfl rfl (vin_ (by decide +kernel)) (up_same (by decide +kernel)) dX11_comes_63 (fun H locs hP hD hS => ?_)
  have hP : va_P D vwCl [(h0, .inr (14, [.ref h1, v0, v1, v2, v3, v4, v5, .ref h2, .int 0, v6, v7, v8, v9, v10, v11, v12, v13, v14, v15, v16, v17, v18, v19, v20, v21])), (h1, .inl (k1, 8277, .inl (upd (fun _ => 0) 0 1))), (h2, .inl (k2, 147456, .inl (fun _ => 0)))] H := hP
  have hD : va_D A [(h0, .inr (14, [.ref h1, v0, v1, v2, v3, v4, v5, .ref h2, .int 0, v6, v7, v8, v9, v10, v11, v12, v13, v14, v15, v16, v17, v18, v19, v20, v21])), (h1, .inl (k1, 8277, .inl (upd (fun _ => 0) 0 1))), (h2, .inl (k2, 147456, .inl (fun _ => 0)))] := hD
  refine lv_aload_n hx hb dX11_comes_64 rfl (lv_at hl 2 rfl) ?_
  refine va_get (D := D) (ci := 14) (v := .ref h1) (own := RX11) (C := RX11) (T := TX11) (N := 25) hx hb hts hi_X11 hown hK hP 0 rfl rfl 0 (by decide) (hts (.fieldLink RX11 9 "CanalMapsModel" "now" "[I") (List.mem_of_getElem? (i := 1) (by decide +kernel))) (fun _ h9 => h9) rfl dX11_comes_65 ?_
  refine lv_bipush (v := 12) hx hb dX11_comes_68 (by decide) ?_
  refine lv_bipush (v := 6) hx hb dX11_comes_70 (by decide) ?_
  refine lv_iload_n hx hb dX11_comes_72 rfl (lv_at hl 0 rfl) ?_
  refine lv_imul hx hb dX11_comes_73 ?_
  refine kt_ (v := 0) (by decide +kernel) ?_
  refine lv_iadd hx hb dX11_comes_74 ?_
  refine kt_ (v := 12) (by decide +kernel) ?_
  refine lv_iload_n hx hb dX11_comes_75 rfl (lv_at hl 1 rfl) ?_
  refine lv_iadd hx hb dX11_comes_76 ?_
  refine kt_ (v := 12) (by decide +kernel) ?_
  refine lv_iconst (v := 0) hx hb dX11_comes_77 (by decide) ?_
  refine ka_iast (g := (upd (fun _ => 0) 0 1)) hx hb hK hP hD hS 1 0 rfl rfl (vin_ (by decide +kernel)) (up_same (by decide +kernel)) dX11_comes_78 (fun H locs hP hD hS => ?_)
  have hP : va_P D vwCl [(h0, .inr (14, [.ref h1, v0, v1, v2, v3, v4, v5, .ref h2, .int 0, v6, v7, v8, v9, v10, v11, v12, v13, v14, v15, v16, v17, v18, v19, v20, v21])), (h1, .inl (k1, 8277, .inl (upd (fun _ => 0) 0 1))), (h2, .inl (k2, 147456, .inl (fun _ => 0)))] H := hP
  have hD : va_D A [(h0, .inr (14, [.ref h1, v0, v1, v2, v3, v4, v5, .ref h2, .int 0, v6, v7, v8, v9, v10, v11, v12, v13, v14, v15, v16, v17, v18, v19, v20, v21])), (h1, .inl (k1, 8277, .inl (upd (fun _ => 0) 0 1))), (h2, .inl (k2, 147456, .inl (fun _ => 0)))] := hD
  refine lv_aload_n hx hb dX11_comes_79 rfl (lv_at hl 2 rfl) ?_
  refine va_get (D := D) (ci := 14) (v := .ref h1) (own := RX11) (C := RX11) (T := TX11) (N := 25) hx hb hts hi_X11 hown hK hP 0 rfl rfl 0 (by decide) (hts (.fieldLink RX11 9 "CanalMapsModel" "now" "[I") (List.mem_of_getElem? (i := 1) (by decide +kernel))) (fun _ h9 => h9) rfl dX11_comes_80 ?_
  refine lv_bipush (v := 48) hx hb dX11_comes_83 (by decide) ?_
  refine lv_bipush (v := 6) hx hb dX11_comes_85 (by decide) ?_
  refine lv_iload_n hx hb dX11_comes_87 rfl (lv_at hl 1 rfl) ?_
  refine lv_imul hx hb dX11_comes_88 ?_
  refine kt_ (v := 0) (by decide +kernel) ?_
  refine lv_iadd hx hb dX11_comes_89 ?_
  refine kt_ (v := 48) (by decide +kernel) ?_
  refine lv_iload_n hx hb dX11_comes_90 rfl (lv_at hl 0 rfl) ?_
  refine lv_iadd hx hb dX11_comes_91 ?_
  refine kt_ (v := 48) (by decide +kernel) ?_
  refine lv_iconst (v := 0) hx hb dX11_comes_92 (by decide) ?_
  refine ka_iast (g := (upd (fun _ => 0) 0 1)) hx hb hK hP hD hS 1 0 rfl rfl (vin_ (by decide +kernel)) (up_same (by decide +kernel)) dX11_comes_93 (fun H locs hP hD hS => ?_)
  have hP : va_P D vwCl [(h0, .inr (14, [.ref h1, v0, v1, v2, v3, v4, v5, .ref h2, .int 0, v6, v7, v8, v9, v10, v11, v12, v13, v14, v15, v16, v17, v18, v19, v20, v21])), (h1, .inl (k1, 8277, .inl (upd (fun _ => 0) 0 1))), (h2, .inl (k2, 147456, .inl (fun _ => 0)))] H := hP
  have hD : va_D A [(h0, .inr (14, [.ref h1, v0, v1, v2, v3, v4, v5, .ref h2, .int 0, v6, v7, v8, v9, v10, v11, v12, v13, v14, v15, v16, v17, v18, v19, v20, v21])), (h1, .inl (k1, 8277, .inl (upd (fun _ => 0) 0 1))), (h2, .inl (k2, 147456, .inl (fun _ => 0)))] := hD
  refine lv_aload_n hx hb dX11_comes_94 rfl (lv_at hl 2 rfl) ?_
  refine va_get (D := D) (ci := 14) (v := .ref h1) (own := RX11) (C := RX11) (T := TX11) (N := 25) hx hb hts hi_X11 hown hK hP 0 rfl rfl 0 (by decide) (hts (.fieldLink RX11 9 "CanalMapsModel" "now" "[I") (List.mem_of_getElem? (i := 1) (by decide +kernel))) (fun _ h9 => h9) rfl dX11_comes_95 ?_
  refine lv_bipush (v := 48) hx hb dX11_comes_98 (by decide) ?_
  refine lv_bipush (v := 6) hx hb dX11_comes_100 (by decide) ?_
  refine lv_iload_n hx hb dX11_comes_102 rfl (lv_at hl 0 rfl) ?_
  refine lv_imul hx hb dX11_comes_103 ?_
  refine kt_ (v := 0) (by decide +kernel) ?_
  refine lv_iadd hx hb dX11_comes_104 ?_
  refine kt_ (v := 48) (by decide +kernel) ?_
  refine lv_iload_n hx hb dX11_comes_105 rfl (lv_at hl 1 rfl) ?_
  refine lv_iadd hx hb dX11_comes_106 ?_
  refine kt_ (v := 48) (by decide +kernel) ?_
  refine lv_iconst (v := 0) hx hb dX11_comes_107 (by decide) ?_
  refine ka_iast (g := (upd (fun _ => 0) 0 1)) hx hb hK hP hD hS 1 0 rfl rfl (vin_ (by decide +kernel)) (up_same (by decide +kernel)) dX11_comes_108 (fun H locs hP hD hS => ?_)
  have hP : va_P D vwCl [(h0, .inr (14, [.ref h1, v0, v1, v2, v3, v4, v5, .ref h2, .int 0, v6, v7, v8, v9, v10, v11, v12, v13, v14, v15, v16, v17, v18, v19, v20, v21])), (h1, .inl (k1, 8277, .inl (upd (fun _ => 0) 0 1))), (h2, .inl (k2, 147456, .inl (fun _ => 0)))] H := hP
  have hD : va_D A [(h0, .inr (14, [.ref h1, v0, v1, v2, v3, v4, v5, .ref h2, .int 0, v6, v7, v8, v9, v10, v11, v12, v13, v14, v15, v16, v17, v18, v19, v20, v21])), (h1, .inl (k1, 8277, .inl (upd (fun _ => 0) 0 1))), (h2, .inl (k2, 147456, .inl (fun _ => 0)))] := hD
  refine lv_iinc (v := 1) (lv' := [(2, .int 1), (1, .int 0), (0, .ref h0)]) hx hb dX11_comes_109 hl (k := 0) rfl (by decide +kernel) (by decide) rfl (fun ls hl => ?_)
  refine lv_goto (tgt := 43) hx hb dX11_comes_112 (by decide) ?_
  refine lv_iload_n hx hb dX11_comes_43 rfl (lv_at hl 0 rfl) ?_
  refine lv_bipush (v := 6) hx hb dX11_comes_44 (by decide) ?_
  refine lv_icmp_ge (tgt := 115) hx hb dX11_comes_46 (by decide) (fun c9 => absurd c9 (by decide +kernel)) (fun _ => ?_)
  refine lv_aload_n hx hb dX11_comes_49 rfl (lv_at hl 2 rfl) ?_
  refine va_get (D := D) (ci := 14) (v := .ref h1) (own := RX11) (C := RX11) (T := TX11) (N := 25) hx hb hts hi_X11 hown hK hP 0 rfl rfl 0 (by decide) (hts (.fieldLink RX11 9 "CanalMapsModel" "now" "[I") (List.mem_of_getElem? (i := 1) (by decide +kernel))) (fun _ h9 => h9) rfl dX11_comes_50 ?_
  refine lv_bipush (v := 12) hx hb dX11_comes_53 (by decide) ?_
  refine lv_bipush (v := 6) hx hb dX11_comes_55 (by decide) ?_
  refine lv_iload_n hx hb dX11_comes_57 rfl (lv_at hl 1 rfl) ?_
  refine lv_imul hx hb dX11_comes_58 ?_
  refine kt_ (v := 0) (by decide +kernel) ?_
  refine lv_iadd hx hb dX11_comes_59 ?_
  refine kt_ (v := 12) (by decide +kernel) ?_
  refine lv_iload_n hx hb dX11_comes_60 rfl (lv_at hl 0 rfl) ?_
  refine lv_iadd hx hb dX11_comes_61 ?_
  refine kt_ (v := 13) (by decide +kernel) ?_
  refine lv_iconst (v := 0) hx hb dX11_comes_62 (by decide) ?_
  refine ka_iast (g := (upd (fun _ => 0) 0 1)) hx hb hK hP hD hS 1 0 rfl rfl (vin_ (by decide +kernel)) (up_same (by decide +kernel)) dX11_comes_63 (fun H locs hP hD hS => ?_)
  have hP : va_P D vwCl [(h0, .inr (14, [.ref h1, v0, v1, v2, v3, v4, v5, .ref h2, .int 0, v6, v7, v8, v9, v10, v11, v12, v13, v14, v15, v16, v17, v18, v19, v20, v21])), (h1, .inl (k1, 8277, .inl (upd (fun _ => 0) 0 1))), (h2, .inl (k2, 147456, .inl (fun _ => 0)))] H := hP
  have hD : va_D A [(h0, .inr (14, [.ref h1, v0, v1, v2, v3, v4, v5, .ref h2, .int 0, v6, v7, v8, v9, v10, v11, v12, v13, v14, v15, v16, v17, v18, v19, v20, v21])), (h1, .inl (k1, 8277, .inl (upd (fun _ => 0) 0 1))), (h2, .inl (k2, 147456, .inl (fun _ => 0)))] := hD
  refine lv_aload_n hx hb dX11_comes_64 rfl (lv_at hl 2 rfl) ?_
  refine va_get (D := D) (ci := 14) (v := .ref h1) (own := RX11) (C := RX11) (T := TX11) (N := 25) hx hb hts hi_X11 hown hK hP 0 rfl rfl 0 (by decide) (hts (.fieldLink RX11 9 "CanalMapsModel" "now" "[I") (List.mem_of_getElem? (i := 1) (by decide +kernel))) (fun _ h9 => h9) rfl dX11_comes_65 ?_
  refine lv_bipush (v := 12) hx hb dX11_comes_68 (by decide) ?_
  refine lv_bipush (v := 6) hx hb dX11_comes_70 (by decide) ?_
  refine lv_iload_n hx hb dX11_comes_72 rfl (lv_at hl 0 rfl) ?_
  refine lv_imul hx hb dX11_comes_73 ?_
  refine kt_ (v := 6) (by decide +kernel) ?_
  refine lv_iadd hx hb dX11_comes_74 ?_
  refine kt_ (v := 18) (by decide +kernel) ?_
  refine lv_iload_n hx hb dX11_comes_75 rfl (lv_at hl 1 rfl) ?_
  refine lv_iadd hx hb dX11_comes_76 ?_
  refine kt_ (v := 18) (by decide +kernel) ?_
  refine lv_iconst (v := 0) hx hb dX11_comes_77 (by decide) ?_
  refine ka_iast (g := (upd (fun _ => 0) 0 1)) hx hb hK hP hD hS 1 0 rfl rfl (vin_ (by decide +kernel)) (up_same (by decide +kernel)) dX11_comes_78 (fun H locs hP hD hS => ?_)
  have hP : va_P D vwCl [(h0, .inr (14, [.ref h1, v0, v1, v2, v3, v4, v5, .ref h2, .int 0, v6, v7, v8, v9, v10, v11, v12, v13, v14, v15, v16, v17, v18, v19, v20, v21])), (h1, .inl (k1, 8277, .inl (upd (fun _ => 0) 0 1))), (h2, .inl (k2, 147456, .inl (fun _ => 0)))] H := hP
  have hD : va_D A [(h0, .inr (14, [.ref h1, v0, v1, v2, v3, v4, v5, .ref h2, .int 0, v6, v7, v8, v9, v10, v11, v12, v13, v14, v15, v16, v17, v18, v19, v20, v21])), (h1, .inl (k1, 8277, .inl (upd (fun _ => 0) 0 1))), (h2, .inl (k2, 147456, .inl (fun _ => 0)))] := hD
  refine lv_aload_n hx hb dX11_comes_79 rfl (lv_at hl 2 rfl) ?_
  refine va_get (D := D) (ci := 14) (v := .ref h1) (own := RX11) (C := RX11) (T := TX11) (N := 25) hx hb hts hi_X11 hown hK hP 0 rfl rfl 0 (by decide) (hts (.fieldLink RX11 9 "CanalMapsModel" "now" "[I") (List.mem_of_getElem? (i := 1) (by decide +kernel))) (fun _ h9 => h9) rfl dX11_comes_80 ?_
  refine lv_bipush (v := 48) hx hb dX11_comes_83 (by decide) ?_
  refine lv_bipush (v := 6) hx hb dX11_comes_85 (by decide) ?_
  refine lv_iload_n hx hb dX11_comes_87 rfl (lv_at hl 1 rfl) ?_
  refine lv_imul hx hb dX11_comes_88 ?_
  refine kt_ (v := 0) (by decide +kernel) ?_
  refine lv_iadd hx hb dX11_comes_89 ?_
  refine kt_ (v := 48) (by decide +kernel) ?_
  refine lv_iload_n hx hb dX11_comes_90 rfl (lv_at hl 0 rfl) ?_
  refine lv_iadd hx hb dX11_comes_91 ?_
  refine kt_ (v := 49) (by decide +kernel) ?_
  refine lv_iconst (v := 0) hx hb dX11_comes_92 (by decide) ?_
  refine ka_iast (g := (upd (fun _ => 0) 0 1)) hx hb hK hP hD hS 1 0 rfl rfl (vin_ (by decide +kernel)) (up_same (by decide +kernel)) dX11_comes_93 (fun H locs hP hD hS => ?_)
  have hP : va_P D vwCl [(h0, .inr (14, [.ref h1, v0, v1, v2, v3, v4, v5, .ref h2, .int 0, v6, v7, v8, v9, v10, v11, v12, v13, v14, v15, v16, v17, v18, v19, v20, v21])), (h1, .inl (k1, 8277, .inl (upd (fun _ => 0) 0 1))), (h2, .inl (k2, 147456, .inl (fun _ => 0)))] H := hP
  have hD : va_D A [(h0, .inr (14, [.ref h1, v0, v1, v2, v3, v4, v5, .ref h2, .int 0, v6, v7, v8, v9, v10, v11, v12, v13, v14, v15, v16, v17, v18, v19, v20, v21])), (h1, .inl (k1, 8277, .inl (upd (fun _ => 0) 0 1))), (h2, .inl (k2, 147456, .inl (fun _ => 0)))] := hD
  refine lv_aload_n hx hb dX11_comes_94 rfl (lv_at hl 2 rfl) ?_
  refine va_get (D := D) (ci := 14) (v := .ref h1) (own := RX11) (C := RX11) (T := TX11) (N := 25) hx hb hts hi_X11 hown hK hP 0 rfl rfl 0 (by decide) (hts (.fieldLink RX11 9 "CanalMapsModel" "now" "[I") (List.mem_of_getElem? (i := 1) (by decide +kernel))) (fun _ h9 => h9) rfl dX11_comes_95 ?_
  refine lv_bipush (v := 48) hx hb dX11_comes_98 (by decide) ?_
  refine lv_bipush (v := 6) hx hb dX11_comes_100 (by decide) ?_
  refine lv_iload_n hx hb dX11_comes_102 rfl (lv_at hl 0 rfl) ?_
  refine lv_imul hx hb dX11_comes_103 ?_
  refine kt_ (v := 6) (by decide +kernel) ?_
  refine lv_iadd hx hb dX11_comes_104 ?_
  refine kt_ (v := 54) (by decide +kernel) ?_
  refine lv_iload_n hx hb dX11_comes_105 rfl (lv_at hl 1 rfl) ?_
  refine lv_iadd hx hb dX11_comes_106 ?_
  refine kt_ (v := 54) (by decide +kernel) ?_
  refine lv_iconst (v := 0) hx hb dX11_comes_107 (by decide) ?_
  refine ka_iast (g := (upd (fun _ => 0) 0 1)) hx hb hK hP hD hS 1 0 rfl rfl (vin_ (by decide +kernel)) (up_same (by decide +kernel)) dX11_comes_108 (fun H locs hP hD hS => ?_)
  have hP : va_P D vwCl [(h0, .inr (14, [.ref h1, v0, v1, v2, v3, v4, v5, .ref h2, .int 0, v6, v7, v8, v9, v10, v11, v12, v13, v14, v15, v16, v17, v18, v19, v20, v21])), (h1, .inl (k1, 8277, .inl (upd (fun _ => 0) 0 1))), (h2, .inl (k2, 147456, .inl (fun _ => 0)))] H := hP
  have hD : va_D A [(h0, .inr (14, [.ref h1, v0, v1, v2, v3, v4, v5, .ref h2, .int 0, v6, v7, v8, v9, v10, v11, v12, v13, v14, v15, v16, v17, v18, v19, v20, v21])), (h1, .inl (k1, 8277, .inl (upd (fun _ => 0) 0 1))), (h2, .inl (k2, 147456, .inl (fun _ => 0)))] := hD
  refine lv_iinc (v := 2) (lv' := [(2, .int 2), (1, .int 0), (0, .ref h0)]) hx hb dX11_comes_109 hl (k := 0) rfl (by decide +kernel) (by decide) rfl (fun ls hl => ?_)
  refine lv_goto (tgt := 43) hx hb dX11_comes_112 (by decide) ?_
  refine lv_iload_n hx hb dX11_comes_43 rfl (lv_at hl 0 rfl) ?_
  refine lv_bipush (v := 6) hx hb dX11_comes_44 (by decide) ?_
  refine lv_icmp_ge (tgt := 115) hx hb dX11_comes_46 (by decide) (fun c9 => absurd c9 (by decide +kernel)) (fun _ => ?_)
  refine lv_aload_n hx hb dX11_comes_49 rfl (lv_at hl 2 rfl) ?_
  refine va_get (D := D) (ci := 14) (v := .ref h1) (own := RX11) (C := RX11) (T := TX11) (N := 25) hx hb hts hi_X11 hown hK hP 0 rfl rfl 0 (by decide) (hts (.fieldLink RX11 9 "CanalMapsModel" "now" "[I") (List.mem_of_getElem? (i := 1) (by decide +kernel))) (fun _ h9 => h9) rfl dX11_comes_50 ?_
  refine lv_bipush (v := 12) hx hb dX11_comes_53 (by decide) ?_
  refine lv_bipush (v := 6) hx hb dX11_comes_55 (by decide) ?_
  refine lv_iload_n hx hb dX11_comes_57 rfl (lv_at hl 1 rfl) ?_
  refine lv_imul hx hb dX11_comes_58 ?_
  refine kt_ (v := 0) (by decide +kernel) ?_
  refine lv_iadd hx hb dX11_comes_59 ?_
  refine kt_ (v := 12) (by decide +kernel) ?_
  refine lv_iload_n hx hb dX11_comes_60 rfl (lv_at hl 0 rfl) ?_
  refine lv_iadd hx hb dX11_comes_61 ?_
  refine kt_ (v := 14) (by decide +kernel) ?_
  refine lv_iconst (v := 0) hx hb dX11_comes_62 (by decide) ?_
  refine ka_iast (g := (upd (fun _ => 0) 0 1)) hx hb hK hP hD hS 1 0 rfl rfl (vin_ (by decide +kernel)) (up_same (by decide +kernel)) dX11_comes_63 (fun H locs hP hD hS => ?_)
  have hP : va_P D vwCl [(h0, .inr (14, [.ref h1, v0, v1, v2, v3, v4, v5, .ref h2, .int 0, v6, v7, v8, v9, v10, v11, v12, v13, v14, v15, v16, v17, v18, v19, v20, v21])), (h1, .inl (k1, 8277, .inl (upd (fun _ => 0) 0 1))), (h2, .inl (k2, 147456, .inl (fun _ => 0)))] H := hP
  have hD : va_D A [(h0, .inr (14, [.ref h1, v0, v1, v2, v3, v4, v5, .ref h2, .int 0, v6, v7, v8, v9, v10, v11, v12, v13, v14, v15, v16, v17, v18, v19, v20, v21])), (h1, .inl (k1, 8277, .inl (upd (fun _ => 0) 0 1))), (h2, .inl (k2, 147456, .inl (fun _ => 0)))] := hD
  refine lv_aload_n hx hb dX11_comes_64 rfl (lv_at hl 2 rfl) ?_
  refine va_get (D := D) (ci := 14) (v := .ref h1) (own := RX11) (C := RX11) (T := TX11) (N := 25) hx hb hts hi_X11 hown hK hP 0 rfl rfl 0 (by decide) (hts (.fieldLink RX11 9 "CanalMapsModel" "now" "[I") (List.mem_of_getElem? (i := 1) (by decide +kernel))) (fun _ h9 => h9) rfl dX11_comes_65 ?_
  refine lv_bipush (v := 12) hx hb dX11_comes_68 (by decide) ?_
  refine lv_bipush (v := 6) hx hb dX11_comes_70 (by decide) ?_
  refine lv_iload_n hx hb dX11_comes_72 rfl (lv_at hl 0 rfl) ?_
  refine lv_imul hx hb dX11_comes_73 ?_
  refine kt_ (v := 12) (by decide +kernel) ?_
  refine lv_iadd hx hb dX11_comes_74 ?_
  refine kt_ (v := 24) (by decide +kernel) ?_
  refine lv_iload_n hx hb dX11_comes_75 rfl (lv_at hl 1 rfl) ?_
  refine lv_iadd hx hb dX11_comes_76 ?_
  refine kt_ (v := 24) (by decide +kernel) ?_
  refine lv_iconst (v := 0) hx hb dX11_comes_77 (by decide) ?_
  refine ka_iast (g := (upd (fun _ => 0) 0 1)) hx hb hK hP hD hS 1 0 rfl rfl (vin_ (by decide +kernel)) (up_same (by decide +kernel)) dX11_comes_78 (fun H locs hP hD hS => ?_)
  have hP : va_P D vwCl [(h0, .inr (14, [.ref h1, v0, v1, v2, v3, v4, v5, .ref h2, .int 0, v6, v7, v8, v9, v10, v11, v12, v13, v14, v15, v16, v17, v18, v19, v20, v21])), (h1, .inl (k1, 8277, .inl (upd (fun _ => 0) 0 1))), (h2, .inl (k2, 147456, .inl (fun _ => 0)))] H := hP
  have hD : va_D A [(h0, .inr (14, [.ref h1, v0, v1, v2, v3, v4, v5, .ref h2, .int 0, v6, v7, v8, v9, v10, v11, v12, v13, v14, v15, v16, v17, v18, v19, v20, v21])), (h1, .inl (k1, 8277, .inl (upd (fun _ => 0) 0 1))), (h2, .inl (k2, 147456, .inl (fun _ => 0)))] := hD
  refine lv_aload_n hx hb dX11_comes_79 rfl (lv_at hl 2 rfl) ?_
  refine va_get (D := D) (ci := 14) (v := .ref h1) (own := RX11) (C := RX11) (T := TX11) (N := 25) hx hb hts hi_X11 hown hK hP 0 rfl rfl 0 (by decide) (hts (.fieldLink RX11 9 "CanalMapsModel" "now" "[I") (List.mem_of_getElem? (i := 1) (by decide +kernel))) (fun _ h9 => h9) rfl dX11_comes_80 ?_
  refine lv_bipush (v := 48) hx hb dX11_comes_83 (by decide) ?_
  refine lv_bipush (v := 6) hx hb dX11_comes_85 (by decide) ?_
  refine lv_iload_n hx hb dX11_comes_87 rfl (lv_at hl 1 rfl) ?_
  refine lv_imul hx hb dX11_comes_88 ?_
  refine kt_ (v := 0) (by decide +kernel) ?_
  refine lv_iadd hx hb dX11_comes_89 ?_
  refine kt_ (v := 48) (by decide +kernel) ?_
  refine lv_iload_n hx hb dX11_comes_90 rfl (lv_at hl 0 rfl) ?_
  refine lv_iadd hx hb dX11_comes_91 ?_
  refine kt_ (v := 50) (by decide +kernel) ?_
  refine lv_iconst (v := 0) hx hb dX11_comes_92 (by decide) ?_
  refine ka_iast (g := (upd (fun _ => 0) 0 1)) hx hb hK hP hD hS 1 0 rfl rfl (vin_ (by decide +kernel)) (up_same (by decide +kernel)) dX11_comes_93 (fun H locs hP hD hS => ?_)
  have hP : va_P D vwCl [(h0, .inr (14, [.ref h1, v0, v1, v2, v3, v4, v5, .ref h2, .int 0, v6, v7, v8, v9, v10, v11, v12, v13, v14, v15, v16, v17, v18, v19, v20, v21])), (h1, .inl (k1, 8277, .inl (upd (fun _ => 0) 0 1))), (h2, .inl (k2, 147456, .inl (fun _ => 0)))] H := hP
  have hD : va_D A [(h0, .inr (14, [.ref h1, v0, v1, v2, v3, v4, v5, .ref h2, .int 0, v6, v7, v8, v9, v10, v11, v12, v13, v14, v15, v16, v17, v18, v19, v20, v21])), (h1, .inl (k1, 8277, .inl (upd (fun _ => 0) 0 1))), (h2, .inl (k2, 147456, .inl (fun _ => 0)))] := hD
  refine lv_aload_n hx hb dX11_comes_94 rfl (lv_at hl 2 rfl) ?_
  refine va_get (D := D) (ci := 14) (v := .ref h1) (own := RX11) (C := RX11) (T := TX11) (N := 25) hx hb hts hi_X11 hown hK hP 0 rfl rfl 0 (by decide) (hts (.fieldLink RX11 9 "CanalMapsModel" "now" "[I") (List.mem_of_getElem? (i := 1) (by decide +kernel))) (fun _ h9 => h9) rfl dX11_comes_95 ?_
  refine lv_bipush (v := 48) hx hb dX11_comes_98 (by decide) ?_
  refine lv_bipush (v := 6) hx hb dX11_comes_100 (by decide) ?_
  refine lv_iload_n hx hb dX11_comes_102 rfl (lv_at hl 0 rfl) ?_
  refine lv_imul hx hb dX11_comes_103 ?_
  refine kt_ (v := 12) (by decide +kernel) ?_
  refine lv_iadd hx hb dX11_comes_104 ?_
  refine kt_ (v := 60) (by decide +kernel) ?_
  refine lv_iload_n hx hb dX11_comes_105 rfl (lv_at hl 1 rfl) ?_
  refine lv_iadd hx hb dX11_comes_106 ?_
  refine kt_ (v := 60) (by decide +kernel) ?_
  refine lv_iconst (v := 0) hx hb dX11_comes_107 (by decide) ?_
  refine ka_iast (g := (upd (fun _ => 0) 0 1)) hx hb hK hP hD hS 1 0 rfl rfl (vin_ (by decide +kernel)) (up_same (by decide +kernel)) dX11_comes_108 (fun H locs hP hD hS => ?_)
  have hP : va_P D vwCl [(h0, .inr (14, [.ref h1, v0, v1, v2, v3, v4, v5, .ref h2, .int 0, v6, v7, v8, v9, v10, v11, v12, v13, v14, v15, v16, v17, v18, v19, v20, v21])), (h1, .inl (k1, 8277, .inl (upd (fun _ => 0) 0 1))), (h2, .inl (k2, 147456, .inl (fun _ => 0)))] H := hP
  have hD : va_D A [(h0, .inr (14, [.ref h1, v0, v1, v2, v3, v4, v5, .ref h2, .int 0, v6, v7, v8, v9, v10, v11, v12, v13, v14, v15, v16, v17, v18, v19, v20, v21])), (h1, .inl (k1, 8277, .inl (upd (fun _ => 0) 0 1))), (h2, .inl (k2, 147456, .inl (fun _ => 0)))] := hD
  refine lv_iinc (v := 3) (lv' := [(2, .int 3), (1, .int 0), (0, .ref h0)]) hx hb dX11_comes_109 hl (k := 0) rfl (by decide +kernel) (by decide) rfl (fun ls hl => ?_)
  refine lv_goto (tgt := 43) hx hb dX11_comes_112 (by decide) ?_
  refine lv_iload_n hx hb dX11_comes_43 rfl (lv_at hl 0 rfl) ?_
  refine lv_bipush (v := 6) hx hb dX11_comes_44 (by decide) ?_
  refine lv_icmp_ge (tgt := 115) hx hb dX11_comes_46 (by decide) (fun c9 => absurd c9 (by decide +kernel)) (fun _ => ?_)
  refine lv_aload_n hx hb dX11_comes_49 rfl (lv_at hl 2 rfl) ?_
  refine va_get (D := D) (ci := 14) (v := .ref h1) (own := RX11) (C := RX11) (T := TX11) (N := 25) hx hb hts hi_X11 hown hK hP 0 rfl rfl 0 (by decide) (hts (.fieldLink RX11 9 "CanalMapsModel" "now" "[I") (List.mem_of_getElem? (i := 1) (by decide +kernel))) (fun _ h9 => h9) rfl dX11_comes_50 ?_
  refine lv_bipush (v := 12) hx hb dX11_comes_53 (by decide) ?_
  refine lv_bipush (v := 6) hx hb dX11_comes_55 (by decide) ?_
  refine lv_iload_n hx hb dX11_comes_57 rfl (lv_at hl 1 rfl) ?_
  refine lv_imul hx hb dX11_comes_58 ?_
  refine kt_ (v := 0) (by decide +kernel) ?_
  refine lv_iadd hx hb dX11_comes_59 ?_
  refine kt_ (v := 12) (by decide +kernel) ?_
  refine lv_iload_n hx hb dX11_comes_60 rfl (lv_at hl 0 rfl) ?_
  refine lv_iadd hx hb dX11_comes_61 ?_
  refine kt_ (v := 15) (by decide +kernel) ?_
  refine lv_iconst (v := 0) hx hb dX11_comes_62 (by decide) ?_
  refine ka_iast (g := (upd (fun _ => 0) 0 1)) hx hb hK hP hD hS 1 0 rfl rfl (vin_ (by decide +kernel)) (up_same (by decide +kernel)) dX11_comes_63 (fun H locs hP hD hS => ?_)
  have hP : va_P D vwCl [(h0, .inr (14, [.ref h1, v0, v1, v2, v3, v4, v5, .ref h2, .int 0, v6, v7, v8, v9, v10, v11, v12, v13, v14, v15, v16, v17, v18, v19, v20, v21])), (h1, .inl (k1, 8277, .inl (upd (fun _ => 0) 0 1))), (h2, .inl (k2, 147456, .inl (fun _ => 0)))] H := hP
  have hD : va_D A [(h0, .inr (14, [.ref h1, v0, v1, v2, v3, v4, v5, .ref h2, .int 0, v6, v7, v8, v9, v10, v11, v12, v13, v14, v15, v16, v17, v18, v19, v20, v21])), (h1, .inl (k1, 8277, .inl (upd (fun _ => 0) 0 1))), (h2, .inl (k2, 147456, .inl (fun _ => 0)))] := hD
  refine lv_aload_n hx hb dX11_comes_64 rfl (lv_at hl 2 rfl) ?_
  refine va_get (D := D) (ci := 14) (v := .ref h1) (own := RX11) (C := RX11) (T := TX11) (N := 25) hx hb hts hi_X11 hown hK hP 0 rfl rfl 0 (by decide) (hts (.fieldLink RX11 9 "CanalMapsModel" "now" "[I") (List.mem_of_getElem? (i := 1) (by decide +kernel))) (fun _ h9 => h9) rfl dX11_comes_65 ?_
  refine lv_bipush (v := 12) hx hb dX11_comes_68 (by decide) ?_
  refine lv_bipush (v := 6) hx hb dX11_comes_70 (by decide) ?_
  refine lv_iload_n hx hb dX11_comes_72 rfl (lv_at hl 0 rfl) ?_
  refine lv_imul hx hb dX11_comes_73 ?_
  refine kt_ (v := 18) (by decide +kernel) ?_
  refine lv_iadd hx hb dX11_comes_74 ?_
  refine kt_ (v := 30) (by decide +kernel) ?_
  refine lv_iload_n hx hb dX11_comes_75 rfl (lv_at hl 1 rfl) ?_
  refine lv_iadd hx hb dX11_comes_76 ?_
  refine kt_ (v := 30) (by decide +kernel) ?_
  refine lv_iconst (v := 0) hx hb dX11_comes_77 (by decide) ?_
  refine ka_iast (g := (upd (fun _ => 0) 0 1)) hx hb hK hP hD hS 1 0 rfl rfl (vin_ (by decide +kernel)) (up_same (by decide +kernel)) dX11_comes_78 (fun H locs hP hD hS => ?_)
  have hP : va_P D vwCl [(h0, .inr (14, [.ref h1, v0, v1, v2, v3, v4, v5, .ref h2, .int 0, v6, v7, v8, v9, v10, v11, v12, v13, v14, v15, v16, v17, v18, v19, v20, v21])), (h1, .inl (k1, 8277, .inl (upd (fun _ => 0) 0 1))), (h2, .inl (k2, 147456, .inl (fun _ => 0)))] H := hP
  have hD : va_D A [(h0, .inr (14, [.ref h1, v0, v1, v2, v3, v4, v5, .ref h2, .int 0, v6, v7, v8, v9, v10, v11, v12, v13, v14, v15, v16, v17, v18, v19, v20, v21])), (h1, .inl (k1, 8277, .inl (upd (fun _ => 0) 0 1))), (h2, .inl (k2, 147456, .inl (fun _ => 0)))] := hD
  refine lv_aload_n hx hb dX11_comes_79 rfl (lv_at hl 2 rfl) ?_
  refine va_get (D := D) (ci := 14) (v := .ref h1) (own := RX11) (C := RX11) (T := TX11) (N := 25) hx hb hts hi_X11 hown hK hP 0 rfl rfl 0 (by decide) (hts (.fieldLink RX11 9 "CanalMapsModel" "now" "[I") (List.mem_of_getElem? (i := 1) (by decide +kernel))) (fun _ h9 => h9) rfl dX11_comes_80 ?_
  refine lv_bipush (v := 48) hx hb dX11_comes_83 (by decide) ?_
  refine lv_bipush (v := 6) hx hb dX11_comes_85 (by decide) ?_
  refine lv_iload_n hx hb dX11_comes_87 rfl (lv_at hl 1 rfl) ?_
  refine lv_imul hx hb dX11_comes_88 ?_
  refine kt_ (v := 0) (by decide +kernel) ?_
  refine lv_iadd hx hb dX11_comes_89 ?_
  refine kt_ (v := 48) (by decide +kernel) ?_
  refine lv_iload_n hx hb dX11_comes_90 rfl (lv_at hl 0 rfl) ?_
  refine lv_iadd hx hb dX11_comes_91 ?_
  refine kt_ (v := 51) (by decide +kernel) ?_
  refine lv_iconst (v := 0) hx hb dX11_comes_92 (by decide) ?_
  refine ka_iast (g := (upd (fun _ => 0) 0 1)) hx hb hK hP hD hS 1 0 rfl rfl (vin_ (by decide +kernel)) (up_same (by decide +kernel)) dX11_comes_93 (fun H locs hP hD hS => ?_)
  have hP : va_P D vwCl [(h0, .inr (14, [.ref h1, v0, v1, v2, v3, v4, v5, .ref h2, .int 0, v6, v7, v8, v9, v10, v11, v12, v13, v14, v15, v16, v17, v18, v19, v20, v21])), (h1, .inl (k1, 8277, .inl (upd (fun _ => 0) 0 1))), (h2, .inl (k2, 147456, .inl (fun _ => 0)))] H := hP
  have hD : va_D A [(h0, .inr (14, [.ref h1, v0, v1, v2, v3, v4, v5, .ref h2, .int 0, v6, v7, v8, v9, v10, v11, v12, v13, v14, v15, v16, v17, v18, v19, v20, v21])), (h1, .inl (k1, 8277, .inl (upd (fun _ => 0) 0 1))), (h2, .inl (k2, 147456, .inl (fun _ => 0)))] := hD
  refine lv_aload_n hx hb dX11_comes_94 rfl (lv_at hl 2 rfl) ?_
  refine va_get (D := D) (ci := 14) (v := .ref h1) (own := RX11) (C := RX11) (T := TX11) (N := 25) hx hb hts hi_X11 hown hK hP 0 rfl rfl 0 (by decide) (hts (.fieldLink RX11 9 "CanalMapsModel" "now" "[I") (List.mem_of_getElem? (i := 1) (by decide +kernel))) (fun _ h9 => h9) rfl dX11_comes_95 ?_
  refine lv_bipush (v := 48) hx hb dX11_comes_98 (by decide) ?_
  refine lv_bipush (v := 6) hx hb dX11_comes_100 (by decide) ?_
  refine lv_iload_n hx hb dX11_comes_102 rfl (lv_at hl 0 rfl) ?_
  refine lv_imul hx hb dX11_comes_103 ?_
  refine kt_ (v := 18) (by decide +kernel) ?_
  refine lv_iadd hx hb dX11_comes_104 ?_
  refine kt_ (v := 66) (by decide +kernel) ?_
  refine lv_iload_n hx hb dX11_comes_105 rfl (lv_at hl 1 rfl) ?_
  refine lv_iadd hx hb dX11_comes_106 ?_
  refine kt_ (v := 66) (by decide +kernel) ?_
  refine lv_iconst (v := 0) hx hb dX11_comes_107 (by decide) ?_
  refine ka_iast (g := (upd (fun _ => 0) 0 1)) hx hb hK hP hD hS 1 0 rfl rfl (vin_ (by decide +kernel)) (up_same (by decide +kernel)) dX11_comes_108 (fun H locs hP hD hS => ?_)
  have hP : va_P D vwCl [(h0, .inr (14, [.ref h1, v0, v1, v2, v3, v4, v5, .ref h2, .int 0, v6, v7, v8, v9, v10, v11, v12, v13, v14, v15, v16, v17, v18, v19, v20, v21])), (h1, .inl (k1, 8277, .inl (upd (fun _ => 0) 0 1))), (h2, .inl (k2, 147456, .inl (fun _ => 0)))] H := hP
  have hD : va_D A [(h0, .inr (14, [.ref h1, v0, v1, v2, v3, v4, v5, .ref h2, .int 0, v6, v7, v8, v9, v10, v11, v12, v13, v14, v15, v16, v17, v18, v19, v20, v21])), (h1, .inl (k1, 8277, .inl (upd (fun _ => 0) 0 1))), (h2, .inl (k2, 147456, .inl (fun _ => 0)))] := hD
  refine lv_iinc (v := 4) (lv' := [(2, .int 4), (1, .int 0), (0, .ref h0)]) hx hb dX11_comes_109 hl (k := 0) rfl (by decide +kernel) (by decide) rfl (fun ls hl => ?_)
  refine lv_goto (tgt := 43) hx hb dX11_comes_112 (by decide) ?_
  refine lv_iload_n hx hb dX11_comes_43 rfl (lv_at hl 0 rfl) ?_
  refine lv_bipush (v := 6) hx hb dX11_comes_44 (by decide) ?_
  refine lv_icmp_ge (tgt := 115) hx hb dX11_comes_46 (by decide) (fun c9 => absurd c9 (by decide +kernel)) (fun _ => ?_)
  refine lv_aload_n hx hb dX11_comes_49 rfl (lv_at hl 2 rfl) ?_
  refine va_get (D := D) (ci := 14) (v := .ref h1) (own := RX11) (C := RX11) (T := TX11) (N := 25) hx hb hts hi_X11 hown hK hP 0 rfl rfl 0 (by decide) (hts (.fieldLink RX11 9 "CanalMapsModel" "now" "[I") (List.mem_of_getElem? (i := 1) (by decide +kernel))) (fun _ h9 => h9) rfl dX11_comes_50 ?_
  refine lv_bipush (v := 12) hx hb dX11_comes_53 (by decide) ?_
  refine lv_bipush (v := 6) hx hb dX11_comes_55 (by decide) ?_
  refine lv_iload_n hx hb dX11_comes_57 rfl (lv_at hl 1 rfl) ?_
  refine lv_imul hx hb dX11_comes_58 ?_
  refine kt_ (v := 0) (by decide +kernel) ?_
  refine lv_iadd hx hb dX11_comes_59 ?_
  refine kt_ (v := 12) (by decide +kernel) ?_
  refine lv_iload_n hx hb dX11_comes_60 rfl (lv_at hl 0 rfl) ?_
  refine lv_iadd hx hb dX11_comes_61 ?_
  refine kt_ (v := 16) (by decide +kernel) ?_
  refine lv_iconst (v := 0) hx hb dX11_comes_62 (by decide) ?_
  refine ka_iast (g := (upd (fun _ => 0) 0 1)) hx hb hK hP hD hS 1 0 rfl rfl (vin_ (by decide +kernel)) (up_same (by decide +kernel)) dX11_comes_63 (fun H locs hP hD hS => ?_)
  have hP : va_P D vwCl [(h0, .inr (14, [.ref h1, v0, v1, v2, v3, v4, v5, .ref h2, .int 0, v6, v7, v8, v9, v10, v11, v12, v13, v14, v15, v16, v17, v18, v19, v20, v21])), (h1, .inl (k1, 8277, .inl (upd (fun _ => 0) 0 1))), (h2, .inl (k2, 147456, .inl (fun _ => 0)))] H := hP
  have hD : va_D A [(h0, .inr (14, [.ref h1, v0, v1, v2, v3, v4, v5, .ref h2, .int 0, v6, v7, v8, v9, v10, v11, v12, v13, v14, v15, v16, v17, v18, v19, v20, v21])), (h1, .inl (k1, 8277, .inl (upd (fun _ => 0) 0 1))), (h2, .inl (k2, 147456, .inl (fun _ => 0)))] := hD
  refine lv_aload_n hx hb dX11_comes_64 rfl (lv_at hl 2 rfl) ?_
  refine va_get (D := D) (ci := 14) (v := .ref h1) (own := RX11) (C := RX11) (T := TX11) (N := 25) hx hb hts hi_X11 hown hK hP 0 rfl rfl 0 (by decide) (hts (.fieldLink RX11 9 "CanalMapsModel" "now" "[I") (List.mem_of_getElem? (i := 1) (by decide +kernel))) (fun _ h9 => h9) rfl dX11_comes_65 ?_
  refine lv_bipush (v := 12) hx hb dX11_comes_68 (by decide) ?_
  refine lv_bipush (v := 6) hx hb dX11_comes_70 (by decide) ?_
  refine lv_iload_n hx hb dX11_comes_72 rfl (lv_at hl 0 rfl) ?_
  refine lv_imul hx hb dX11_comes_73 ?_
  refine kt_ (v := 24) (by decide +kernel) ?_
  refine lv_iadd hx hb dX11_comes_74 ?_
  refine kt_ (v := 36) (by decide +kernel) ?_
  refine lv_iload_n hx hb dX11_comes_75 rfl (lv_at hl 1 rfl) ?_
  refine lv_iadd hx hb dX11_comes_76 ?_
  refine kt_ (v := 36) (by decide +kernel) ?_
  refine lv_iconst (v := 0) hx hb dX11_comes_77 (by decide) ?_
  refine ka_iast (g := (upd (fun _ => 0) 0 1)) hx hb hK hP hD hS 1 0 rfl rfl (vin_ (by decide +kernel)) (up_same (by decide +kernel)) dX11_comes_78 (fun H locs hP hD hS => ?_)
  have hP : va_P D vwCl [(h0, .inr (14, [.ref h1, v0, v1, v2, v3, v4, v5, .ref h2, .int 0, v6, v7, v8, v9, v10, v11, v12, v13, v14, v15, v16, v17, v18, v19, v20, v21])), (h1, .inl (k1, 8277, .inl (upd (fun _ => 0) 0 1))), (h2, .inl (k2, 147456, .inl (fun _ => 0)))] H := hP
  have hD : va_D A [(h0, .inr (14, [.ref h1, v0, v1, v2, v3, v4, v5, .ref h2, .int 0, v6, v7, v8, v9, v10, v11, v12, v13, v14, v15, v16, v17, v18, v19, v20, v21])), (h1, .inl (k1, 8277, .inl (upd (fun _ => 0) 0 1))), (h2, .inl (k2, 147456, .inl (fun _ => 0)))] := hD
  refine lv_aload_n hx hb dX11_comes_79 rfl (lv_at hl 2 rfl) ?_
  refine va_get (D := D) (ci := 14) (v := .ref h1) (own := RX11) (C := RX11) (T := TX11) (N := 25) hx hb hts hi_X11 hown hK hP 0 rfl rfl 0 (by decide) (hts (.fieldLink RX11 9 "CanalMapsModel" "now" "[I") (List.mem_of_getElem? (i := 1) (by decide +kernel))) (fun _ h9 => h9) rfl dX11_comes_80 ?_
  refine lv_bipush (v := 48) hx hb dX11_comes_83 (by decide) ?_
  refine lv_bipush (v := 6) hx hb dX11_comes_85 (by decide) ?_
  refine lv_iload_n hx hb dX11_comes_87 rfl (lv_at hl 1 rfl) ?_
  refine lv_imul hx hb dX11_comes_88 ?_
  refine kt_ (v := 0) (by decide +kernel) ?_
  refine lv_iadd hx hb dX11_comes_89 ?_
  refine kt_ (v := 48) (by decide +kernel) ?_
  refine lv_iload_n hx hb dX11_comes_90 rfl (lv_at hl 0 rfl) ?_
  refine lv_iadd hx hb dX11_comes_91 ?_
  refine kt_ (v := 52) (by decide +kernel) ?_
  refine lv_iconst (v := 0) hx hb dX11_comes_92 (by decide) ?_
  refine ka_iast (g := (upd (fun _ => 0) 0 1)) hx hb hK hP hD hS 1 0 rfl rfl (vin_ (by decide +kernel)) (up_same (by decide +kernel)) dX11_comes_93 (fun H locs hP hD hS => ?_)
  have hP : va_P D vwCl [(h0, .inr (14, [.ref h1, v0, v1, v2, v3, v4, v5, .ref h2, .int 0, v6, v7, v8, v9, v10, v11, v12, v13, v14, v15, v16, v17, v18, v19, v20, v21])), (h1, .inl (k1, 8277, .inl (upd (fun _ => 0) 0 1))), (h2, .inl (k2, 147456, .inl (fun _ => 0)))] H := hP
  have hD : va_D A [(h0, .inr (14, [.ref h1, v0, v1, v2, v3, v4, v5, .ref h2, .int 0, v6, v7, v8, v9, v10, v11, v12, v13, v14, v15, v16, v17, v18, v19, v20, v21])), (h1, .inl (k1, 8277, .inl (upd (fun _ => 0) 0 1))), (h2, .inl (k2, 147456, .inl (fun _ => 0)))] := hD
  refine lv_aload_n hx hb dX11_comes_94 rfl (lv_at hl 2 rfl) ?_
  refine va_get (D := D) (ci := 14) (v := .ref h1) (own := RX11) (C := RX11) (T := TX11) (N := 25) hx hb hts hi_X11 hown hK hP 0 rfl rfl 0 (by decide) (hts (.fieldLink RX11 9 "CanalMapsModel" "now" "[I") (List.mem_of_getElem? (i := 1) (by decide +kernel))) (fun _ h9 => h9) rfl dX11_comes_95 ?_
  refine lv_bipush (v := 48) hx hb dX11_comes_98 (by decide) ?_
  refine lv_bipush (v := 6) hx hb dX11_comes_100 (by decide) ?_
  refine lv_iload_n hx hb dX11_comes_102 rfl (lv_at hl 0 rfl) ?_
  refine lv_imul hx hb dX11_comes_103 ?_
  refine kt_ (v := 24) (by decide +kernel) ?_
  refine lv_iadd hx hb dX11_comes_104 ?_
  refine kt_ (v := 72) (by decide +kernel) ?_
  refine lv_iload_n hx hb dX11_comes_105 rfl (lv_at hl 1 rfl) ?_
  refine lv_iadd hx hb dX11_comes_106 ?_
  refine kt_ (v := 72) (by decide +kernel) ?_
  refine lv_iconst (v := 0) hx hb dX11_comes_107 (by decide) ?_
  refine ka_iast (g := (upd (fun _ => 0) 0 1)) hx hb hK hP hD hS 1 0 rfl rfl (vin_ (by decide +kernel)) (up_same (by decide +kernel)) dX11_comes_108 (fun H locs hP hD hS => ?_)
  have hP : va_P D vwCl [(h0, .inr (14, [.ref h1, v0, v1, v2, v3, v4, v5, .ref h2, .int 0, v6, v7, v8, v9, v10, v11, v12, v13, v14, v15, v16, v17, v18, v19, v20, v21])), (h1, .inl (k1, 8277, .inl (upd (fun _ => 0) 0 1))), (h2, .inl (k2, 147456, .inl (fun _ => 0)))] H := hP
  have hD : va_D A [(h0, .inr (14, [.ref h1, v0, v1, v2, v3, v4, v5, .ref h2, .int 0, v6, v7, v8, v9, v10, v11, v12, v13, v14, v15, v16, v17, v18, v19, v20, v21])), (h1, .inl (k1, 8277, .inl (upd (fun _ => 0) 0 1))), (h2, .inl (k2, 147456, .inl (fun _ => 0)))] := hD
  refine lv_iinc (v := 5) (lv' := [(2, .int 5), (1, .int 0), (0, .ref h0)]) hx hb dX11_comes_109 hl (k := 0) rfl (by decide +kernel) (by decide) rfl (fun ls hl => ?_)
  refine lv_goto (tgt := 43) hx hb dX11_comes_112 (by decide) ?_
  refine lv_iload_n hx hb dX11_comes_43 rfl (lv_at hl 0 rfl) ?_
  refine lv_bipush (v := 6) hx hb dX11_comes_44 (by decide) ?_
  refine lv_icmp_ge (tgt := 115) hx hb dX11_comes_46 (by decide) (fun c9 => absurd c9 (by decide +kernel)) (fun _ => ?_)
  refine lv_aload_n hx hb dX11_comes_49 rfl (lv_at hl 2 rfl) ?_
  refine va_get (D := D) (ci := 14) (v := .ref h1) (own := RX11) (C := RX11) (T := TX11) (N := 25) hx hb hts hi_X11 hown hK hP 0 rfl rfl 0 (by decide) (hts (.fieldLink RX11 9 "CanalMapsModel" "now" "[I") (List.mem_of_getElem? (i := 1) (by decide +kernel))) (fun _ h9 => h9) rfl dX11_comes_50 ?_
  refine lv_bipush (v := 12) hx hb dX11_comes_53 (by decide) ?_
  refine lv_bipush (v := 6) hx hb dX11_comes_55 (by decide) ?_
  refine lv_iload_n hx hb dX11_comes_57 rfl (lv_at hl 1 rfl) ?_
  refine lv_imul hx hb dX11_comes_58 ?_
  refine kt_ (v := 0) (by decide +kernel) ?_
  refine lv_iadd hx hb dX11_comes_59 ?_
  refine kt_ (v := 12) (by decide +kernel) ?_
  refine lv_iload_n hx hb dX11_comes_60 rfl (lv_at hl 0 rfl) ?_
  refine lv_iadd hx hb dX11_comes_61 ?_
  refine kt_ (v := 17) (by decide +kernel) ?_
  refine lv_iconst (v := 0) hx hb dX11_comes_62 (by decide) ?_
  refine ka_iast (g := (upd (fun _ => 0) 0 1)) hx hb hK hP hD hS 1 0 rfl rfl (vin_ (by decide +kernel)) (up_same (by decide +kernel)) dX11_comes_63 (fun H locs hP hD hS => ?_)
  have hP : va_P D vwCl [(h0, .inr (14, [.ref h1, v0, v1, v2, v3, v4, v5, .ref h2, .int 0, v6, v7, v8, v9, v10, v11, v12, v13, v14, v15, v16, v17, v18, v19, v20, v21])), (h1, .inl (k1, 8277, .inl (upd (fun _ => 0) 0 1))), (h2, .inl (k2, 147456, .inl (fun _ => 0)))] H := hP
  have hD : va_D A [(h0, .inr (14, [.ref h1, v0, v1, v2, v3, v4, v5, .ref h2, .int 0, v6, v7, v8, v9, v10, v11, v12, v13, v14, v15, v16, v17, v18, v19, v20, v21])), (h1, .inl (k1, 8277, .inl (upd (fun _ => 0) 0 1))), (h2, .inl (k2, 147456, .inl (fun _ => 0)))] := hD
  refine lv_aload_n hx hb dX11_comes_64 rfl (lv_at hl 2 rfl) ?_
  refine va_get (D := D) (ci := 14) (v := .ref h1) (own := RX11) (C := RX11) (T := TX11) (N := 25) hx hb hts hi_X11 hown hK hP 0 rfl rfl 0 (by decide) (hts (.fieldLink RX11 9 "CanalMapsModel" "now" "[I") (List.mem_of_getElem? (i := 1) (by decide +kernel))) (fun _ h9 => h9) rfl dX11_comes_65 ?_
  refine lv_bipush (v := 12) hx hb dX11_comes_68 (by decide) ?_
  refine lv_bipush (v := 6) hx hb dX11_comes_70 (by decide) ?_
  refine lv_iload_n hx hb dX11_comes_72 rfl (lv_at hl 0 rfl) ?_
  refine lv_imul hx hb dX11_comes_73 ?_
  refine kt_ (v := 30) (by decide +kernel) ?_
  refine lv_iadd hx hb dX11_comes_74 ?_
  refine kt_ (v := 42) (by decide +kernel) ?_
  refine lv_iload_n hx hb dX11_comes_75 rfl (lv_at hl 1 rfl) ?_
  refine lv_iadd hx hb dX11_comes_76 ?_
  refine kt_ (v := 42) (by decide +kernel) ?_
  refine lv_iconst (v := 0) hx hb dX11_comes_77 (by decide) ?_
  refine ka_iast (g := (upd (fun _ => 0) 0 1)) hx hb hK hP hD hS 1 0 rfl rfl (vin_ (by decide +kernel)) (up_same (by decide +kernel)) dX11_comes_78 (fun H locs hP hD hS => ?_)
  have hP : va_P D vwCl [(h0, .inr (14, [.ref h1, v0, v1, v2, v3, v4, v5, .ref h2, .int 0, v6, v7, v8, v9, v10, v11, v12, v13, v14, v15, v16, v17, v18, v19, v20, v21])), (h1, .inl (k1, 8277, .inl (upd (fun _ => 0) 0 1))), (h2, .inl (k2, 147456, .inl (fun _ => 0)))] H := hP
  have hD : va_D A [(h0, .inr (14, [.ref h1, v0, v1, v2, v3, v4, v5, .ref h2, .int 0, v6, v7, v8, v9, v10, v11, v12, v13, v14, v15, v16, v17, v18, v19, v20, v21])), (h1, .inl (k1, 8277, .inl (upd (fun _ => 0) 0 1))), (h2, .inl (k2, 147456, .inl (fun _ => 0)))] := hD
  refine lv_aload_n hx hb dX11_comes_79 rfl (lv_at hl 2 rfl) ?_
  refine va_get (D := D) (ci := 14) (v := .ref h1) (own := RX11) (C := RX11) (T := TX11) (N := 25) hx hb hts hi_X11 hown hK hP 0 rfl rfl 0 (by decide) (hts (.fieldLink RX11 9 "CanalMapsModel" "now" "[I") (List.mem_of_getElem? (i := 1) (by decide +kernel))) (fun _ h9 => h9) rfl dX11_comes_80 ?_
  refine lv_bipush (v := 48) hx hb dX11_comes_83 (by decide) ?_
  refine lv_bipush (v := 6) hx hb dX11_comes_85 (by decide) ?_
  refine lv_iload_n hx hb dX11_comes_87 rfl (lv_at hl 1 rfl) ?_
  refine lv_imul hx hb dX11_comes_88 ?_
  refine kt_ (v := 0) (by decide +kernel) ?_
  refine lv_iadd hx hb dX11_comes_89 ?_
  refine kt_ (v := 48) (by decide +kernel) ?_
  refine lv_iload_n hx hb dX11_comes_90 rfl (lv_at hl 0 rfl) ?_
  refine lv_iadd hx hb dX11_comes_91 ?_
  refine kt_ (v := 53) (by decide +kernel) ?_
  refine lv_iconst (v := 0) hx hb dX11_comes_92 (by decide) ?_
  refine ka_iast (g := (upd (fun _ => 0) 0 1)) hx hb hK hP hD hS 1 0 rfl rfl (vin_ (by decide +kernel)) (up_same (by decide +kernel)) dX11_comes_93 (fun H locs hP hD hS => ?_)
  have hP : va_P D vwCl [(h0, .inr (14, [.ref h1, v0, v1, v2, v3, v4, v5, .ref h2, .int 0, v6, v7, v8, v9, v10, v11, v12, v13, v14, v15, v16, v17, v18, v19, v20, v21])), (h1, .inl (k1, 8277, .inl (upd (fun _ => 0) 0 1))), (h2, .inl (k2, 147456, .inl (fun _ => 0)))] H := hP
  have hD : va_D A [(h0, .inr (14, [.ref h1, v0, v1, v2, v3, v4, v5, .ref h2, .int 0, v6, v7, v8, v9, v10, v11, v12, v13, v14, v15, v16, v17, v18, v19, v20, v21])), (h1, .inl (k1, 8277, .inl (upd (fun _ => 0) 0 1))), (h2, .inl (k2, 147456, .inl (fun _ => 0)))] := hD
  refine lv_aload_n hx hb dX11_comes_94 rfl (lv_at hl 2 rfl) ?_
  refine va_get (D := D) (ci := 14) (v := .ref h1) (own := RX11) (C := RX11) (T := TX11) (N := 25) hx hb hts hi_X11 hown hK hP 0 rfl rfl 0 (by decide) (hts (.fieldLink RX11 9 "CanalMapsModel" "now" "[I") (List.mem_of_getElem? (i := 1) (by decide +kernel))) (fun _ h9 => h9) rfl dX11_comes_95 ?_
  refine lv_bipush (v := 48) hx hb dX11_comes_98 (by decide) ?_
  refine lv_bipush (v := 6) hx hb dX11_comes_100 (by decide) ?_
  refine lv_iload_n hx hb dX11_comes_102 rfl (lv_at hl 0 rfl) ?_
  refine lv_imul hx hb dX11_comes_103 ?_
  refine kt_ (v := 30) (by decide +kernel) ?_
  refine lv_iadd hx hb dX11_comes_104 ?_
  refine kt_ (v := 78) (by decide +kernel) ?_
  refine lv_iload_n hx hb dX11_comes_105 rfl (lv_at hl 1 rfl) ?_
  refine lv_iadd hx hb dX11_comes_106 ?_
  refine kt_ (v := 78) (by decide +kernel) ?_
  refine lv_iconst (v := 0) hx hb dX11_comes_107 (by decide) ?_
  refine ka_iast (g := (upd (fun _ => 0) 0 1)) hx hb hK hP hD hS 1 0 rfl rfl (vin_ (by decide +kernel)) (up_same (by decide +kernel)) dX11_comes_108 (fun H locs hP hD hS => ?_)
  have hP : va_P D vwCl [(h0, .inr (14, [.ref h1, v0, v1, v2, v3, v4, v5, .ref h2, .int 0, v6, v7, v8, v9, v10, v11, v12, v13, v14, v15, v16, v17, v18, v19, v20, v21])), (h1, .inl (k1, 8277, .inl (upd (fun _ => 0) 0 1))), (h2, .inl (k2, 147456, .inl (fun _ => 0)))] H := hP
  have hD : va_D A [(h0, .inr (14, [.ref h1, v0, v1, v2, v3, v4, v5, .ref h2, .int 0, v6, v7, v8, v9, v10, v11, v12, v13, v14, v15, v16, v17, v18, v19, v20, v21])), (h1, .inl (k1, 8277, .inl (upd (fun _ => 0) 0 1))), (h2, .inl (k2, 147456, .inl (fun _ => 0)))] := hD
  refine lv_iinc (v := 6) (lv' := [(2, .int 6), (1, .int 0), (0, .ref h0)]) hx hb dX11_comes_109 hl (k := 0) rfl (by decide +kernel) (by decide) rfl (fun ls hl => ?_)
  refine lv_goto (tgt := 43) hx hb dX11_comes_112 (by decide) ?_
  refine lv_iload_n hx hb dX11_comes_43 rfl (lv_at hl 0 rfl) ?_
  refine lv_bipush (v := 6) hx hb dX11_comes_44 (by decide) ?_
  refine lv_icmp_ge (tgt := 115) hx hb dX11_comes_46 (by decide) (fun _ => ?_) (fun c9 => absurd (by decide +kernel) c9)
  refine lv_aload_n hx hb dX11_comes_115 rfl (lv_at hl 2 rfl) ?_
  refine lv_iload_n hx hb dX11_comes_116 rfl (lv_at hl 1 rfl) ?_
  refine kc_ (wc := [(h0, .inr (14, [.ref h1, v0, v1, v2, v3, v4, v5, .ref h2, .int 0, v6, v7, v8, v9, v10, v11, v12, v13, v14, v15, v16, v17, v18, v19, v20, v21])), (h2, .inl (k2, 147456, .inl (fun _ => 0))), (h1, .inl (k1, 8277, .inl (upd (fun _ => 0) 0 1)))]) (wr := []) (va_runV (As := [.int 0]) (rest := []) ⟨hx, hb, hml, hown, hts⟩ (c_X11_renews_0 l hl0 D ad H.size h0 h2 h1 k2 k1 (v0) (v1) (v2) (v3) (v4) (v5) (v6) (v7) (v8) (v9) (v10) (v11) (v12) (v13) (v14) (v15) (v16) (v17) (v18) (v19) (v20) (v21)) (cwV 1 hts gX11_comes_X11_renews rfl rfl rfl (by decide +kernel) ⟨Nat.le_of_ble_eq_true rfl, Nat.le_of_ble_eq_true rfl⟩) ⟨PC_.blind, va_recv hK hP (ci := 14) (q0 := 0) rfl rfl, PC_.pre hF hK hP hD hS hA [0, 2, 1] [1, 0] rfl (by decide) rfl⟩ rfl rfl hl.1 rfl (lv_room (Nat.le_of_ble_eq_true rfl)) dX11_comes_117 ⟨Nat.le_of_ble_eq_true rfl, Nat.le_of_ble_eq_true rfl⟩) hK hP hD hS hA [0, 2, 1] [] [] rfl rfl (by decide) (by decide) rfl (fun qa_1 ka_1 ia_1 H locs hpo hP hD hK hS => ?_)
  have hP : va_P D vwCl [(h0, .inr (14, [.ref h1, v0, v1, v2, v3, v4, v5, .ref h2, .int 1, v6, v7, v8, v9, v10, v11, v12, v13, v14, v15, v16, v17, v18, v19, v20, v21])), (h2, .inl (k2, 147456, .inl (upd (fun _ => 0) 1 1))), (h1, .inl (k1, 8277, .inl (upd (upd (upd (fun _ => 0) 0 1) 48 1) 5 1)))] H := hP
  have hD : va_D A [(h0, .inr (14, [.ref h1, v0, v1, v2, v3, v4, v5, .ref h2, .int 1, v6, v7, v8, v9, v10, v11, v12, v13, v14, v15, v16, v17, v18, v19, v20, v21])), (h2, .inl (k2, 147456, .inl (upd (fun _ => 0) 1 1))), (h1, .inl (k1, 8277, .inl (upd (upd (upd (fun _ => 0) 0 1) 48 1) 5 1)))] := hD
  have hK : va_K D vwCl [(k2, .int), (k1, .int)] s := hK
  refine W.eq (g2 := F0 m 120 ls []) rfl ?_
  refine lv_aload_n hx hb dX11_comes_120 rfl (lv_at hl 2 rfl) ?_
  refine lv_iload_n hx hb dX11_comes_121 rfl (lv_at hl 1 rfl) ?_
  refine kc_ (wc := [(h0, .inr (14, [.ref h1, v0, v1, v2, v3, v4, v5, .ref h2, .int 1, v6, v7, v8, v9, v10, v11, v12, v13, v14, v15, v16, v17, v18, v19, v20, v21]))]) (wr := [(h2, .inl (k2, 147456, .inl (upd (fun _ => 0) 1 1))), (h1, .inl (k1, 8277, .inl (upd (upd (upd (fun _ => 0) 0 1) 48 1) 5 1)))]) (va_runV (As := [.int 0]) (rest := []) ⟨hx, hb, hml, hown, hts⟩ (c_X11_does_0 l hl0 D ad H.size h0 (.ref h1) (v0) (v1) (v2) (v3) (v4) (v5) (.ref h2) (.int 1) (v6) (v7) (v8) (v9) (v10) (v11) (v12) (v13) (v14) (v15) (v16) (v17) (v18) (v19) (v20) (v21)) (cwV 1 hts gX11_comes_X11_does rfl rfl rfl (by decide +kernel) ⟨Nat.le_of_ble_eq_true rfl, Nat.le_of_ble_eq_true rfl⟩) ⟨PC_.blind, va_recv hK hP (ci := 14) (q0 := 0) rfl rfl, PC_.pre hF hK hP hD hS hA [0] [] rfl (by decide) rfl⟩ rfl rfl hl.1 rfl (lv_room (Nat.le_of_ble_eq_true rfl)) dX11_comes_122 ⟨Nat.le_of_ble_eq_true rfl, Nat.le_of_ble_eq_true rfl⟩) hK hP hD hS hA [0] [1, 2] [0, 1] rfl rfl (by decide) (by decide) rfl (fun qa_2 ka_2 ia_2 H locs hpo hP hD hK hS => ?_)
  have hP : va_P D vwCl [(h2, .inl (k2, 147456, .inl (upd (fun _ => 0) 1 1))), (h1, .inl (k1, 8277, .inl (upd (upd (upd (fun _ => 0) 0 1) 48 1) 5 1))), (h0, .inr (14, [.ref h1, v0, v1, v2, v3, v4, v5, .ref h2, .int 1, v6, v7, v8, v9, v10, v11, v12, v13, v14, v15, v16, v17, v18, .int 0, v20, v21]))] H := hP
  have hD : va_D A [(h2, .inl (k2, 147456, .inl (upd (fun _ => 0) 1 1))), (h1, .inl (k1, 8277, .inl (upd (upd (upd (fun _ => 0) 0 1) 48 1) 5 1))), (h0, .inr (14, [.ref h1, v0, v1, v2, v3, v4, v5, .ref h2, .int 1, v6, v7, v8, v9, v10, v11, v12, v13, v14, v15, v16, v17, v18, .int 0, v20, v21]))] := hD
  have hK : va_K D vwCl [(k2, .int), (k1, .int)] s := hK
  refine W.eq (g2 := F0 m 125 ls [.int 1]) rfl ?_
  refine W.widen (k := 0) (n := 0) (Nat.le_of_ble_eq_true rfl) (Nat.le_of_ble_eq_true rfl) ?_
  exact W.zret (v := 1) hx hb hr rfl (QG_.mk (fun _ => 0) (fun _ => 0) (fun _ => 0) [2, 1, 0] [1, 0] hP hD hK hS rfl trivial rfl (by decide) rfl) hS.2.2 dX11_comes_125
