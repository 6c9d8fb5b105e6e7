set_option maxHeartbeats 4000000 in
set_option maxRecDepth 100000 in
theorem law_case_19 {p : Program} {l : Launch} {e : Env} {s : State} {m : MethodId} {below : List Frame} {meth : Method} {c : Code} {b : Nat} {xs : Nat → Int32} {cells slots : Nat} {H : Heap} {locs : List Loc} {ls : Array Slot} {D : va_G} {ad : Nat → Nat} {A : Nat → Prop} (hl0 : l.stackTraces = false) (C0 : lw_At p s m meth c b 4 xs) (hAe : A = fun q : Nat => s.heap.size ≤ q) (hF : FX_ ad A s s.heap) (hS : va_S A s.heap H locs) (h0 : Nat) (h1 : Nat) (h2 : Nat) (h3 : Nat) (h4 : Nat) (k3 : ClassId) (k4 : ClassId) (r0 : Nat) (v0 : Value) (v1 : Value) (v2 : Value) (v3 : Value) (v4 : Value) (v5 : Value) (v6 : Value) (v7 : Value) (v8 : Value) (v9 : Value) (v10 : Value) (v11 : Value) (v12 : Value) (v13 : Value) (v14 : Value) (v15 : Value) (v16 : Value) (v17 : Value) (v18 : Value) (v19 : Value) (v20 : Value) (v21 : Value) (v22 : Value) (v23 : Value) (v24 : Value) (v25 : Value) (v26 : Value) (v27 : Value) (v28 : Value) (v29 : Value) (v30 : Value) (v31 : Value) (v32 : Value) (v33 : Value) (v34 : Value) (v35 : Value) (v36 : Value) (v37 : Value) (v38 : Value) (v39 : Value) (v40 : Value) (p1 p2 p3 : Int32) (hp1 : xs 1 = p1) (hp2 : xs 2 = p2) (hp3 : xs 3 = p3) (hP : va_P D vwCl [(h0, .inr (13, [.ref h2, v0, v1, v2, v3, v4, v5, v6, v7, v8])), (h1, .inr (14, [.ref h4, v9, v10, v11, v12, v13, v14, v15, v16, v17, v18, v19, v20, v21, v22, v23, v24, v25, v26, v27, v28, v29, v30, .int 0, v31])), (h2, .inr (11, [v32, v33, v34, v35, v36, .int 0, v37, v38, v39, v40])), (h3, .inl (k3, 1, .inr (.inl (fun _ => 0)))), (h4, .inl (k4, 8277, .inl (fun _ => 0)))] H) (hD : va_D A [(h0, .inr (13, [.ref h2, v0, v1, v2, v3, v4, v5, v6, v7, v8])), (h1, .inr (14, [.ref h4, v9, v10, v11, v12, v13, v14, v15, v16, v17, v18, v19, v20, v21, v22, v23, v24, v25, v26, v27, v28, v29, v30, .int 0, v31])), (h2, .inr (11, [v32, v33, v34, v35, v36, .int 0, v37, v38, v39, v40])), (h3, .inl (k3, 1, .inr (.inl (fun _ => 0)))), (h4, .inl (k4, 8277, .inl (fun _ => 0)))]) (hK : va_K D vwCl [(k3, .long), (k4, .int)] s) (hl : lv_has ls 9 [(5, .int 0), (4, .ref r0), (3, .ref h3), (2, .ref h1), (1, .ref h0), (0, .ref b)]) (hcc : cells ≤ 2200) (hss : slots ≤ 260000) : W p l e room_1 s m #[Value.ref b] below meth c H locs cells slots (lw_Z below #[Value.ref b] s) (F0 m 1446 ls []) := by
  obtain ⟨hx, hb, hr, hml, hown, hts, hX, hbl, hlocks, hgv⟩ := id C0
  have hA : ∀ q : Nat, s.heap.size ≤ q → A q := fun q h => by rw [hAe]; exact h
  have hbA : ¬ A b := by rw [hAe]; exact Nat.not_le.mpr hbl
  refine W.widen (k := 2200) (n := 260000) hcc hss ?_
  have hi_X10 : ∀ w ∈ wsX100, w ∈ lw_tbl := inX10
  have hi_X11 : ∀ w ∈ wsX110, w ∈ lw_tbl := inX11
  have hi_X8 : ∀ w ∈ wsX80, w ∈ lw_tbl := inX8
  by_cases c_1 : p1 < 0
  · refine lv_aload_n hx hb dL_law_1446 rfl (lv_at hl 4 rfl) ?_
    refine lv_aload_n hx hb dL_law_1447 rfl (lv_at hl 5 rfl) ?_
    refine lv_iload hx hb dL_law_1448 (lv_at hl 0 rfl) ?_
    refine lv_iconst (v := 1) hx hb dL_law_1450 (by decide) ?_
    refine lv_iadd hx hb dL_law_1451 ?_
    refine kt_ (v := 1) (by decide +kernel) ?_
    refine va_sld hx hb hX hbl hbA hS (vin_ (by decide +kernel)) dL_law_1452 ?_
    refine kt_ (v := p1) ((congrArg xs (by decide +kernel)).trans hp1) ?_
    refine lv_aload_n hx hb dL_law_1453 rfl (lv_at hl 2 rfl) ?_
    refine kc_ (wc := [(h0, .inr (13, [.ref h2, v0, v1, v2, v3, v4, v5, v6, v7, v8]))]) (wr := [(h1, .inr (14, [.ref h4, v9, v10, v11, v12, v13, v14, v15, v16, v17, v18, v19, v20, v21, v22, v23, v24, v25, v26, v27, v28, v29, v30, .int 0, v31])), (h2, .inr (11, [v32, v33, v34, v35, v36, .int 0, v37, v38, v39, v40])), (h3, .inl (k3, 1, .inr (.inl (fun _ => 0)))), (h4, .inl (k4, 8277, .inl (fun _ => 0)))]) (vx_runSW (As := [.ref h0, .int p1, .ref h3]) (rest := []) ⟨hx, hb, hml, hown, hts⟩ (c_L_agreeAgain_0 l hl0 D ad H.size h0 h3 (.ref h2) (v0) (v1) (v2) (v3) (v4) (v5) (v6) (v7) (v8) p1 c_1) (vx_cwSW 3 hts hL_law_L_agreeAgain rfl rfl rfl (by decide +kernel) ⟨Nat.le_of_ble_eq_true rfl, Nat.le_of_ble_eq_true rfl⟩) ⟨PC_.blind, PC_.pre hF hK hP hD hS hA [0] [] rfl (by decide) rfl⟩ rfl rfl hl.1 rfl (lv_room (Nat.le_of_ble_eq_true rfl)) dL_law_1454 ⟨Nat.le_of_ble_eq_true rfl, Nat.le_of_ble_eq_true rfl⟩) hK hP hD hS hA [0] [1, 2, 3, 4] [0, 1] rfl rfl (by decide) (by decide) rfl (fun qa_2 ka_2 ia_2 H locs hpo hP hD hK hS => ?_)
    have hP : va_P D vwCl [(h1, .inr (14, [.ref h4, v9, v10, v11, v12, v13, v14, v15, v16, v17, v18, v19, v20, v21, v22, v23, v24, v25, v26, v27, v28, v29, v30, .int 0, v31])), (h2, .inr (11, [v32, v33, v34, v35, v36, .int 0, v37, v38, v39, v40])), (h3, .inl (k3, 1, .inr (.inl (fun _ => 0)))), (h4, .inl (k4, 8277, .inl (fun _ => 0)))] H := hP
    have hD : va_D A [(h1, .inr (14, [.ref h4, v9, v10, v11, v12, v13, v14, v15, v16, v17, v18, v19, v20, v21, v22, v23, v24, v25, v26, v27, v28, v29, v30, .int 0, v31])), (h2, .inr (11, [v32, v33, v34, v35, v36, .int 0, v37, v38, v39, v40])), (h3, .inl (k3, 1, .inr (.inl (fun _ => 0)))), (h4, .inl (k4, 8277, .inl (fun _ => 0)))] := hD
    have hK : va_K D vwCl [(k3, .long), (k4, .int)] s := hK
    refine W.eq (g2 := F0 m 1457 ls [.int 1]) rfl ?_
    refine lv_istore (lv' := [(6, .int 1), (5, .int 0), (4, .ref r0), (3, .ref h3), (2, .ref h1), (1, .ref h0), (0, .ref b)]) hx hb dL_law_1457 hl (by decide) rfl (fun ls hl => ?_)
    refine lv_aload_n hx hb dL_law_1459 rfl (lv_at hl 4 rfl) ?_
    refine lv_aload_n hx hb dL_law_1460 rfl (lv_at hl 6 rfl) ?_
    refine lv_iload hx hb dL_law_1461 (lv_at hl 1 rfl) ?_
    refine lv_iconst (v := 1) hx hb dL_law_1463 (by decide) ?_
    refine lv_iadd hx hb dL_law_1464 ?_
    refine kt_ (v := 1) (by decide +kernel) ?_
    refine va_sld hx hb hX hbl hbA hS (vin_ (by decide +kernel)) dL_law_1465 ?_
    refine kt_ (v := p1) ((congrArg xs (by decide +kernel)).trans hp1) ?_
    refine kc_ (wc := [(h1, .inr (14, [.ref h4, v9, v10, v11, v12, v13, v14, v15, v16, v17, v18, v19, v20, v21, v22, v23, v24, v25, v26, v27, v28, v29, v30, .int 0, v31]))]) (wr := [(h2, .inr (11, [v32, v33, v34, v35, v36, .int 0, v37, v38, v39, v40])), (h3, .inl (k3, 1, .inr (.inl (fun _ => 0)))), (h4, .inl (k4, 8277, .inl (fun _ => 0)))]) (va_runV (As := [.int p1]) (rest := []) ⟨hx, hb, hml, hown, hts⟩ (c_X11_agreeAgain_0 l hl0 D ad H.size h1 (.ref h4) (v9) (v10) (v11) (v12) (v13) (v14) (v15) (v16) (v17) (v18) (v19) (v20) (v21) (v22) (v23) (v24) (v25) (v26) (v27) (v28) (v29) (v30) (v31) p1 c_1) (cwV 1 hts hL_law_X11_agreeAgain rfl rfl rfl (by decide +kernel) ⟨Nat.le_of_ble_eq_true rfl, Nat.le_of_ble_eq_true rfl⟩) ⟨PC_.blind, va_recv hK hP (ci := 14) (q0 := 0) rfl rfl, PC_.pre hF hK hP hD hS hA [0] [] rfl (by decide) rfl⟩ rfl rfl hl.1 rfl (lv_room (Nat.le_of_ble_eq_true rfl)) dL_law_1466 ⟨Nat.le_of_ble_eq_true rfl, Nat.le_of_ble_eq_true rfl⟩) hK hP hD hS hA [0] [1, 2, 3] [0, 1] rfl rfl (by decide) (by decide) rfl (fun qa_3 ka_3 ia_3 H locs hpo hP hD hK hS => ?_)
    have hP : va_P D vwCl [(h2, .inr (11, [v32, v33, v34, v35, v36, .int 0, v37, v38, v39, v40])), (h3, .inl (k3, 1, .inr (.inl (fun _ => 0)))), (h4, .inl (k4, 8277, .inl (fun _ => 0))), (h1, .inr (14, [.ref h4, v9, v10, v11, v12, v13, v14, v15, v16, v17, v18, v19, v20, v21, v22, v23, v24, v25, v26, v27, v28, v29, v30, .int 1, v31]))] H := hP
    have hD : va_D A [(h2, .inr (11, [v32, v33, v34, v35, v36, .int 0, v37, v38, v39, v40])), (h3, .inl (k3, 1, .inr (.inl (fun _ => 0)))), (h4, .inl (k4, 8277, .inl (fun _ => 0))), (h1, .inr (14, [.ref h4, v9, v10, v11, v12, v13, v14, v15, v16, v17, v18, v19, v20, v21, v22, v23, v24, v25, v26, v27, v28, v29, v30, .int 1, v31]))] := hD
    have hK : va_K D vwCl [(k3, .long), (k4, .int)] s := hK
    refine W.eq (g2 := F0 m 1469 ls [.int 0]) rfl ?_
    refine lv_istore (lv' := [(7, .int 0), (6, .int 1), (5, .int 0), (4, .ref r0), (3, .ref h3), (2, .ref h1), (1, .ref h0), (0, .ref b)]) hx hb dL_law_1469 hl (by decide) rfl (fun ls hl => ?_)
    refine lv_aload_n hx hb dL_law_1471 rfl (lv_at hl 5 rfl) ?_
    refine kc_ (wc := [(h1, .inr (14, [.ref h4, v9, v10, v11, v12, v13, v14, v15, v16, v17, v18, v19, v20, v21, v22, v23, v24, v25, v26, v27, v28, v29, v30, .int 1, v31]))]) (wr := [(h2, .inr (11, [v32, v33, v34, v35, v36, .int 0, v37, v38, v39, v40])), (h3, .inl (k3, 1, .inr (.inl (fun _ => 0)))), (h4, .inl (k4, 8277, .inl (fun _ => 0)))]) (va_runV (As := []) (rest := []) ⟨hx, hb, hml, hown, hts⟩ (c_X11_thrown_1 l hl0 D ad H.size h1 (.ref h4) (v9) (v10) (v11) (v12) (v13) (v14) (v15) (v16) (v17) (v18) (v19) (v20) (v21) (v22) (v23) (v24) (v25) (v26) (v27) (v28) (v29) (v30) (v31)) (cwV 0 hts hL_law_X11_thrown rfl rfl rfl (by decide +kernel) ⟨Nat.le_of_ble_eq_true rfl, Nat.le_of_ble_eq_true rfl⟩) ⟨PC_.blind, va_recv hK hP (ci := 14) (q0 := 3) rfl rfl, PC_.pre hF hK hP hD hS hA [3] [] rfl (by decide) rfl⟩ rfl rfl hl.1 rfl (lv_room (Nat.le_of_ble_eq_true rfl)) dL_law_1472 ⟨Nat.le_of_ble_eq_true rfl, Nat.le_of_ble_eq_true rfl⟩) hK hP hD hS hA [3] [0, 1, 2] [0, 1] rfl rfl (by decide) (by decide) rfl (fun qa_4 ka_4 ia_4 H locs hpo hP hD hK hS => ?_)
    have hP : va_P D vwCl [(h2, .inr (11, [v32, v33, v34, v35, v36, .int 0, v37, v38, v39, v40])), (h3, .inl (k3, 1, .inr (.inl (fun _ => 0)))), (h4, .inl (k4, 8277, .inl (fun _ => 0))), (h1, .inr (14, [.ref h4, v9, v10, v11, v12, v13, v14, v15, v16, v17, v18, v19, v20, v21, v22, v23, v24, v25, v26, v27, v28, v29, v30, .int 1, v31]))] H := hP
    have hD : va_D A [(h2, .inr (11, [v32, v33, v34, v35, v36, .int 0, v37, v38, v39, v40])), (h3, .inl (k3, 1, .inr (.inl (fun _ => 0)))), (h4, .inl (k4, 8277, .inl (fun _ => 0))), (h1, .inr (14, [.ref h4, v9, v10, v11, v12, v13, v14, v15, v16, v17, v18, v19, v20, v21, v22, v23, v24, v25, v26, v27, v28, v29, v30, .int 1, v31]))] := hD
    have hK : va_K D vwCl [(k3, .long), (k4, .int)] s := hK
    refine W.eq (g2 := F0 m 1475 ls [.int 1]) rfl ?_
    refine lv_iload hx hb dL_law_1475 (lv_at hl 1 rfl) ?_
    refine lv_icmp_eq (tgt := 1482) hx hb dL_law_1477 (by decide) (fun _ => ?_) (fun c9 => absurd (by decide +kernel) c9)
    refine lv_iload hx hb dL_law_1482 (lv_at hl 1 rfl) ?_
    refine lv_if_ne (tgt := 1506) hx hb dL_law_1484 (by decide) (fun _ => ?_) (fun c9 => absurd c9 (by decide +kernel))
    refine lv_goto (tgt := 2280) hx hb dL_law_1506 (by decide) ?_
    exact law_tail C0 hAe hS (lv_sub hl [7, 2] rfl) (Nat.le_of_ble_eq_true rfl) (Nat.le_of_ble_eq_true rfl)
  · by_cases c_5 : 3 ≤ p1
    · refine lv_aload_n hx hb dL_law_1446 rfl (lv_at hl 4 rfl) ?_
      refine lv_aload_n hx hb dL_law_1447 rfl (lv_at hl 5 rfl) ?_
      refine lv_iload hx hb dL_law_1448 (lv_at hl 0 rfl) ?_
      refine lv_iconst (v := 1) hx hb dL_law_1450 (by decide) ?_
      refine lv_iadd hx hb dL_law_1451 ?_
      refine kt_ (v := 1) (by decide +kernel) ?_
      refine va_sld hx hb hX hbl hbA hS (vin_ (by decide +kernel)) dL_law_1452 ?_
      refine kt_ (v := p1) ((congrArg xs (by decide +kernel)).trans hp1) ?_
      refine lv_aload_n hx hb dL_law_1453 rfl (lv_at hl 2 rfl) ?_
      refine kc_ (wc := [(h0, .inr (13, [.ref h2, v0, v1, v2, v3, v4, v5, v6, v7, v8]))]) (wr := [(h1, .inr (14, [.ref h4, v9, v10, v11, v12, v13, v14, v15, v16, v17, v18, v19, v20, v21, v22, v23, v24, v25, v26, v27, v28, v29, v30, .int 0, v31])), (h2, .inr (11, [v32, v33, v34, v35, v36, .int 0, v37, v38, v39, v40])), (h3, .inl (k3, 1, .inr (.inl (fun _ => 0)))), (h4, .inl (k4, 8277, .inl (fun _ => 0)))]) (vx_runSW (As := [.ref h0, .int p1, .ref h3]) (rest := []) ⟨hx, hb, hml, hown, hts⟩ (c_L_agreeAgain_1 l hl0 D ad H.size h0 h3 (.ref h2) (v0) (v1) (v2) (v3) (v4) (v5) (v6) (v7) (v8) p1 c_5 c_1) (vx_cwSW 3 hts hL_law_L_agreeAgain rfl rfl rfl (by decide +kernel) ⟨Nat.le_of_ble_eq_true rfl, Nat.le_of_ble_eq_true rfl⟩) ⟨PC_.blind, PC_.pre hF hK hP hD hS hA [0] [] rfl (by decide) rfl⟩ rfl rfl hl.1 rfl (lv_room (Nat.le_of_ble_eq_true rfl)) dL_law_1454 ⟨Nat.le_of_ble_eq_true rfl, Nat.le_of_ble_eq_true rfl⟩) hK hP hD hS hA [0] [1, 2, 3, 4] [0, 1] rfl rfl (by decide) (by decide) rfl (fun qa_6 ka_6 ia_6 H locs hpo hP hD hK hS => ?_)
      have hP : va_P D vwCl [(h1, .inr (14, [.ref h4, v9, v10, v11, v12, v13, v14, v15, v16, v17, v18, v19, v20, v21, v22, v23, v24, v25, v26, v27, v28, v29, v30, .int 0, v31])), (h2, .inr (11, [v32, v33, v34, v35, v36, .int 0, v37, v38, v39, v40])), (h3, .inl (k3, 1, .inr (.inl (fun _ => 0)))), (h4, .inl (k4, 8277, .inl (fun _ => 0)))] H := hP
      have hD : va_D A [(h1, .inr (14, [.ref h4, v9, v10, v11, v12, v13, v14, v15, v16, v17, v18, v19, v20, v21, v22, v23, v24, v25, v26, v27, v28, v29, v30, .int 0, v31])), (h2, .inr (11, [v32, v33, v34, v35, v36, .int 0, v37, v38, v39, v40])), (h3, .inl (k3, 1, .inr (.inl (fun _ => 0)))), (h4, .inl (k4, 8277, .inl (fun _ => 0)))] := hD
      have hK : va_K D vwCl [(k3, .long), (k4, .int)] s := hK
      refine W.eq (g2 := F0 m 1457 ls [.int 1]) rfl ?_
      refine lv_istore (lv' := [(6, .int 1), (5, .int 0), (4, .ref r0), (3, .ref h3), (2, .ref h1), (1, .ref h0), (0, .ref b)]) hx hb dL_law_1457 hl (by decide) rfl (fun ls hl => ?_)
      refine lv_aload_n hx hb dL_law_1459 rfl (lv_at hl 4 rfl) ?_
      refine lv_aload_n hx hb dL_law_1460 rfl (lv_at hl 6 rfl) ?_
      refine lv_iload hx hb dL_law_1461 (lv_at hl 1 rfl) ?_
      refine lv_iconst (v := 1) hx hb dL_law_1463 (by decide) ?_
      refine lv_iadd hx hb dL_law_1464 ?_
      refine kt_ (v := 1) (by decide +kernel) ?_
      refine va_sld hx hb hX hbl hbA hS (vin_ (by decide +kernel)) dL_law_1465 ?_
      refine kt_ (v := p1) ((congrArg xs (by decide +kernel)).trans hp1) ?_
      refine kc_ (wc := [(h1, .inr (14, [.ref h4, v9, v10, v11, v12, v13, v14, v15, v16, v17, v18, v19, v20, v21, v22, v23, v24, v25, v26, v27, v28, v29, v30, .int 0, v31]))]) (wr := [(h2, .inr (11, [v32, v33, v34, v35, v36, .int 0, v37, v38, v39, v40])), (h3, .inl (k3, 1, .inr (.inl (fun _ => 0)))), (h4, .inl (k4, 8277, .inl (fun _ => 0)))]) (va_runV (As := [.int p1]) (rest := []) ⟨hx, hb, hml, hown, hts⟩ (c_X11_agreeAgain_1 l hl0 D ad H.size h1 (.ref h4) (v9) (v10) (v11) (v12) (v13) (v14) (v15) (v16) (v17) (v18) (v19) (v20) (v21) (v22) (v23) (v24) (v25) (v26) (v27) (v28) (v29) (v30) (v31) p1 c_5 c_1) (cwV 1 hts hL_law_X11_agreeAgain rfl rfl rfl (by decide +kernel) ⟨Nat.le_of_ble_eq_true rfl, Nat.le_of_ble_eq_true rfl⟩) ⟨PC_.blind, va_recv hK hP (ci := 14) (q0 := 0) rfl rfl, PC_.pre hF hK hP hD hS hA [0] [] rfl (by decide) rfl⟩ rfl rfl hl.1 rfl (lv_room (Nat.le_of_ble_eq_true rfl)) dL_law_1466 ⟨Nat.le_of_ble_eq_true rfl, Nat.le_of_ble_eq_true rfl⟩) hK hP hD hS hA [0] [1, 2, 3] [0, 1] rfl rfl (by decide) (by decide) rfl (fun qa_7 ka_7 ia_7 H locs hpo hP hD hK hS => ?_)
      have hP : va_P D vwCl [(h2, .inr (11, [v32, v33, v34, v35, v36, .int 0, v37, v38, v39, v40])), (h3, .inl (k3, 1, .inr (.inl (fun _ => 0)))), (h4, .inl (k4, 8277, .inl (fun _ => 0))), (h1, .inr (14, [.ref h4, v9, v10, v11, v12, v13, v14, v15, v16, v17, v18, v19, v20, v21, v22, v23, v24, v25, v26, v27, v28, v29, v30, .int 1, v31]))] H := hP
      have hD : va_D A [(h2, .inr (11, [v32, v33, v34, v35, v36, .int 0, v37, v38, v39, v40])), (h3, .inl (k3, 1, .inr (.inl (fun _ => 0)))), (h4, .inl (k4, 8277, .inl (fun _ => 0))), (h1, .inr (14, [.ref h4, v9, v10, v11, v12, v13, v14, v15, v16, v17, v18, v19, v20, v21, v22, v23, v24, v25, v26, v27, v28, v29, v30, .int 1, v31]))] := hD
      have hK : va_K D vwCl [(k3, .long), (k4, .int)] s := hK
      refine W.eq (g2 := F0 m 1469 ls [.int 0]) rfl ?_
      refine lv_istore (lv' := [(7, .int 0), (6, .int 1), (5, .int 0), (4, .ref r0), (3, .ref h3), (2, .ref h1), (1, .ref h0), (0, .ref b)]) hx hb dL_law_1469 hl (by decide) rfl (fun ls hl => ?_)
      refine lv_aload_n hx hb dL_law_1471 rfl (lv_at hl 5 rfl) ?_
      refine kc_ (wc := [(h1, .inr (14, [.ref h4, v9, v10, v11, v12, v13, v14, v15, v16, v17, v18, v19, v20, v21, v22, v23, v24, v25, v26, v27, v28, v29, v30, .int 1, v31]))]) (wr := [(h2, .inr (11, [v32, v33, v34, v35, v36, .int 0, v37, v38, v39, v40])), (h3, .inl (k3, 1, .inr (.inl (fun _ => 0)))), (h4, .inl (k4, 8277, .inl (fun _ => 0)))]) (va_runV (As := []) (rest := []) ⟨hx, hb, hml, hown, hts⟩ (c_X11_thrown_1 l hl0 D ad H.size h1 (.ref h4) (v9) (v10) (v11) (v12) (v13) (v14) (v15) (v16) (v17) (v18) (v19) (v20) (v21) (v22) (v23) (v24) (v25) (v26) (v27) (v28) (v29) (v30) (v31)) (cwV 0 hts hL_law_X11_thrown rfl rfl rfl (by decide +kernel) ⟨Nat.le_of_ble_eq_true rfl, Nat.le_of_ble_eq_true rfl⟩) ⟨PC_.blind, va_recv hK hP (ci := 14) (q0 := 3) rfl rfl, PC_.pre hF hK hP hD hS hA [3] [] rfl (by decide) rfl⟩ rfl rfl hl.1 rfl (lv_room (Nat.le_of_ble_eq_true rfl)) dL_law_1472 ⟨Nat.le_of_ble_eq_true rfl, Nat.le_of_ble_eq_true rfl⟩) hK hP hD hS hA [3] [0, 1, 2] [0, 1] rfl rfl (by decide) (by decide) rfl (fun qa_8 ka_8 ia_8 H locs hpo hP hD hK hS => ?_)
      have hP : va_P D vwCl [(h2, .inr (11, [v32, v33, v34, v35, v36, .int 0, v37, v38, v39, v40])), (h3, .inl (k3, 1, .inr (.inl (fun _ => 0)))), (h4, .inl (k4, 8277, .inl (fun _ => 0))), (h1, .inr (14, [.ref h4, v9, v10, v11, v12, v13, v14, v15, v16, v17, v18, v19, v20, v21, v22, v23, v24, v25, v26, v27, v28, v29, v30, .int 1, v31]))] H := hP
      have hD : va_D A [(h2, .inr (11, [v32, v33, v34, v35, v36, .int 0, v37, v38, v39, v40])), (h3, .inl (k3, 1, .inr (.inl (fun _ => 0)))), (h4, .inl (k4, 8277, .inl (fun _ => 0))), (h1, .inr (14, [.ref h4, v9, v10, v11, v12, v13, v14, v15, v16, v17, v18, v19, v20, v21, v22, v23, v24, v25, v26, v27, v28, v29, v30, .int 1, v31]))] := hD
      have hK : va_K D vwCl [(k3, .long), (k4, .int)] s := hK
      refine W.eq (g2 := F0 m 1475 ls [.int 1]) rfl ?_
      refine lv_iload hx hb dL_law_1475 (lv_at hl 1 rfl) ?_
      refine lv_icmp_eq (tgt := 1482) hx hb dL_law_1477 (by decide) (fun _ => ?_) (fun c9 => absurd (by decide +kernel) c9)
      refine lv_iload hx hb dL_law_1482 (lv_at hl 1 rfl) ?_
      refine lv_if_ne (tgt := 1506) hx hb dL_law_1484 (by decide) (fun _ => ?_) (fun c9 => absurd c9 (by decide +kernel))
      refine lv_goto (tgt := 2280) hx hb dL_law_1506 (by decide) ?_
      exact law_tail C0 hAe hS (lv_sub hl [7, 2] rfl) (Nat.le_of_ble_eq_true rfl) (Nat.le_of_ble_eq_true rfl)
    · refine lv_aload_n hx hb dL_law_1446 rfl (lv_at hl 4 rfl) ?_
      refine lv_aload_n hx hb dL_law_1447 rfl (lv_at hl 5 rfl) ?_
      refine lv_iload hx hb dL_law_1448 (lv_at hl 0 rfl) ?_
      refine lv_iconst (v := 1) hx hb dL_law_1450 (by decide) ?_
      refine lv_iadd hx hb dL_law_1451 ?_
      refine kt_ (v := 1) (by decide +kernel) ?_
      refine va_sld hx hb hX hbl hbA hS (vin_ (by decide +kernel)) dL_law_1452 ?_
      refine kt_ (v := p1) ((congrArg xs (by decide +kernel)).trans hp1) ?_
      refine lv_aload_n hx hb dL_law_1453 rfl (lv_at hl 2 rfl) ?_
      refine kc_ (wc := [(h0, .inr (13, [.ref h2, v0, v1, v2, v3, v4, v5, v6, v7, v8])), (h2, .inr (11, [v32, v33, v34, v35, v36, .int 0, v37, v38, v39, v40])), (h3, .inl (k3, 1, .inr (.inl (fun _ => 0))))]) (wr := [(h1, .inr (14, [.ref h4, v9, v10, v11, v12, v13, v14, v15, v16, v17, v18, v19, v20, v21, v22, v23, v24, v25, v26, v27, v28, v29, v30, .int 0, v31])), (h4, .inl (k4, 8277, .inl (fun _ => 0)))]) (vx_runSW (As := [.ref h0, .int p1, .ref h3]) (rest := []) ⟨hx, hb, hml, hown, hts⟩ (c_L_agreeAgain_2 l hl0 D ad H.size h0 h2 h3 k3 (v0) (v1) (v2) (v3) (v4) (v5) (v6) (v7) (v8) (v32) (v33) (v34) (v35) (v36) (v37) (v38) (v39) (v40) (fun _ => 0) p1 c_5 c_1) (vx_cwSW 3 hts hL_law_L_agreeAgain rfl rfl rfl (by decide +kernel) ⟨Nat.le_of_ble_eq_true rfl, Nat.le_of_ble_eq_true rfl⟩) ⟨PC_.blind, PC_.pre hF hK hP hD hS hA [0, 2, 3] [0] rfl (by decide) rfl⟩ rfl rfl hl.1 rfl (lv_room (Nat.le_of_ble_eq_true rfl)) dL_law_1454 ⟨Nat.le_of_ble_eq_true rfl, Nat.le_of_ble_eq_true rfl⟩) hK hP hD hS hA [0, 2, 3] [1, 4] [1] rfl rfl (by decide) (by decide) rfl (fun qa_9 ka_9 ia_9 H locs hpo hP hD hK hS => ?_)
      have hP : va_P D vwCl [(h1, .inr (14, [.ref h4, v9, v10, v11, v12, v13, v14, v15, v16, v17, v18, v19, v20, v21, v22, v23, v24, v25, v26, v27, v28, v29, v30, .int 0, v31])), (h4, .inl (k4, 8277, .inl (fun _ => 0))), (h0, .inr (13, [.ref h2, v0, v1, v2, v3, v4, v5, v6, v7, v8])), (h2, .inr (11, [v32, v33, v34, v35, v36, .int 0, v37, v38, v39, v40])), (h3, .inl (k3, 1, .inr (.inl (vp_updL (fun _ => 0) 0 1))))] H := hP
      have hD : va_D A [(h1, .inr (14, [.ref h4, v9, v10, v11, v12, v13, v14, v15, v16, v17, v18, v19, v20, v21, v22, v23, v24, v25, v26, v27, v28, v29, v30, .int 0, v31])), (h4, .inl (k4, 8277, .inl (fun _ => 0))), (h0, .inr (13, [.ref h2, v0, v1, v2, v3, v4, v5, v6, v7, v8])), (h2, .inr (11, [v32, v33, v34, v35, v36, .int 0, v37, v38, v39, v40])), (h3, .inl (k3, 1, .inr (.inl (vp_updL (fun _ => 0) 0 1))))] := hD
      have hK : va_K D vwCl [(k4, .int), (k3, .long)] s := hK
      refine W.eq (g2 := F0 m 1457 ls [.int 0]) rfl ?_
      refine lv_istore (lv' := [(6, .int 0), (5, .int 0), (4, .ref r0), (3, .ref h3), (2, .ref h1), (1, .ref h0), (0, .ref b)]) hx hb dL_law_1457 hl (by decide) rfl (fun ls hl => ?_)
      refine lv_aload_n hx hb dL_law_1459 rfl (lv_at hl 4 rfl) ?_
      refine lv_aload_n hx hb dL_law_1460 rfl (lv_at hl 6 rfl) ?_
      refine lv_iload hx hb dL_law_1461 (lv_at hl 1 rfl) ?_
      refine lv_iconst (v := 1) hx hb dL_law_1463 (by decide) ?_
      refine lv_iadd hx hb dL_law_1464 ?_
      refine kt_ (v := 1) (by decide +kernel) ?_
      refine va_sld hx hb hX hbl hbA hS (vin_ (by decide +kernel)) dL_law_1465 ?_
      refine kt_ (v := p1) ((congrArg xs (by decide +kernel)).trans hp1) ?_
      refine kc_ (wc := [(h1, .inr (14, [.ref h4, v9, v10, v11, v12, v13, v14, v15, v16, v17, v18, v19, v20, v21, v22, v23, v24, v25, v26, v27, v28, v29, v30, .int 0, v31])), (h4, .inl (k4, 8277, .inl (fun _ => 0)))]) (wr := [(h0, .inr (13, [.ref h2, v0, v1, v2, v3, v4, v5, v6, v7, v8])), (h2, .inr (11, [v32, v33, v34, v35, v36, .int 0, v37, v38, v39, v40])), (h3, .inl (k3, 1, .inr (.inl (vp_updL (fun _ => 0) 0 1))))]) (va_runV (As := [.int p1]) (rest := []) ⟨hx, hb, hml, hown, hts⟩ (c_X11_agreeAgain_2 l hl0 D ad H.size h1 h4 k4 (v9) (v10) (v11) (v12) (v13) (v14) (v15) (v16) (v17) (v18) (v19) (v20) (v21) (v22) (v23) (v24) (v25) (v26) (v27) (v28) (v29) (v30) (v31) p1 c_5 c_1) (cwV 1 hts hL_law_X11_agreeAgain rfl rfl rfl (by decide +kernel) ⟨Nat.le_of_ble_eq_true rfl, Nat.le_of_ble_eq_true rfl⟩) ⟨PC_.blind, va_recv hK hP (ci := 14) (q0 := 0) rfl rfl, PC_.pre hF hK hP hD hS hA [0, 1] [0] rfl (by decide) rfl⟩ rfl rfl hl.1 rfl (lv_room (Nat.le_of_ble_eq_true rfl)) dL_law_1466 ⟨Nat.le_of_ble_eq_true rfl, Nat.le_of_ble_eq_true rfl⟩) hK hP hD hS hA [0, 1] [2, 3, 4] [1] rfl rfl (by decide) (by decide) rfl (fun qa_10 ka_10 ia_10 H locs hpo hP hD hK hS => ?_)
      have hP : va_P D vwCl [(h0, .inr (13, [.ref h2, v0, v1, v2, v3, v4, v5, v6, v7, v8])), (h2, .inr (11, [v32, v33, v34, v35, v36, .int 0, v37, v38, v39, v40])), (h3, .inl (k3, 1, .inr (.inl (vp_updL (fun _ => 0) 0 1)))), (h1, .inr (14, [.ref h4, v9, v10, v11, v12, v13, v14, v15, v16, v17, v18, v19, v20, v21, v22, v23, v24, v25, v26, v27, v28, v29, v30, .int 0, v31])), (h4, .inl (k4, 8277, .inl (fun _ => 0)))] H := hP
      have hD : va_D A [(h0, .inr (13, [.ref h2, v0, v1, v2, v3, v4, v5, v6, v7, v8])), (h2, .inr (11, [v32, v33, v34, v35, v36, .int 0, v37, v38, v39, v40])), (h3, .inl (k3, 1, .inr (.inl (vp_updL (fun _ => 0) 0 1)))), (h1, .inr (14, [.ref h4, v9, v10, v11, v12, v13, v14, v15, v16, v17, v18, v19, v20, v21, v22, v23, v24, v25, v26, v27, v28, v29, v30, .int 0, v31])), (h4, .inl (k4, 8277, .inl (fun _ => 0)))] := hD
      have hK : va_K D vwCl [(k3, .long), (k4, .int)] s := hK
      refine W.eq (g2 := F0 m 1469 ls [.int 1]) rfl ?_
      refine lv_istore (lv' := [(7, .int 1), (6, .int 0), (5, .int 0), (4, .ref r0), (3, .ref h3), (2, .ref h1), (1, .ref h0), (0, .ref b)]) hx hb dL_law_1469 hl (by decide) rfl (fun ls hl => ?_)
      refine lv_aload_n hx hb dL_law_1471 rfl (lv_at hl 5 rfl) ?_
      refine kc_ (wc := [(h1, .inr (14, [.ref h4, v9, v10, v11, v12, v13, v14, v15, v16, v17, v18, v19, v20, v21, v22, v23, v24, v25, v26, v27, v28, v29, v30, .int 0, v31]))]) (wr := [(h0, .inr (13, [.ref h2, v0, v1, v2, v3, v4, v5, v6, v7, v8])), (h2, .inr (11, [v32, v33, v34, v35, v36, .int 0, v37, v38, v39, v40])), (h3, .inl (k3, 1, .inr (.inl (vp_updL (fun _ => 0) 0 1)))), (h4, .inl (k4, 8277, .inl (fun _ => 0)))]) (va_runV (As := []) (rest := []) ⟨hx, hb, hml, hown, hts⟩ (c_X11_thrown_0 l hl0 D ad H.size h1 (.ref h4) (v9) (v10) (v11) (v12) (v13) (v14) (v15) (v16) (v17) (v18) (v19) (v20) (v21) (v22) (v23) (v24) (v25) (v26) (v27) (v28) (v29) (v30) (v31)) (cwV 0 hts hL_law_X11_thrown rfl rfl rfl (by decide +kernel) ⟨Nat.le_of_ble_eq_true rfl, Nat.le_of_ble_eq_true rfl⟩) ⟨PC_.blind, va_recv hK hP (ci := 14) (q0 := 3) rfl rfl, PC_.pre hF hK hP hD hS hA [3] [] rfl (by decide) rfl⟩ rfl rfl hl.1 rfl (lv_room (Nat.le_of_ble_eq_true rfl)) dL_law_1472 ⟨Nat.le_of_ble_eq_true rfl, Nat.le_of_ble_eq_true rfl⟩) hK hP hD hS hA [3] [0, 1, 2, 4] [0, 1] rfl rfl (by decide) (by decide) rfl (fun qa_11 ka_11 ia_11 H locs hpo hP hD hK hS => ?_)
      have hP : va_P D vwCl [(h0, .inr (13, [.ref h2, v0, v1, v2, v3, v4, v5, v6, v7, v8])), (h2, .inr (11, [v32, v33, v34, v35, v36, .int 0, v37, v38, v39, v40])), (h3, .inl (k3, 1, .inr (.inl (vp_updL (fun _ => 0) 0 1)))), (h4, .inl (k4, 8277, .inl (fun _ => 0))), (h1, .inr (14, [.ref h4, v9, v10, v11, v12, v13, v14, v15, v16, v17, v18, v19, v20, v21, v22, v23, v24, v25, v26, v27, v28, v29, v30, .int 0, v31]))] H := hP
      have hD : va_D A [(h0, .inr (13, [.ref h2, v0, v1, v2, v3, v4, v5, v6, v7, v8])), (h2, .inr (11, [v32, v33, v34, v35, v36, .int 0, v37, v38, v39, v40])), (h3, .inl (k3, 1, .inr (.inl (vp_updL (fun _ => 0) 0 1)))), (h4, .inl (k4, 8277, .inl (fun _ => 0))), (h1, .inr (14, [.ref h4, v9, v10, v11, v12, v13, v14, v15, v16, v17, v18, v19, v20, v21, v22, v23, v24, v25, v26, v27, v28, v29, v30, .int 0, v31]))] := hD
      have hK : va_K D vwCl [(k3, .long), (k4, .int)] s := hK
      refine W.eq (g2 := F0 m 1475 ls [.int 0]) rfl ?_
      refine lv_iload hx hb dL_law_1475 (lv_at hl 1 rfl) ?_
      refine lv_icmp_eq (tgt := 1482) hx hb dL_law_1477 (by decide) (fun _ => ?_) (fun c9 => absurd (by decide +kernel) c9)
      refine lv_iload hx hb dL_law_1482 (lv_at hl 1 rfl) ?_
      refine lv_if_ne (tgt := 1506) hx hb dL_law_1484 (by decide) (fun c9 => absurd (by decide +kernel) c9) (fun _ => ?_)
      refine lv_aload_n hx hb dL_law_1487 rfl (lv_at hl 4 rfl) ?_
      refine lv_iconst (v := 0) hx hb dL_law_1488 (by decide) ?_
      refine va_lald hx hb hK hP 2 0 rfl rfl (vin_ (by decide +kernel)) dL_law_1489 ?_
      refine ktl_ (v := 1) (by decide +kernel) ?_
      refine lv_iload hx hb dL_law_1490 (lv_at hl 0 rfl) ?_
      refine lv_if_eq (tgt := 1499) hx hb dL_law_1492 (by decide) (fun c9 => absurd c9 (by decide +kernel)) (fun _ => ?_)
      refine lv_lconst (v := 1) hx hb dL_law_1495 (by decide) ?_
      refine lv_goto (tgt := 1500) hx hb dL_law_1496 (by decide) ?_
      refine W.lcmp hx hb dL_law_1500 ?_
      refine kt_ (v := 0) (by decide +kernel) ?_
      refine lv_if_eq (tgt := 1506) hx hb dL_law_1501 (by decide) (fun _ => ?_) (fun c9 => absurd (by decide +kernel) c9)
      refine lv_goto (tgt := 2280) hx hb dL_law_1506 (by decide) ?_
      exact law_tail C0 hAe hS (lv_sub hl [7, 2] rfl) (Nat.le_of_ble_eq_true rfl) (Nat.le_of_ble_eq_true rfl)
set_option maxHeartbeats 4000000 in
set_option maxRecDepth 100000 in
theorem law_case_20 {p : Program} {l : Launch} {e : Env} {s : State} {m : MethodId} {below : List Frame} {meth : Method} {c : Code} {b : Nat} {xs : Nat → Int32} {cells slots : Nat} {H : Heap} {locs : List Loc} {ls : Array Slot} {D : va_G} {ad : Nat → Nat} {A : Nat → Prop} (hl0 : l.stackTraces = false) (C0 : lw_At p s m meth c b 4 xs) (hAe : A = fun q : Nat => s.heap.size ≤ q) (hF : FX_ ad A s s.heap) (hS : va_S A s.heap H locs) (h0 : Nat) (h1 : Nat) (h2 : Nat) (h3 : Nat) (h4 : Nat) (h5 : Nat) (h6 : Nat) (k3 : ClassId) (k5 : ClassId) (k6 : ClassId) (r0 : Nat) (v0 : Value) (v1 : Value) (v2 : Value) (v3 : Value) (v4 : Value) (v5 : Value) (v6 : Value) (v7 : Value) (v8 : Value) (v9 : Value) (v10 : Value) (v11 : Value) (v12 : Value) (v13 : Value) (v14 : Value) (v15 : Value) (v16 : Value) (v17 : Value) (v18 : Value) (v19 : Value) (v20 : Value) (v21 : Value) (v22 : Value) (v23 : Value) (v24 : Value) (v25 : Value) (v26 : Value) (v27 : Value) (v28 : Value) (v29 : Value) (v30 : Value) (v31 : Value) (v32 : Value) (v33 : Value) (v34 : Value) (v35 : Value) (v36 : Value) (v37 : Value) (v38 : Value) (v39 : Value) (v40 : Value) (p1 p2 p3 : Int32) (hp1 : xs 1 = p1) (hp2 : xs 2 = p2) (hp3 : xs 3 = p3) (hP : va_P D vwCl [(h0, .inr (13, [.ref h1, v0, v1, v2, v3, v4, v5, v6, v7, v8])), (h1, .inr (11, [v9, v10, v11, v12, .ref h2, v13, v14, v15, v16, v17])), (h2, .inr (8, [v18, .int 0, v19])), (h3, .inl (k3, 1, .inr (.inl (fun _ => 0)))), (h4, .inr (14, [.ref h5, v20, .ref h6, v21, v22, v23, v24, v25, .int 0, v26, v27, v28, v29, v30, v31, v32, v33, v34, v35, v36, v37, v38, v39, .int 0, v40])), (h5, .inl (k5, 8277, .inl (fun _ => 0))), (h6, .inl (k6, 8277, .inl (fun _ => 0)))] H) (hD : va_D A [(h0, .inr (13, [.ref h1, v0, v1, v2, v3, v4, v5, v6, v7, v8])), (h1, .inr (11, [v9, v10, v11, v12, .ref h2, v13, v14, v15, v16, v17])), (h2, .inr (8, [v18, .int 0, v19])), (h3, .inl (k3, 1, .inr (.inl (fun _ => 0)))), (h4, .inr (14, [.ref h5, v20, .ref h6, v21, v22, v23, v24, v25, .int 0, v26, v27, v28, v29, v30, v31, v32, v33, v34, v35, v36, v37, v38, v39, .int 0, v40])), (h5, .inl (k5, 8277, .inl (fun _ => 0))), (h6, .inl (k6, 8277, .inl (fun _ => 0)))]) (hK : va_K D vwCl [(k3, .long), (k5, .int), (k6, .int)] s) (hl : lv_has ls 9 [(5, .int 0), (4, .ref r0), (3, .ref h3), (2, .ref h4), (1, .ref h0), (0, .ref b)]) (hcc : cells ≤ 2200) (hss : slots ≤ 260000) : W p l e room_1 s m #[Value.ref b] below meth c H locs cells slots (lw_Z below #[Value.ref b] s) (F0 m 1509 ls []) := by
  obtain ⟨hx, hb, hr, hml, hown, hts, hX, hbl, hlocks, hgv⟩ := id C0
  have hA : ∀ q : Nat, s.heap.size ≤ q → A q := fun q h => by rw [hAe]; exact h
  have hbA : ¬ A b := by rw [hAe]; exact Nat.not_le.mpr hbl
  refine W.widen (k := 2200) (n := 260000) hcc hss ?_
  have hi_X10 : ∀ w ∈ wsX100, w ∈ lw_tbl := inX10
  have hi_X11 : ∀ w ∈ wsX110, w ∈ lw_tbl := inX11
  have hi_X5 : ∀ w ∈ wsX50, w ∈ lw_tbl := inX5
  have hi_X8 : ∀ w ∈ wsX80, w ∈ lw_tbl := inX8
  refine lv_aload_n hx hb dL_law_1509 rfl (lv_at hl 4 rfl) ?_
  refine lv_aload_n hx hb dL_law_1510 rfl (lv_at hl 2 rfl) ?_
  refine kc_ (wc := [(h0, .inr (13, [.ref h1, v0, v1, v2, v3, v4, v5, v6, v7, v8])), (h1, .inr (11, [v9, v10, v11, v12, .ref h2, v13, v14, v15, v16, v17])), (h2, .inr (8, [v18, .int 0, v19])), (h3, .inl (k3, 1, .inr (.inl (fun _ => 0))))]) (wr := [(h4, .inr (14, [.ref h5, v20, .ref h6, v21, v22, v23, v24, v25, .int 0, v26, v27, v28, v29, v30, v31, v32, v33, v34, v35, v36, v37, v38, v39, .int 0, v40])), (h5, .inl (k5, 8277, .inl (fun _ => 0))), (h6, .inl (k6, 8277, .inl (fun _ => 0)))]) (vx_runSW (As := [.ref h0, .ref h3]) (rest := []) ⟨hx, hb, hml, hown, hts⟩ (c_L_settledIn_0 l hl0 D ad H.size h0 h1 h2 h3 k3 (v0) (v1) (v2) (v3) (v4) (v5) (v6) (v7) (v8) (v9) (v10) (v11) (v12) (v13) (v14) (v15) (v16) (v17) (v18) (v19) (fun _ => 0)) (vx_cwSW 2 hts hL_law_L_settledIn rfl rfl rfl (by decide +kernel) ⟨Nat.le_of_ble_eq_true rfl, Nat.le_of_ble_eq_true rfl⟩) ⟨PC_.blind, PC_.pre hF hK hP hD hS hA [0, 1, 2, 3] [0] rfl (by decide) rfl⟩ rfl rfl hl.1 rfl (lv_room (Nat.le_of_ble_eq_true rfl)) dL_law_1511 ⟨Nat.le_of_ble_eq_true rfl, Nat.le_of_ble_eq_true rfl⟩) hK hP hD hS hA [0, 1, 2, 3] [4, 5, 6] [1, 2] rfl rfl (by decide) (by decide) rfl (fun qa_1 ka_1 ia_1 H locs hpo hP hD hK hS => ?_)
  have hP : va_P D vwCl [(h4, .inr (14, [.ref h5, v20, .ref h6, v21, v22, v23, v24, v25, .int 0, v26, v27, v28, v29, v30, v31, v32, v33, v34, v35, v36, v37, v38, v39, .int 0, v40])), (h5, .inl (k5, 8277, .inl (fun _ => 0))), (h6, .inl (k6, 8277, .inl (fun _ => 0))), (h0, .inr (13, [.ref h1, v0, v1, v2, v3, v4, v5, v6, v7, v8])), (h1, .inr (11, [v9, v10, v11, v12, .ref h2, v13, v14, v15, v16, v17])), (h2, .inr (8, [v18, .int 0, v19])), (h3, .inl (k3, 1, .inr (.inl (vp_updL (fun _ => 0) 0 0))))] H := hP
  have hD : va_D A [(h4, .inr (14, [.ref h5, v20, .ref h6, v21, v22, v23, v24, v25, .int 0, v26, v27, v28, v29, v30, v31, v32, v33, v34, v35, v36, v37, v38, v39, .int 0, v40])), (h5, .inl (k5, 8277, .inl (fun _ => 0))), (h6, .inl (k6, 8277, .inl (fun _ => 0))), (h0, .inr (13, [.ref h1, v0, v1, v2, v3, v4, v5, v6, v7, v8])), (h1, .inr (11, [v9, v10, v11, v12, .ref h2, v13, v14, v15, v16, v17])), (h2, .inr (8, [v18, .int 0, v19])), (h3, .inl (k3, 1, .inr (.inl (vp_updL (fun _ => 0) 0 0))))] := hD
  have hK : va_K D vwCl [(k5, .int), (k6, .int), (k3, .long)] s := hK
  refine W.eq (g2 := F0 m 1514 ls [.int 0]) rfl ?_
  refine lv_istore (lv' := [(6, .int 0), (5, .int 0), (4, .ref r0), (3, .ref h3), (2, .ref h4), (1, .ref h0), (0, .ref b)]) hx hb dL_law_1514 hl (by decide) rfl (fun ls hl => ?_)
  refine lv_aload_n hx hb dL_law_1516 rfl (lv_at hl 4 rfl) ?_
  refine kc_ (wc := [(h4, .inr (14, [.ref h5, v20, .ref h6, v21, v22, v23, v24, v25, .int 0, v26, v27, v28, v29, v30, v31, v32, v33, v34, v35, v36, v37, v38, v39, .int 0, v40])), (h5, .inl (k5, 8277, .inl (fun _ => 0))), (h6, .inl (k6, 8277, .inl (fun _ => 0)))]) (wr := [(h0, .inr (13, [.ref h1, v0, v1, v2, v3, v4, v5, v6, v7, v8])), (h1, .inr (11, [v9, v10, v11, v12, .ref h2, v13, v14, v15, v16, v17])), (h2, .inr (8, [v18, .int 0, v19])), (h3, .inl (k3, 1, .inr (.inl (vp_updL (fun _ => 0) 0 0))))]) (va_runV (As := []) (rest := []) ⟨hx, hb, hml, hown, hts⟩ (c_X11_settledIn_0 l hl0 D ad H.size h4 h5 h6 k5 k6 (v20) (v21) (v22) (v23) (v24) (v25) (v26) (v27) (v28) (v29) (v30) (v31) (v32) (v33) (v34) (v35) (v36) (v37) (v38) (v39) (.int 0) (v40)) (cwV 0 hts hL_law_X11_settledIn rfl rfl rfl (by decide +kernel) ⟨Nat.le_of_ble_eq_true rfl, Nat.le_of_ble_eq_true rfl⟩) ⟨PC_.blind, va_recv hK hP (ci := 14) (q0 := 0) rfl rfl, PC_.pre hF hK hP hD hS hA [0, 1, 2] [0, 1] rfl (by decide) rfl⟩ rfl rfl hl.1 rfl (lv_room (Nat.le_of_ble_eq_true rfl)) dL_law_1517 ⟨Nat.le_of_ble_eq_true rfl, Nat.le_of_ble_eq_true rfl⟩) hK hP hD hS hA [0, 1, 2] [3, 4, 5, 6] [2] rfl rfl (by decide) (by decide) rfl (fun qa_2 ka_2 ia_2 H locs hpo hP hD hK hS => ?_)
  have hP : va_P D vwCl [(h0, .inr (13, [.ref h1, v0, v1, v2, v3, v4, v5, v6, v7, v8])), (h1, .inr (11, [v9, v10, v11, v12, .ref h2, v13, v14, v15, v16, v17])), (h2, .inr (8, [v18, .int 0, v19])), (h3, .inl (k3, 1, .inr (.inl (vp_updL (fun _ => 0) 0 0)))), (h4, .inr (14, [.ref h5, v20, .ref h6, v21, v22, v23, v24, v25, .int 0, v26, v27, v28, v29, v30, v31, v32, v33, v34, v35, v36, v37, v38, v39, .int 0, v40])), (h5, .inl (k5, 8277, .inl (fun _ => 0))), (h6, .inl (k6, 8277, .inl (fun _ => 0)))] H := hP
  have hD : va_D A [(h0, .inr (13, [.ref h1, v0, v1, v2, v3, v4, v5, v6, v7, v8])), (h1, .inr (11, [v9, v10, v11, v12, .ref h2, v13, v14, v15, v16, v17])), (h2, .inr (8, [v18, .int 0, v19])), (h3, .inl (k3, 1, .inr (.inl (vp_updL (fun _ => 0) 0 0)))), (h4, .inr (14, [.ref h5, v20, .ref h6, v21, v22, v23, v24, v25, .int 0, v26, v27, v28, v29, v30, v31, v32, v33, v34, v35, v36, v37, v38, v39, .int 0, v40])), (h5, .inl (k5, 8277, .inl (fun _ => 0))), (h6, .inl (k6, 8277, .inl (fun _ => 0)))] := hD
  have hK : va_K D vwCl [(k3, .long), (k5, .int), (k6, .int)] s := hK
  refine W.eq (g2 := F0 m 1520 ls [.int 0]) rfl ?_
  refine lv_istore (lv' := [(7, .int 0), (6, .int 0), (5, .int 0), (4, .ref r0), (3, .ref h3), (2, .ref h4), (1, .ref h0), (0, .ref b)]) hx hb dL_law_1520 hl (by decide) rfl (fun ls hl => ?_)
  refine lv_aload_n hx hb dL_law_1522 rfl (lv_at hl 5 rfl) ?_
  refine kc_ (wc := [(h4, .inr (14, [.ref h5, v20, .ref h6, v21, v22, v23, v24, v25, .int 0, v26, v27, v28, v29, v30, v31, v32, v33, v34, v35, v36, v37, v38, v39, .int 0, v40]))]) (wr := [(h0, .inr (13, [.ref h1, v0, v1, v2, v3, v4, v5, v6, v7, v8])), (h1, .inr (11, [v9, v10, v11, v12, .ref h2, v13, v14, v15, v16, v17])), (h2, .inr (8, [v18, .int 0, v19])), (h3, .inl (k3, 1, .inr (.inl (vp_updL (fun _ => 0) 0 0)))), (h5, .inl (k5, 8277, .inl (fun _ => 0))), (h6, .inl (k6, 8277, .inl (fun _ => 0)))]) (va_runV (As := []) (rest := []) ⟨hx, hb, hml, hown, hts⟩ (c_X11_thrown_0 l hl0 D ad H.size h4 (.ref h5) (v20) (.ref h6) (v21) (v22) (v23) (v24) (v25) (.int 0) (v26) (v27) (v28) (v29) (v30) (v31) (v32) (v33) (v34) (v35) (v36) (v37) (v38) (v39) (v40)) (cwV 0 hts hL_law_X11_thrown rfl rfl rfl (by decide +kernel) ⟨Nat.le_of_ble_eq_true rfl, Nat.le_of_ble_eq_true rfl⟩) ⟨PC_.blind, va_recv hK hP (ci := 14) (q0 := 4) rfl rfl, PC_.pre hF hK hP hD hS hA [4] [] rfl (by decide) rfl⟩ rfl rfl hl.1 rfl (lv_room (Nat.le_of_ble_eq_true rfl)) dL_law_1523 ⟨Nat.le_of_ble_eq_true rfl, Nat.le_of_ble_eq_true rfl⟩) hK hP hD hS hA [4] [0, 1, 2, 3, 5, 6] [0, 1, 2] rfl rfl (by decide) (by decide) rfl (fun qa_3 ka_3 ia_3 H locs hpo hP hD hK hS => ?_)
  have hP : va_P D vwCl [(h0, .inr (13, [.ref h1, v0, v1, v2, v3, v4, v5, v6, v7, v8])), (h1, .inr (11, [v9, v10, v11, v12, .ref h2, v13, v14, v15, v16, v17])), (h2, .inr (8, [v18, .int 0, v19])), (h3, .inl (k3, 1, .inr (.inl (vp_updL (fun _ => 0) 0 0)))), (h5, .inl (k5, 8277, .inl (fun _ => 0))), (h6, .inl (k6, 8277, .inl (fun _ => 0))), (h4, .inr (14, [.ref h5, v20, .ref h6, v21, v22, v23, v24, v25, .int 0, v26, v27, v28, v29, v30, v31, v32, v33, v34, v35, v36, v37, v38, v39, .int 0, v40]))] H := hP
  have hD : va_D A [(h0, .inr (13, [.ref h1, v0, v1, v2, v3, v4, v5, v6, v7, v8])), (h1, .inr (11, [v9, v10, v11, v12, .ref h2, v13, v14, v15, v16, v17])), (h2, .inr (8, [v18, .int 0, v19])), (h3, .inl (k3, 1, .inr (.inl (vp_updL (fun _ => 0) 0 0)))), (h5, .inl (k5, 8277, .inl (fun _ => 0))), (h6, .inl (k6, 8277, .inl (fun _ => 0))), (h4, .inr (14, [.ref h5, v20, .ref h6, v21, v22, v23, v24, v25, .int 0, v26, v27, v28, v29, v30, v31, v32, v33, v34, v35, v36, v37, v38, v39, .int 0, v40]))] := hD
  have hK : va_K D vwCl [(k3, .long), (k5, .int), (k6, .int)] s := hK
  refine W.eq (g2 := F0 m 1526 ls [.int 0]) rfl ?_
  refine lv_iload hx hb dL_law_1526 (lv_at hl 1 rfl) ?_
  refine lv_icmp_eq (tgt := 1533) hx hb dL_law_1528 (by decide) (fun _ => ?_) (fun c9 => absurd (by decide +kernel) c9)
  refine lv_iload hx hb dL_law_1533 (lv_at hl 1 rfl) ?_
  refine lv_if_ne (tgt := 1550) hx hb dL_law_1535 (by decide) (fun c9 => absurd (by decide +kernel) c9) (fun _ => ?_)
  refine lv_aload_n hx hb dL_law_1538 rfl (lv_at hl 4 rfl) ?_
  refine lv_iconst (v := 0) hx hb dL_law_1539 (by decide) ?_
  refine va_lald hx hb hK hP 3 0 rfl rfl (vin_ (by decide +kernel)) dL_law_1540 ?_
  refine ktl_ (v := 0) (by decide +kernel) ?_
  refine lv_iload hx hb dL_law_1541 (lv_at hl 0 rfl) ?_
  refine lv_i2l (v := 0) hx hb dL_law_1543 (by decide +kernel) ?_
  refine W.lcmp hx hb dL_law_1544 ?_
  refine kt_ (v := 0) (by decide +kernel) ?_
  refine lv_if_eq (tgt := 1550) hx hb dL_law_1545 (by decide) (fun _ => ?_) (fun c9 => absurd (by decide +kernel) c9)
  refine lv_goto (tgt := 2280) hx hb dL_law_1550 (by decide) ?_
  exact law_tail C0 hAe hS (lv_sub hl [7, 2] rfl) (Nat.le_of_ble_eq_true rfl) (Nat.le_of_ble_eq_true rfl)
set_option maxHeartbeats 4000000 in
set_option maxRecDepth 100000 in
theorem law_case_21 {p : Program} {l : Launch} {e : Env} {s : State} {m : MethodId} {below : List Frame} {meth : Method} {c : Code} {b : Nat} {xs : Nat → Int32} {cells slots : Nat} {H : Heap} {locs : List Loc} {ls : Array Slot} {D : va_G} {ad : Nat → Nat} {A : Nat → Prop} (hl0 : l.stackTraces = false) (C0 : lw_At p s m meth c b 4 xs) (hAe : A = fun q : Nat => s.heap.size ≤ q) (hF : FX_ ad A s s.heap) (hS : va_S A s.heap H locs) (h0 : Nat) (h1 : Nat) (h2 : Nat) (h3 : Nat) (h4 : Nat) (k3 : ClassId) (k4 : ClassId) (r0 : Nat) (v0 : Value) (v1 : Value) (v2 : Value) (v3 : Value) (v4 : Value) (v5 : Value) (v6 : Value) (v7 : Value) (v8 : Value) (v9 : Value) (v10 : Value) (v11 : Value) (v12 : Value) (v13 : Value) (v14 : Value) (v15 : Value) (v16 : Value) (v17 : Value) (v18 : Value) (v19 : Value) (v20 : Value) (v21 : Value) (v22 : Value) (v23 : Value) (v24 : Value) (v25 : Value) (v26 : Value) (v27 : Value) (v28 : Value) (v29 : Value) (v30 : Value) (v31 : Value) (v32 : Value) (v33 : Value) (v34 : Value) (v35 : Value) (v36 : Value) (v37 : Value) (v38 : Value) (v39 : Value) (v40 : Value) (p1 p2 p3 : Int32) (hp1 : xs 1 = p1) (hp2 : xs 2 = p2) (hp3 : xs 3 = p3) (hP : va_P D vwCl [(h0, .inr (13, [.ref h2, v0, v1, v2, v3, v4, v5, v6, v7, v8])), (h1, .inr (14, [.ref h4, v9, v10, v11, v12, v13, v14, v15, v16, v17, v18, v19, v20, v21, v22, v23, v24, v25, v26, v27, v28, v29, v30, .int 0, v31])), (h2, .inr (11, [v32, v33, v34, v35, v36, .int 0, v37, v38, v39, v40])), (h3, .inl (k3, 1, .inr (.inl (fun _ => 0)))), (h4, .inl (k4, 8277, .inl (fun _ => 0)))] H) (hD : va_D A [(h0, .inr (13, [.ref h2, v0, v1, v2, v3, v4, v5, v6, v7, v8])), (h1, .inr (14, [.ref h4, v9, v10, v11, v12, v13, v14, v15, v16, v17, v18, v19, v20, v21, v22, v23, v24, v25, v26, v27, v28, v29, v30, .int 0, v31])), (h2, .inr (11, [v32, v33, v34, v35, v36, .int 0, v37, v38, v39, v40])), (h3, .inl (k3, 1, .inr (.inl (fun _ => 0)))), (h4, .inl (k4, 8277, .inl (fun _ => 0)))]) (hK : va_K D vwCl [(k3, .long), (k4, .int)] s) (hl : lv_has ls 9 [(5, .int 0), (4, .ref r0), (3, .ref h3), (2, .ref h1), (1, .ref h0), (0, .ref b)]) (hcc : cells ≤ 2200) (hss : slots ≤ 260000) : W p l e room_1 s m #[Value.ref b] below meth c H locs cells slots (lw_Z below #[Value.ref b] s) (F0 m 1553 ls []) := by
  obtain ⟨hx, hb, hr, hml, hown, hts, hX, hbl, hlocks, hgv⟩ := id C0
  have hA : ∀ q : Nat, s.heap.size ≤ q → A q := fun q h => by rw [hAe]; exact h
  have hbA : ¬ A b := by rw [hAe]; exact Nat.not_le.mpr hbl
  refine W.widen (k := 2200) (n := 260000) hcc hss ?_
  have hi_X10 : ∀ w ∈ wsX100, w ∈ lw_tbl := inX10
  have hi_X11 : ∀ w ∈ wsX110, w ∈ lw_tbl := inX11
  have hi_X8 : ∀ w ∈ wsX80, w ∈ lw_tbl := inX8
  by_cases c_1 : p1 < 0
  · refine lv_aload_n hx hb dL_law_1553 rfl (lv_at hl 4 rfl) ?_
    refine lv_aload_n hx hb dL_law_1554 rfl (lv_at hl 5 rfl) ?_
    refine lv_iload hx hb dL_law_1555 (lv_at hl 0 rfl) ?_
    refine lv_iconst (v := 1) hx hb dL_law_1557 (by decide) ?_
    refine lv_iadd hx hb dL_law_1558 ?_
    refine kt_ (v := 1) (by decide +kernel) ?_
    refine va_sld hx hb hX hbl hbA hS (vin_ (by decide +kernel)) dL_law_1559 ?_
    refine kt_ (v := p1) ((congrArg xs (by decide +kernel)).trans hp1) ?_
    refine lv_aload_n hx hb dL_law_1560 rfl (lv_at hl 2 rfl) ?_
    refine kc_ (wc := [(h0, .inr (13, [.ref h2, v0, v1, v2, v3, v4, v5, v6, v7, v8]))]) (wr := [(h1, .inr (14, [.ref h4, v9, v10, v11, v12, v13, v14, v15, v16, v17, v18, v19, v20, v21, v22, v23, v24, v25, v26, v27, v28, v29, v30, .int 0, v31])), (h2, .inr (11, [v32, v33, v34, v35, v36, .int 0, v37, v38, v39, v40])), (h3, .inl (k3, 1, .inr (.inl (fun _ => 0)))), (h4, .inl (k4, 8277, .inl (fun _ => 0)))]) (vx_runSW (As := [.ref h0, .int p1, .ref h3]) (rest := []) ⟨hx, hb, hml, hown, hts⟩ (c_L_members_0 l hl0 D ad H.size h0 h3 (.ref h2) (v0) (v1) (v2) (v3) (v4) (v5) (v6) (v7) (v8) p1 c_1) (vx_cwSW 3 hts hL_law_L_members rfl rfl rfl (by decide +kernel) ⟨Nat.le_of_ble_eq_true rfl, Nat.le_of_ble_eq_true rfl⟩) ⟨PC_.blind, PC_.pre hF hK hP hD hS hA [0] [] rfl (by decide) rfl⟩ rfl rfl hl.1 rfl (lv_room (Nat.le_of_ble_eq_true rfl)) dL_law_1561 ⟨Nat.le_of_ble_eq_true rfl, Nat.le_of_ble_eq_true rfl⟩) hK hP hD hS hA [0] [1, 2, 3, 4] [0, 1] rfl rfl (by decide) (by decide) rfl (fun qa_2 ka_2 ia_2 H locs hpo hP hD hK hS => ?_)
    have hP : va_P D vwCl [(h1, .inr (14, [.ref h4, v9, v10, v11, v12, v13, v14, v15, v16, v17, v18, v19, v20, v21, v22, v23, v24, v25, v26, v27, v28, v29, v30, .int 0, v31])), (h2, .inr (11, [v32, v33, v34, v35, v36, .int 0, v37, v38, v39, v40])), (h3, .inl (k3, 1, .inr (.inl (fun _ => 0)))), (h4, .inl (k4, 8277, .inl (fun _ => 0)))] H := hP
    have hD : va_D A [(h1, .inr (14, [.ref h4, v9, v10, v11, v12, v13, v14, v15, v16, v17, v18, v19, v20, v21, v22, v23, v24, v25, v26, v27, v28, v29, v30, .int 0, v31])), (h2, .inr (11, [v32, v33, v34, v35, v36, .int 0, v37, v38, v39, v40])), (h3, .inl (k3, 1, .inr (.inl (fun _ => 0)))), (h4, .inl (k4, 8277, .inl (fun _ => 0)))] := hD
    have hK : va_K D vwCl [(k3, .long), (k4, .int)] s := hK
    refine W.eq (g2 := F0 m 1564 ls [.int 1]) rfl ?_
    refine lv_istore (lv' := [(6, .int 1), (5, .int 0), (4, .ref r0), (3, .ref h3), (2, .ref h1), (1, .ref h0), (0, .ref b)]) hx hb dL_law_1564 hl (by decide) rfl (fun ls hl => ?_)
    refine lv_aload_n hx hb dL_law_1566 rfl (lv_at hl 4 rfl) ?_
    refine lv_aload_n hx hb dL_law_1567 rfl (lv_at hl 6 rfl) ?_
    refine lv_iload hx hb dL_law_1568 (lv_at hl 1 rfl) ?_
    refine lv_iconst (v := 1) hx hb dL_law_1570 (by decide) ?_
    refine lv_iadd hx hb dL_law_1571 ?_
    refine kt_ (v := 1) (by decide +kernel) ?_
    refine va_sld hx hb hX hbl hbA hS (vin_ (by decide +kernel)) dL_law_1572 ?_
    refine kt_ (v := p1) ((congrArg xs (by decide +kernel)).trans hp1) ?_
    refine kc_ (wc := [(h1, .inr (14, [.ref h4, v9, v10, v11, v12, v13, v14, v15, v16, v17, v18, v19, v20, v21, v22, v23, v24, v25, v26, v27, v28, v29, v30, .int 0, v31]))]) (wr := [(h2, .inr (11, [v32, v33, v34, v35, v36, .int 0, v37, v38, v39, v40])), (h3, .inl (k3, 1, .inr (.inl (fun _ => 0)))), (h4, .inl (k4, 8277, .inl (fun _ => 0)))]) (va_runV (As := [.int p1]) (rest := []) ⟨hx, hb, hml, hown, hts⟩ (c_X11_members_0 l hl0 D ad H.size h1 (.ref h4) (v9) (v10) (v11) (v12) (v13) (v14) (v15) (v16) (v17) (v18) (v19) (v20) (v21) (v22) (v23) (v24) (v25) (v26) (v27) (v28) (v29) (v30) (.int 0) (v31) p1 c_1) (cwV 1 hts hL_law_X11_members rfl rfl rfl (by decide +kernel) ⟨Nat.le_of_ble_eq_true rfl, Nat.le_of_ble_eq_true rfl⟩) ⟨PC_.blind, va_recv hK hP (ci := 14) (q0 := 0) rfl rfl, PC_.pre hF hK hP hD hS hA [0] [] rfl (by decide) rfl⟩ rfl rfl hl.1 rfl (lv_room (Nat.le_of_ble_eq_true rfl)) dL_law_1573 ⟨Nat.le_of_ble_eq_true rfl, Nat.le_of_ble_eq_true rfl⟩) hK hP hD hS hA [0] [1, 2, 3] [0, 1] rfl rfl (by decide) (by decide) rfl (fun qa_3 ka_3 ia_3 H locs hpo hP hD hK hS => ?_)
    have hP : va_P D vwCl [(h2, .inr (11, [v32, v33, v34, v35, v36, .int 0, v37, v38, v39, v40])), (h3, .inl (k3, 1, .inr (.inl (fun _ => 0)))), (h4, .inl (k4, 8277, .inl (fun _ => 0))), (h1, .inr (14, [.ref h4, v9, v10, v11, v12, v13, v14, v15, v16, v17, v18, v19, v20, v21, v22, v23, v24, v25, v26, v27, v28, v29, v30, .int 1, v31]))] H := hP
    have hD : va_D A [(h2, .inr (11, [v32, v33, v34, v35, v36, .int 0, v37, v38, v39, v40])), (h3, .inl (k3, 1, .inr (.inl (fun _ => 0)))), (h4, .inl (k4, 8277, .inl (fun _ => 0))), (h1, .inr (14, [.ref h4, v9, v10, v11, v12, v13, v14, v15, v16, v17, v18, v19, v20, v21, v22, v23, v24, v25, v26, v27, v28, v29, v30, .int 1, v31]))] := hD
    have hK : va_K D vwCl [(k3, .long), (k4, .int)] s := hK
    refine W.eq (g2 := F0 m 1576 ls [.int 0]) rfl ?_
    refine lv_istore (lv' := [(7, .int 0), (6, .int 1), (5, .int 0), (4, .ref r0), (3, .ref h3), (2, .ref h1), (1, .ref h0), (0, .ref b)]) hx hb dL_law_1576 hl (by decide) rfl (fun ls hl => ?_)
    refine lv_aload_n hx hb dL_law_1578 rfl (lv_at hl 5 rfl) ?_
    refine kc_ (wc := [(h1, .inr (14, [.ref h4, v9, v10, v11, v12, v13, v14, v15, v16, v17, v18, v19, v20, v21, v22, v23, v24, v25, v26, v27, v28, v29, v30, .int 1, v31]))]) (wr := [(h2, .inr (11, [v32, v33, v34, v35, v36, .int 0, v37, v38, v39, v40])), (h3, .inl (k3, 1, .inr (.inl (fun _ => 0)))), (h4, .inl (k4, 8277, .inl (fun _ => 0)))]) (va_runV (As := []) (rest := []) ⟨hx, hb, hml, hown, hts⟩ (c_X11_thrown_1 l hl0 D ad H.size h1 (.ref h4) (v9) (v10) (v11) (v12) (v13) (v14) (v15) (v16) (v17) (v18) (v19) (v20) (v21) (v22) (v23) (v24) (v25) (v26) (v27) (v28) (v29) (v30) (v31)) (cwV 0 hts hL_law_X11_thrown rfl rfl rfl (by decide +kernel) ⟨Nat.le_of_ble_eq_true rfl, Nat.le_of_ble_eq_true rfl⟩) ⟨PC_.blind, va_recv hK hP (ci := 14) (q0 := 3) rfl rfl, PC_.pre hF hK hP hD hS hA [3] [] rfl (by decide) rfl⟩ rfl rfl hl.1 rfl (lv_room (Nat.le_of_ble_eq_true rfl)) dL_law_1579 ⟨Nat.le_of_ble_eq_true rfl, Nat.le_of_ble_eq_true rfl⟩) hK hP hD hS hA [3] [0, 1, 2] [0, 1] rfl rfl (by decide) (by decide) rfl (fun qa_4 ka_4 ia_4 H locs hpo hP hD hK hS => ?_)
    have hP : va_P D vwCl [(h2, .inr (11, [v32, v33, v34, v35, v36, .int 0, v37, v38, v39, v40])), (h3, .inl (k3, 1, .inr (.inl (fun _ => 0)))), (h4, .inl (k4, 8277, .inl (fun _ => 0))), (h1, .inr (14, [.ref h4, v9, v10, v11, v12, v13, v14, v15, v16, v17, v18, v19, v20, v21, v22, v23, v24, v25, v26, v27, v28, v29, v30, .int 1, v31]))] H := hP
    have hD : va_D A [(h2, .inr (11, [v32, v33, v34, v35, v36, .int 0, v37, v38, v39, v40])), (h3, .inl (k3, 1, .inr (.inl (fun _ => 0)))), (h4, .inl (k4, 8277, .inl (fun _ => 0))), (h1, .inr (14, [.ref h4, v9, v10, v11, v12, v13, v14, v15, v16, v17, v18, v19, v20, v21, v22, v23, v24, v25, v26, v27, v28, v29, v30, .int 1, v31]))] := hD
    have hK : va_K D vwCl [(k3, .long), (k4, .int)] s := hK
    refine W.eq (g2 := F0 m 1582 ls [.int 1]) rfl ?_
    refine lv_iload hx hb dL_law_1582 (lv_at hl 1 rfl) ?_
    refine lv_icmp_eq (tgt := 1589) hx hb dL_law_1584 (by decide) (fun _ => ?_) (fun c9 => absurd (by decide +kernel) c9)
    refine lv_iload hx hb dL_law_1589 (lv_at hl 1 rfl) ?_
    refine lv_if_ne (tgt := 1606) hx hb dL_law_1591 (by decide) (fun _ => ?_) (fun c9 => absurd c9 (by decide +kernel))
    refine lv_goto (tgt := 2280) hx hb dL_law_1606 (by decide) ?_
    exact law_tail C0 hAe hS (lv_sub hl [7, 2] rfl) (Nat.le_of_ble_eq_true rfl) (Nat.le_of_ble_eq_true rfl)
  · by_cases c_5 : 3 ≤ p1
    · refine lv_aload_n hx hb dL_law_1553 rfl (lv_at hl 4 rfl) ?_
      refine lv_aload_n hx hb dL_law_1554 rfl (lv_at hl 5 rfl) ?_
      refine lv_iload hx hb dL_law_1555 (lv_at hl 0 rfl) ?_
      refine lv_iconst (v := 1) hx hb dL_law_1557 (by decide) ?_
      refine lv_iadd hx hb dL_law_1558 ?_
      refine kt_ (v := 1) (by decide +kernel) ?_
      refine va_sld hx hb hX hbl hbA hS (vin_ (by decide +kernel)) dL_law_1559 ?_
      refine kt_ (v := p1) ((congrArg xs (by decide +kernel)).trans hp1) ?_
      refine lv_aload_n hx hb dL_law_1560 rfl (lv_at hl 2 rfl) ?_
      refine kc_ (wc := [(h0, .inr (13, [.ref h2, v0, v1, v2, v3, v4, v5, v6, v7, v8]))]) (wr := [(h1, .inr (14, [.ref h4, v9, v10, v11, v12, v13, v14, v15, v16, v17, v18, v19, v20, v21, v22, v23, v24, v25, v26, v27, v28, v29, v30, .int 0, v31])), (h2, .inr (11, [v32, v33, v34, v35, v36, .int 0, v37, v38, v39, v40])), (h3, .inl (k3, 1, .inr (.inl (fun _ => 0)))), (h4, .inl (k4, 8277, .inl (fun _ => 0)))]) (vx_runSW (As := [.ref h0, .int p1, .ref h3]) (rest := []) ⟨hx, hb, hml, hown, hts⟩ (c_L_members_1 l hl0 D ad H.size h0 h3 (.ref h2) (v0) (v1) (v2) (v3) (v4) (v5) (v6) (v7) (v8) p1 c_5 c_1) (vx_cwSW 3 hts hL_law_L_members rfl rfl rfl (by decide +kernel) ⟨Nat.le_of_ble_eq_true rfl, Nat.le_of_ble_eq_true rfl⟩) ⟨PC_.blind, PC_.pre hF hK hP hD hS hA [0] [] rfl (by decide) rfl⟩ rfl rfl hl.1 rfl (lv_room (Nat.le_of_ble_eq_true rfl)) dL_law_1561 ⟨Nat.le_of_ble_eq_true rfl, Nat.le_of_ble_eq_true rfl⟩) hK hP hD hS hA [0] [1, 2, 3, 4] [0, 1] rfl rfl (by decide) (by decide) rfl (fun qa_6 ka_6 ia_6 H locs hpo hP hD hK hS => ?_)
      have hP : va_P D vwCl [(h1, .inr (14, [.ref h4, v9, v10, v11, v12, v13, v14, v15, v16, v17, v18, v19, v20, v21, v22, v23, v24, v25, v26, v27, v28, v29, v30, .int 0, v31])), (h2, .inr (11, [v32, v33, v34, v35, v36, .int 0, v37, v38, v39, v40])), (h3, .inl (k3, 1, .inr (.inl (fun _ => 0)))), (h4, .inl (k4, 8277, .inl (fun _ => 0)))] H := hP
      have hD : va_D A [(h1, .inr (14, [.ref h4, v9, v10, v11, v12, v13, v14, v15, v16, v17, v18, v19, v20, v21, v22, v23, v24, v25, v26, v27, v28, v29, v30, .int 0, v31])), (h2, .inr (11, [v32, v33, v34, v35, v36, .int 0, v37, v38, v39, v40])), (h3, .inl (k3, 1, .inr (.inl (fun _ => 0)))), (h4, .inl (k4, 8277, .inl (fun _ => 0)))] := hD
      have hK : va_K D vwCl [(k3, .long), (k4, .int)] s := hK
      refine W.eq (g2 := F0 m 1564 ls [.int 1]) rfl ?_
      refine lv_istore (lv' := [(6, .int 1), (5, .int 0), (4, .ref r0), (3, .ref h3), (2, .ref h1), (1, .ref h0), (0, .ref b)]) hx hb dL_law_1564 hl (by decide) rfl (fun ls hl => ?_)
      refine lv_aload_n hx hb dL_law_1566 rfl (lv_at hl 4 rfl) ?_
      refine lv_aload_n hx hb dL_law_1567 rfl (lv_at hl 6 rfl) ?_
      refine lv_iload hx hb dL_law_1568 (lv_at hl 1 rfl) ?_
      refine lv_iconst (v := 1) hx hb dL_law_1570 (by decide) ?_
      refine lv_iadd hx hb dL_law_1571 ?_
      refine kt_ (v := 1) (by decide +kernel) ?_
      refine va_sld hx hb hX hbl hbA hS (vin_ (by decide +kernel)) dL_law_1572 ?_
      refine kt_ (v := p1) ((congrArg xs (by decide +kernel)).trans hp1) ?_
      refine kc_ (wc := [(h1, .inr (14, [.ref h4, v9, v10, v11, v12, v13, v14, v15, v16, v17, v18, v19, v20, v21, v22, v23, v24, v25, v26, v27, v28, v29, v30, .int 0, v31]))]) (wr := [(h2, .inr (11, [v32, v33, v34, v35, v36, .int 0, v37, v38, v39, v40])), (h3, .inl (k3, 1, .inr (.inl (fun _ => 0)))), (h4, .inl (k4, 8277, .inl (fun _ => 0)))]) (va_runV (As := [.int p1]) (rest := []) ⟨hx, hb, hml, hown, hts⟩ (c_X11_members_1 l hl0 D ad H.size h1 (.ref h4) (v9) (v10) (v11) (v12) (v13) (v14) (v15) (v16) (v17) (v18) (v19) (v20) (v21) (v22) (v23) (v24) (v25) (v26) (v27) (v28) (v29) (v30) (.int 0) (v31) p1 c_5 c_1) (cwV 1 hts hL_law_X11_members rfl rfl rfl (by decide +kernel) ⟨Nat.le_of_ble_eq_true rfl, Nat.le_of_ble_eq_true rfl⟩) ⟨PC_.blind, va_recv hK hP (ci := 14) (q0 := 0) rfl rfl, PC_.pre hF hK hP hD hS hA [0] [] rfl (by decide) rfl⟩ rfl rfl hl.1 rfl (lv_room (Nat.le_of_ble_eq_true rfl)) dL_law_1573 ⟨Nat.le_of_ble_eq_true rfl, Nat.le_of_ble_eq_true rfl⟩) hK hP hD hS hA [0] [1, 2, 3] [0, 1] rfl rfl (by decide) (by decide) rfl (fun qa_7 ka_7 ia_7 H locs hpo hP hD hK hS => ?_)
      have hP : va_P D vwCl [(h2, .inr (11, [v32, v33, v34, v35, v36, .int 0, v37, v38, v39, v40])), (h3, .inl (k3, 1, .inr (.inl (fun _ => 0)))), (h4, .inl (k4, 8277, .inl (fun _ => 0))), (h1, .inr (14, [.ref h4, v9, v10, v11, v12, v13, v14, v15, v16, v17, v18, v19, v20, v21, v22, v23, v24, v25, v26, v27, v28, v29, v30, .int 1, v31]))] H := hP
      have hD : va_D A [(h2, .inr (11, [v32, v33, v34, v35, v36, .int 0, v37, v38, v39, v40])), (h3, .inl (k3, 1, .inr (.inl (fun _ => 0)))), (h4, .inl (k4, 8277, .inl (fun _ => 0))), (h1, .inr (14, [.ref h4, v9, v10, v11, v12, v13, v14, v15, v16, v17, v18, v19, v20, v21, v22, v23, v24, v25, v26, v27, v28, v29, v30, .int 1, v31]))] := hD
      have hK : va_K D vwCl [(k3, .long), (k4, .int)] s := hK
      refine W.eq (g2 := F0 m 1576 ls [.int 0]) rfl ?_
      refine lv_istore (lv' := [(7, .int 0), (6, .int 1), (5, .int 0), (4, .ref r0), (3, .ref h3), (2, .ref h1), (1, .ref h0), (0, .ref b)]) hx hb dL_law_1576 hl (by decide) rfl (fun ls hl => ?_)
      refine lv_aload_n hx hb dL_law_1578 rfl (lv_at hl 5 rfl) ?_
      refine kc_ (wc := [(h1, .inr (14, [.ref h4, v9, v10, v11, v12, v13, v14, v15, v16, v17, v18, v19, v20, v21, v22, v23, v24, v25, v26, v27, v28, v29, v30, .int 1, v31]))]) (wr := [(h2, .inr (11, [v32, v33, v34, v35, v36, .int 0, v37, v38, v39, v40])), (h3, .inl (k3, 1, .inr (.inl (fun _ => 0)))), (h4, .inl (k4, 8277, .inl (fun _ => 0)))]) (va_runV (As := []) (rest := []) ⟨hx, hb, hml, hown, hts⟩ (c_X11_thrown_1 l hl0 D ad H.size h1 (.ref h4) (v9) (v10) (v11) (v12) (v13) (v14) (v15) (v16) (v17) (v18) (v19) (v20) (v21) (v22) (v23) (v24) (v25) (v26) (v27) (v28) (v29) (v30) (v31)) (cwV 0 hts hL_law_X11_thrown rfl rfl rfl (by decide +kernel) ⟨Nat.le_of_ble_eq_true rfl, Nat.le_of_ble_eq_true rfl⟩) ⟨PC_.blind, va_recv hK hP (ci := 14) (q0 := 3) rfl rfl, PC_.pre hF hK hP hD hS hA [3] [] rfl (by decide) rfl⟩ rfl rfl hl.1 rfl (lv_room (Nat.le_of_ble_eq_true rfl)) dL_law_1579 ⟨Nat.le_of_ble_eq_true rfl, Nat.le_of_ble_eq_true rfl⟩) hK hP hD hS hA [3] [0, 1, 2] [0, 1] rfl rfl (by decide) (by decide) rfl (fun qa_8 ka_8 ia_8 H locs hpo hP hD hK hS => ?_)
      have hP : va_P D vwCl [(h2, .inr (11, [v32, v33, v34, v35, v36, .int 0, v37, v38, v39, v40])), (h3, .inl (k3, 1, .inr (.inl (fun _ => 0)))), (h4, .inl (k4, 8277, .inl (fun _ => 0))), (h1, .inr (14, [.ref h4, v9, v10, v11, v12, v13, v14, v15, v16, v17, v18, v19, v20, v21, v22, v23, v24, v25, v26, v27, v28, v29, v30, .int 1, v31]))] H := hP
      have hD : va_D A [(h2, .inr (11, [v32, v33, v34, v35, v36, .int 0, v37, v38, v39, v40])), (h3, .inl (k3, 1, .inr (.inl (fun _ => 0)))), (h4, .inl (k4, 8277, .inl (fun _ => 0))), (h1, .inr (14, [.ref h4, v9, v10, v11, v12, v13, v14, v15, v16, v17, v18, v19, v20, v21, v22, v23, v24, v25, v26, v27, v28, v29, v30, .int 1, v31]))] := hD
      have hK : va_K D vwCl [(k3, .long), (k4, .int)] s := hK
      refine W.eq (g2 := F0 m 1582 ls [.int 1]) rfl ?_
      refine lv_iload hx hb dL_law_1582 (lv_at hl 1 rfl) ?_
      refine lv_icmp_eq (tgt := 1589) hx hb dL_law_1584 (by decide) (fun _ => ?_) (fun c9 => absurd (by decide +kernel) c9)
      refine lv_iload hx hb dL_law_1589 (lv_at hl 1 rfl) ?_
      refine lv_if_ne (tgt := 1606) hx hb dL_law_1591 (by decide) (fun _ => ?_) (fun c9 => absurd c9 (by decide +kernel))
      refine lv_goto (tgt := 2280) hx hb dL_law_1606 (by decide) ?_
      exact law_tail C0 hAe hS (lv_sub hl [7, 2] rfl) (Nat.le_of_ble_eq_true rfl) (Nat.le_of_ble_eq_true rfl)
    · refine lv_aload_n hx hb dL_law_1553 rfl (lv_at hl 4 rfl) ?_
      refine lv_aload_n hx hb dL_law_1554 rfl (lv_at hl 5 rfl) ?_
      refine lv_iload hx hb dL_law_1555 (lv_at hl 0 rfl) ?_
      refine lv_iconst (v := 1) hx hb dL_law_1557 (by decide) ?_
      refine lv_iadd hx hb dL_law_1558 ?_
      refine kt_ (v := 1) (by decide +kernel) ?_
      refine va_sld hx hb hX hbl hbA hS (vin_ (by decide +kernel)) dL_law_1559 ?_
      refine kt_ (v := p1) ((congrArg xs (by decide +kernel)).trans hp1) ?_
      refine lv_aload_n hx hb dL_law_1560 rfl (lv_at hl 2 rfl) ?_
      refine kc_ (wc := [(h0, .inr (13, [.ref h2, v0, v1, v2, v3, v4, v5, v6, v7, v8])), (h2, .inr (11, [v32, v33, v34, v35, v36, .int 0, v37, v38, v39, v40])), (h3, .inl (k3, 1, .inr (.inl (fun _ => 0))))]) (wr := [(h1, .inr (14, [.ref h4, v9, v10, v11, v12, v13, v14, v15, v16, v17, v18, v19, v20, v21, v22, v23, v24, v25, v26, v27, v28, v29, v30, .int 0, v31])), (h4, .inl (k4, 8277, .inl (fun _ => 0)))]) (vx_runSW (As := [.ref h0, .int p1, .ref h3]) (rest := []) ⟨hx, hb, hml, hown, hts⟩ (c_L_members_2 l hl0 D ad H.size h0 h2 h3 k3 (v0) (v1) (v2) (v3) (v4) (v5) (v6) (v7) (v8) (v32) (v33) (v34) (v35) (v36) (v37) (v38) (v39) (v40) (fun _ => 0) p1 c_5 c_1) (vx_cwSW 3 hts hL_law_L_members rfl rfl rfl (by decide +kernel) ⟨Nat.le_of_ble_eq_true rfl, Nat.le_of_ble_eq_true rfl⟩) ⟨PC_.blind, PC_.pre hF hK hP hD hS hA [0, 2, 3] [0] rfl (by decide) rfl⟩ rfl rfl hl.1 rfl (lv_room (Nat.le_of_ble_eq_true rfl)) dL_law_1561 ⟨Nat.le_of_ble_eq_true rfl, Nat.le_of_ble_eq_true rfl⟩) hK hP hD hS hA [0, 2, 3] [1, 4] [1] rfl rfl (by decide) (by decide) rfl (fun qa_9 ka_9 ia_9 H locs hpo hP hD hK hS => ?_)
      have hP : va_P D vwCl [(h1, .inr (14, [.ref h4, v9, v10, v11, v12, v13, v14, v15, v16, v17, v18, v19, v20, v21, v22, v23, v24, v25, v26, v27, v28, v29, v30, .int 0, v31])), (h4, .inl (k4, 8277, .inl (fun _ => 0))), (h0, .inr (13, [.ref h2, v0, v1, v2, v3, v4, v5, v6, v7, v8])), (h2, .inr (11, [v32, v33, v34, v35, v36, .int 0, v37, v38, v39, v40])), (h3, .inl (k3, 1, .inr (.inl (vp_updL (fun _ => 0) 0 0))))] H := hP
      have hD : va_D A [(h1, .inr (14, [.ref h4, v9, v10, v11, v12, v13, v14, v15, v16, v17, v18, v19, v20, v21, v22, v23, v24, v25, v26, v27, v28, v29, v30, .int 0, v31])), (h4, .inl (k4, 8277, .inl (fun _ => 0))), (h0, .inr (13, [.ref h2, v0, v1, v2, v3, v4, v5, v6, v7, v8])), (h2, .inr (11, [v32, v33, v34, v35, v36, .int 0, v37, v38, v39, v40])), (h3, .inl (k3, 1, .inr (.inl (vp_updL (fun _ => 0) 0 0))))] := hD
      have hK : va_K D vwCl [(k4, .int), (k3, .long)] s := hK
      refine W.eq (g2 := F0 m 1564 ls [.int 0]) rfl ?_
      refine lv_istore (lv' := [(6, .int 0), (5, .int 0), (4, .ref r0), (3, .ref h3), (2, .ref h1), (1, .ref h0), (0, .ref b)]) hx hb dL_law_1564 hl (by decide) rfl (fun ls hl => ?_)
      refine lv_aload_n hx hb dL_law_1566 rfl (lv_at hl 4 rfl) ?_
      refine lv_aload_n hx hb dL_law_1567 rfl (lv_at hl 6 rfl) ?_
      refine lv_iload hx hb dL_law_1568 (lv_at hl 1 rfl) ?_
      refine lv_iconst (v := 1) hx hb dL_law_1570 (by decide) ?_
      refine lv_iadd hx hb dL_law_1571 ?_
      refine kt_ (v := 1) (by decide +kernel) ?_
      refine va_sld hx hb hX hbl hbA hS (vin_ (by decide +kernel)) dL_law_1572 ?_
      refine kt_ (v := p1) ((congrArg xs (by decide +kernel)).trans hp1) ?_
      refine kc_ (wc := [(h1, .inr (14, [.ref h4, v9, v10, v11, v12, v13, v14, v15, v16, v17, v18, v19, v20, v21, v22, v23, v24, v25, v26, v27, v28, v29, v30, .int 0, v31])), (h4, .inl (k4, 8277, .inl (fun _ => 0)))]) (wr := [(h0, .inr (13, [.ref h2, v0, v1, v2, v3, v4, v5, v6, v7, v8])), (h2, .inr (11, [v32, v33, v34, v35, v36, .int 0, v37, v38, v39, v40])), (h3, .inl (k3, 1, .inr (.inl (vp_updL (fun _ => 0) 0 0))))]) (va_runV (As := [.int p1]) (rest := []) ⟨hx, hb, hml, hown, hts⟩ (c_X11_members_2 l hl0 D ad H.size h1 h4 k4 (v9) (v10) (v11) (v12) (v13) (v14) (v15) (v16) (v17) (v18) (v19) (v20) (v21) (v22) (v23) (v24) (v25) (v26) (v27) (v28) (v29) (v30) (.int 0) (v31) p1 c_5 c_1) (cwV 1 hts hL_law_X11_members rfl rfl rfl (by decide +kernel) ⟨Nat.le_of_ble_eq_true rfl, Nat.le_of_ble_eq_true rfl⟩) ⟨PC_.blind, va_recv hK hP (ci := 14) (q0 := 0) rfl rfl, PC_.pre hF hK hP hD hS hA [0, 1] [0] rfl (by decide) rfl⟩ rfl rfl hl.1 rfl (lv_room (Nat.le_of_ble_eq_true rfl)) dL_law_1573 ⟨Nat.le_of_ble_eq_true rfl, Nat.le_of_ble_eq_true rfl⟩) hK hP hD hS hA [0, 1] [2, 3, 4] [1] rfl rfl (by decide) (by decide) rfl (fun qa_10 ka_10 ia_10 H locs hpo hP hD hK hS => ?_)
      have hP : va_P D vwCl [(h0, .inr (13, [.ref h2, v0, v1, v2, v3, v4, v5, v6, v7, v8])), (h2, .inr (11, [v32, v33, v34, v35, v36, .int 0, v37, v38, v39, v40])), (h3, .inl (k3, 1, .inr (.inl (vp_updL (fun _ => 0) 0 0)))), (h1, .inr (14, [.ref h4, v9, v10, v11, v12, v13, v14, v15, v16, v17, v18, v19, v20, v21, v22, v23, v24, v25, v26, v27, v28, v29, v30, .int 0, v31])), (h4, .inl (k4, 8277, .inl (fun _ => 0)))] H := hP
      have hD : va_D A [(h0, .inr (13, [.ref h2, v0, v1, v2, v3, v4, v5, v6, v7, v8])), (h2, .inr (11, [v32, v33, v34, v35, v36, .int 0, v37, v38, v39, v40])), (h3, .inl (k3, 1, .inr (.inl (vp_updL (fun _ => 0) 0 0)))), (h1, .inr (14, [.ref h4, v9, v10, v11, v12, v13, v14, v15, v16, v17, v18, v19, v20, v21, v22, v23, v24, v25, v26, v27, v28, v29, v30, .int 0, v31])), (h4, .inl (k4, 8277, .inl (fun _ => 0)))] := hD
      have hK : va_K D vwCl [(k3, .long), (k4, .int)] s := hK
      refine W.eq (g2 := F0 m 1576 ls [.int 0]) rfl ?_
      refine lv_istore (lv' := [(7, .int 0), (6, .int 0), (5, .int 0), (4, .ref r0), (3, .ref h3), (2, .ref h1), (1, .ref h0), (0, .ref b)]) hx hb dL_law_1576 hl (by decide) rfl (fun ls hl => ?_)
      refine lv_aload_n hx hb dL_law_1578 rfl (lv_at hl 5 rfl) ?_
      refine kc_ (wc := [(h1, .inr (14, [.ref h4, v9, v10, v11, v12, v13, v14, v15, v16, v17, v18, v19, v20, v21, v22, v23, v24, v25, v26, v27, v28, v29, v30, .int 0, v31]))]) (wr := [(h0, .inr (13, [.ref h2, v0, v1, v2, v3, v4, v5, v6, v7, v8])), (h2, .inr (11, [v32, v33, v34, v35, v36, .int 0, v37, v38, v39, v40])), (h3, .inl (k3, 1, .inr (.inl (vp_updL (fun _ => 0) 0 0)))), (h4, .inl (k4, 8277, .inl (fun _ => 0)))]) (va_runV (As := []) (rest := []) ⟨hx, hb, hml, hown, hts⟩ (c_X11_thrown_0 l hl0 D ad H.size h1 (.ref h4) (v9) (v10) (v11) (v12) (v13) (v14) (v15) (v16) (v17) (v18) (v19) (v20) (v21) (v22) (v23) (v24) (v25) (v26) (v27) (v28) (v29) (v30) (v31)) (cwV 0 hts hL_law_X11_thrown rfl rfl rfl (by decide +kernel) ⟨Nat.le_of_ble_eq_true rfl, Nat.le_of_ble_eq_true rfl⟩) ⟨PC_.blind, va_recv hK hP (ci := 14) (q0 := 3) rfl rfl, PC_.pre hF hK hP hD hS hA [3] [] rfl (by decide) rfl⟩ rfl rfl hl.1 rfl (lv_room (Nat.le_of_ble_eq_true rfl)) dL_law_1579 ⟨Nat.le_of_ble_eq_true rfl, Nat.le_of_ble_eq_true rfl⟩) hK hP hD hS hA [3] [0, 1, 2, 4] [0, 1] rfl rfl (by decide) (by decide) rfl (fun qa_11 ka_11 ia_11 H locs hpo hP hD hK hS => ?_)
      have hP : va_P D vwCl [(h0, .inr (13, [.ref h2, v0, v1, v2, v3, v4, v5, v6, v7, v8])), (h2, .inr (11, [v32, v33, v34, v35, v36, .int 0, v37, v38, v39, v40])), (h3, .inl (k3, 1, .inr (.inl (vp_updL (fun _ => 0) 0 0)))), (h4, .inl (k4, 8277, .inl (fun _ => 0))), (h1, .inr (14, [.ref h4, v9, v10, v11, v12, v13, v14, v15, v16, v17, v18, v19, v20, v21, v22, v23, v24, v25, v26, v27, v28, v29, v30, .int 0, v31]))] H := hP
      have hD : va_D A [(h0, .inr (13, [.ref h2, v0, v1, v2, v3, v4, v5, v6, v7, v8])), (h2, .inr (11, [v32, v33, v34, v35, v36, .int 0, v37, v38, v39, v40])), (h3, .inl (k3, 1, .inr (.inl (vp_updL (fun _ => 0) 0 0)))), (h4, .inl (k4, 8277, .inl (fun _ => 0))), (h1, .inr (14, [.ref h4, v9, v10, v11, v12, v13, v14, v15, v16, v17, v18, v19, v20, v21, v22, v23, v24, v25, v26, v27, v28, v29, v30, .int 0, v31]))] := hD
      have hK : va_K D vwCl [(k3, .long), (k4, .int)] s := hK
      refine W.eq (g2 := F0 m 1582 ls [.int 0]) rfl ?_
      refine lv_iload hx hb dL_law_1582 (lv_at hl 1 rfl) ?_
      refine lv_icmp_eq (tgt := 1589) hx hb dL_law_1584 (by decide) (fun _ => ?_) (fun c9 => absurd (by decide +kernel) c9)
      refine lv_iload hx hb dL_law_1589 (lv_at hl 1 rfl) ?_
      refine lv_if_ne (tgt := 1606) hx hb dL_law_1591 (by decide) (fun c9 => absurd (by decide +kernel) c9) (fun _ => ?_)
      refine lv_aload_n hx hb dL_law_1594 rfl (lv_at hl 4 rfl) ?_
      refine lv_iconst (v := 0) hx hb dL_law_1595 (by decide) ?_
      refine va_lald hx hb hK hP 2 0 rfl rfl (vin_ (by decide +kernel)) dL_law_1596 ?_
      refine ktl_ (v := 0) (by decide +kernel) ?_
      refine lv_iload hx hb dL_law_1597 (lv_at hl 0 rfl) ?_
      refine lv_i2l (v := 0) hx hb dL_law_1599 (by decide +kernel) ?_
      refine W.lcmp hx hb dL_law_1600 ?_
      refine kt_ (v := 0) (by decide +kernel) ?_
      refine lv_if_eq (tgt := 1606) hx hb dL_law_1601 (by decide) (fun _ => ?_) (fun c9 => absurd (by decide +kernel) c9)
      refine lv_goto (tgt := 2280) hx hb dL_law_1606 (by decide) ?_
      exact law_tail C0 hAe hS (lv_sub hl [7, 2] rfl) (Nat.le_of_ble_eq_true rfl) (Nat.le_of_ble_eq_true rfl)
set_option maxHeartbeats 4000000 in
set_option maxRecDepth 100000 in
theorem law_case_22 {p : Program} {l : Launch} {e : Env} {s : State} {m : MethodId} {below : List Frame} {meth : Method} {c : Code} {b : Nat} {xs : Nat → Int32} {cells slots : Nat} {H : Heap} {locs : List Loc} {ls : Array Slot} {D : va_G} {ad : Nat → Nat} {A : Nat → Prop} (hl0 : l.stackTraces = false) (C0 : lw_At p s m meth c b 4 xs) (hAe : A = fun q : Nat => s.heap.size ≤ q) (hF : FX_ ad A s s.heap) (hS : va_S A s.heap H locs) (h0 : Nat) (h1 : Nat) (h2 : Nat) (h3 : Nat) (k3 : ClassId) (r0 : Nat) (r1 : Nat) (v0 : Value) (v1 : Value) (v2 : Value) (v3 : Value) (v4 : Value) (v5 : Value) (v6 : Value) (v7 : Value) (v8 : Value) (v9 : Value) (v10 : Value) (v11 : Value) (v12 : Value) (v13 : Value) (v14 : Value) (v15 : Value) (v16 : Value) (v17 : Value) (v18 : Value) (v19 : Value) (v20 : Value) (v21 : Value) (v22 : Value) (v23 : Value) (v24 : Value) (v25 : Value) (v26 : Value) (v27 : Value) (v28 : Value) (v29 : Value) (v30 : Value) (v31 : Value) (v32 : Value) (v33 : Value) (v34 : Value) (v35 : Value) (v36 : Value) (v37 : Value) (v38 : Value) (v39 : Value) (v40 : Value) (p1 p2 p3 : Int32) (hp1 : xs 1 = p1) (hp2 : xs 2 = p2) (hp3 : xs 3 = p3) (hP : va_P D vwCl [(h0, .inr (13, [.ref h1, v0, v1, v2, v3, v4, v5, v6, v7, v8])), (h1, .inr (11, [v9, v10, v11, v12, v13, .int 0, v14, v15, v16, v17])), (h2, .inr (14, [.ref h3, v18, v19, v20, v21, v22, v23, v24, v25, v26, v27, v28, v29, v30, v31, v32, v33, v34, v35, v36, v37, v38, v39, .int 0, v40])), (h3, .inl (k3, 8277, .inl (fun _ => 0)))] H) (hD : va_D A [(h0, .inr (13, [.ref h1, v0, v1, v2, v3, v4, v5, v6, v7, v8])), (h1, .inr (11, [v9, v10, v11, v12, v13, .int 0, v14, v15, v16, v17])), (h2, .inr (14, [.ref h3, v18, v19, v20, v21, v22, v23, v24, v25, v26, v27, v28, v29, v30, v31, v32, v33, v34, v35, v36, v37, v38, v39, .int 0, v40])), (h3, .inl (k3, 8277, .inl (fun _ => 0)))]) (hK : va_K D vwCl [(k3, .int)] s) (hl : lv_has ls 9 [(5, .int 0), (4, .ref r1), (3, .ref r0), (2, .ref h2), (1, .ref h0), (0, .ref b)]) (hcc : cells ≤ 2200) (hss : slots ≤ 260000) : W p l e room_1 s m #[Value.ref b] below meth c H locs cells slots (lw_Z below #[Value.ref b] s) (F0 m 1609 ls []) := by
  obtain ⟨hx, hb, hr, hml, hown, hts, hX, hbl, hlocks, hgv⟩ := id C0
  have hA : ∀ q : Nat, s.heap.size ≤ q → A q := fun q h => by rw [hAe]; exact h
  have hbA : ¬ A b := by rw [hAe]; exact Nat.not_le.mpr hbl
  refine W.widen (k := 2200) (n := 260000) hcc hss ?_
  have hi_X10 : ∀ w ∈ wsX100, w ∈ lw_tbl := inX10
  have hi_X11 : ∀ w ∈ wsX110, w ∈ lw_tbl := inX11
  have hi_X8 : ∀ w ∈ wsX80, w ∈ lw_tbl := inX8
  refine lv_aload_n hx hb dL_law_1609 rfl (lv_at hl 4 rfl) ?_
  refine lv_aload_n hx hb dL_law_1610 rfl (lv_at hl 5 rfl) ?_
  refine lv_iload hx hb dL_law_1611 (lv_at hl 0 rfl) ?_
  refine lv_iconst (v := 1) hx hb dL_law_1613 (by decide) ?_
  refine lv_iadd hx hb dL_law_1614 ?_
  refine kt_ (v := 1) (by decide +kernel) ?_
  refine va_sld hx hb hX hbl hbA hS (vin_ (by decide +kernel)) dL_law_1615 ?_
  refine kt_ (v := p1) ((congrArg xs (by decide +kernel)).trans hp1) ?_
  refine lv_aload_n hx hb dL_law_1616 rfl (lv_at hl 2 rfl) ?_
  refine kc_ (wc := [(h0, .inr (13, [.ref h1, v0, v1, v2, v3, v4, v5, v6, v7, v8])), (h1, .inr (11, [v9, v10, v11, v12, v13, .int 0, v14, v15, v16, v17]))]) (wr := [(h2, .inr (14, [.ref h3, v18, v19, v20, v21, v22, v23, v24, v25, v26, v27, v28, v29, v30, v31, v32, v33, v34, v35, v36, v37, v38, v39, .int 0, v40])), (h3, .inl (k3, 8277, .inl (fun _ => 0)))]) (vx_runSW (As := [.ref h0, .int p1, .ref r0]) (rest := []) ⟨hx, hb, hml, hown, hts⟩ (c_L_busiest_0 l hl0 D ad H.size h0 h1 r0 (v0) (v1) (v2) (v3) (v4) (v5) (v6) (v7) (v8) (v9) (v10) (v11) (v12) (v13) (v14) (v15) (v16) (v17) p1) (vx_cwSW 3 hts hL_law_L_busiest rfl rfl rfl (by decide +kernel) ⟨Nat.le_of_ble_eq_true rfl, Nat.le_of_ble_eq_true rfl⟩) ⟨PC_.blind, PC_.pre hF hK hP hD hS hA [0, 1] [] rfl (by decide) rfl⟩ rfl rfl hl.1 rfl (lv_room (Nat.le_of_ble_eq_true rfl)) dL_law_1617 ⟨Nat.le_of_ble_eq_true rfl, Nat.le_of_ble_eq_true rfl⟩) hK hP hD hS hA [0, 1] [2, 3] [0] rfl rfl (by decide) (by decide) rfl (fun qa_1 ka_1 ia_1 H locs hpo hP hD hK hS => ?_)
  have hP : va_P D vwCl [(h2, .inr (14, [.ref h3, v18, v19, v20, v21, v22, v23, v24, v25, v26, v27, v28, v29, v30, v31, v32, v33, v34, v35, v36, v37, v38, v39, .int 0, v40])), (h3, .inl (k3, 8277, .inl (fun _ => 0)))] H := hP
  have hD : va_D A [(h2, .inr (14, [.ref h3, v18, v19, v20, v21, v22, v23, v24, v25, v26, v27, v28, v29, v30, v31, v32, v33, v34, v35, v36, v37, v38, v39, .int 0, v40])), (h3, .inl (k3, 8277, .inl (fun _ => 0)))] := hD
  have hK : va_K D vwCl [(k3, .int)] s := hK
  refine W.eq (g2 := F0 m 1620 ls [.int 1]) rfl ?_
  refine lv_istore (lv' := [(6, .int 1), (5, .int 0), (4, .ref r1), (3, .ref r0), (2, .ref h2), (1, .ref h0), (0, .ref b)]) hx hb dL_law_1620 hl (by decide) rfl (fun ls hl => ?_)
  refine lv_aload_n hx hb dL_law_1622 rfl (lv_at hl 4 rfl) ?_
  refine lv_aload_n hx hb dL_law_1623 rfl (lv_at hl 6 rfl) ?_
  refine lv_iload hx hb dL_law_1624 (lv_at hl 1 rfl) ?_
  refine lv_iconst (v := 1) hx hb dL_law_1626 (by decide) ?_
  refine lv_iadd hx hb dL_law_1627 ?_
  refine kt_ (v := 1) (by decide +kernel) ?_
  refine va_sld hx hb hX hbl hbA hS (vin_ (by decide +kernel)) dL_law_1628 ?_
  refine kt_ (v := p1) ((congrArg xs (by decide +kernel)).trans hp1) ?_
  refine kc_ (wc := [(h2, .inr (14, [.ref h3, v18, v19, v20, v21, v22, v23, v24, v25, v26, v27, v28, v29, v30, v31, v32, v33, v34, v35, v36, v37, v38, v39, .int 0, v40])), (h3, .inl (k3, 8277, .inl (fun _ => 0)))]) (wr := []) (va_runV (As := [.int p1]) (rest := []) ⟨hx, hb, hml, hown, hts⟩ (c_X11_busiest_0 l hl0 D ad H.size h2 h3 k3 (v18) (v19) (v20) (v21) (v22) (v23) (v24) (v25) (v26) (v27) (v28) (v29) (v30) (v31) (v32) (v33) (v34) (v35) (v36) (v37) (v38) (v39) (.int 0) (v40) p1) (cwV 1 hts hL_law_X11_busiest rfl rfl rfl (by decide +kernel) ⟨Nat.le_of_ble_eq_true rfl, Nat.le_of_ble_eq_true rfl⟩) ⟨PC_.blind, va_recv hK hP (ci := 14) (q0 := 0) rfl rfl, PC_.pre hF hK hP hD hS hA [0, 1] [0] rfl (by decide) rfl⟩ rfl rfl hl.1 rfl (lv_room (Nat.le_of_ble_eq_true rfl)) dL_law_1629 ⟨Nat.le_of_ble_eq_true rfl, Nat.le_of_ble_eq_true rfl⟩) hK hP hD hS hA [0, 1] [] [] rfl rfl (by decide) (by decide) rfl (fun qa_2 ka_2 ia_2 H locs hpo hP hD hK hS => ?_)
  have hP : va_P D vwCl [(h2, .inr (14, [.ref h3, v18, v19, v20, v21, v22, v23, v24, v25, v26, v27, v28, v29, v30, v31, v32, v33, v34, v35, v36, v37, v38, v39, .int 1, v40])), (h3, .inl (k3, 8277, .inl (fun _ => 0)))] H := hP
  have hD : va_D A [(h2, .inr (14, [.ref h3, v18, v19, v20, v21, v22, v23, v24, v25, v26, v27, v28, v29, v30, v31, v32, v33, v34, v35, v36, v37, v38, v39, .int 1, v40])), (h3, .inl (k3, 8277, .inl (fun _ => 0)))] := hD
  have hK : va_K D vwCl [(k3, .int)] s := hK
  refine W.eq (g2 := F0 m 1632 ls [.int 0]) rfl ?_
  refine lv_istore (lv' := [(7, .int 0), (6, .int 1), (5, .int 0), (4, .ref r1), (3, .ref r0), (2, .ref h2), (1, .ref h0), (0, .ref b)]) hx hb dL_law_1632 hl (by decide) rfl (fun ls hl => ?_)
  refine lv_aload_n hx hb dL_law_1634 rfl (lv_at hl 5 rfl) ?_
  refine kc_ (wc := [(h2, .inr (14, [.ref h3, v18, v19, v20, v21, v22, v23, v24, v25, v26, v27, v28, v29, v30, v31, v32, v33, v34, v35, v36, v37, v38, v39, .int 1, v40]))]) (wr := [(h3, .inl (k3, 8277, .inl (fun _ => 0)))]) (va_runV (As := []) (rest := []) ⟨hx, hb, hml, hown, hts⟩ (c_X11_thrown_1 l hl0 D ad H.size h2 (.ref h3) (v18) (v19) (v20) (v21) (v22) (v23) (v24) (v25) (v26) (v27) (v28) (v29) (v30) (v31) (v32) (v33) (v34) (v35) (v36) (v37) (v38) (v39) (v40)) (cwV 0 hts hL_law_X11_thrown rfl rfl rfl (by decide +kernel) ⟨Nat.le_of_ble_eq_true rfl, Nat.le_of_ble_eq_true rfl⟩) ⟨PC_.blind, va_recv hK hP (ci := 14) (q0 := 0) rfl rfl, PC_.pre hF hK hP hD hS hA [0] [] rfl (by decide) rfl⟩ rfl rfl hl.1 rfl (lv_room (Nat.le_of_ble_eq_true rfl)) dL_law_1635 ⟨Nat.le_of_ble_eq_true rfl, Nat.le_of_ble_eq_true rfl⟩) hK hP hD hS hA [0] [1] [0] rfl rfl (by decide) (by decide) rfl (fun qa_3 ka_3 ia_3 H locs hpo hP hD hK hS => ?_)
  have hP : va_P D vwCl [(h3, .inl (k3, 8277, .inl (fun _ => 0))), (h2, .inr (14, [.ref h3, v18, v19, v20, v21, v22, v23, v24, v25, v26, v27, v28, v29, v30, v31, v32, v33, v34, v35, v36, v37, v38, v39, .int 1, v40]))] H := hP
  have hD : va_D A [(h3, .inl (k3, 8277, .inl (fun _ => 0))), (h2, .inr (14, [.ref h3, v18, v19, v20, v21, v22, v23, v24, v25, v26, v27, v28, v29, v30, v31, v32, v33, v34, v35, v36, v37, v38, v39, .int 1, v40]))] := hD
  have hK : va_K D vwCl [(k3, .int)] s := hK
  refine W.eq (g2 := F0 m 1638 ls [.int 1]) rfl ?_
  refine lv_iload hx hb dL_law_1638 (lv_at hl 1 rfl) ?_
  refine lv_icmp_eq (tgt := 1645) hx hb dL_law_1640 (by decide) (fun _ => ?_) (fun c9 => absurd (by decide +kernel) c9)
  refine lv_iload hx hb dL_law_1645 (lv_at hl 1 rfl) ?_
  refine lv_if_ne (tgt := 1662) hx hb dL_law_1647 (by decide) (fun _ => ?_) (fun c9 => absurd c9 (by decide +kernel))
  refine lv_goto (tgt := 2280) hx hb dL_law_1662 (by decide) ?_
  exact law_tail C0 hAe hS (lv_sub hl [7, 2] rfl) (Nat.le_of_ble_eq_true rfl) (Nat.le_of_ble_eq_true rfl)
set_option maxHeartbeats 4000000 in
set_option maxRecDepth 100000 in
theorem law_case_23 {p : Program} {l : Launch} {e : Env} {s : State} {m : MethodId} {below : List Frame} {meth : Method} {c : Code} {b : Nat} {xs : Nat → Int32} {cells slots : Nat} {H : Heap} {locs : List Loc} {ls : Array Slot} {D : va_G} {ad : Nat → Nat} {A : Nat → Prop} (hl0 : l.stackTraces = false) (C0 : lw_At p s m meth c b 4 xs) (hAe : A = fun q : Nat => s.heap.size ≤ q) (hF : FX_ ad A s s.heap) (hS : va_S A s.heap H locs) (h0 : Nat) (h1 : Nat) (h2 : Nat) (h3 : Nat) (h4 : Nat) (h5 : Nat) (k2 : ClassId) (k3 : ClassId) (k5 : ClassId) (r0 : Nat) (v0 : Value) (v1 : Value) (v2 : Value) (v3 : Value) (v4 : Value) (v5 : Value) (v6 : Value) (v7 : Value) (v8 : Value) (v9 : Value) (v10 : Value) (v11 : Value) (f0 : Nat → Int32) (v12 : Value) (v13 : Value) (v14 : Value) (v15 : Value) (v16 : Value) (v17 : Value) (v18 : Value) (v19 : Value) (v20 : Value) (v21 : Value) (v22 : Value) (v23 : Value) (v24 : Value) (v25 : Value) (v26 : Value) (v27 : Value) (v28 : Value) (v29 : Value) (v30 : Value) (v31 : Value) (v32 : Value) (v33 : Value) (f1 : Nat → Int32) (p1 p2 p3 : Int32) (hp1 : xs 1 = p1) (hp2 : xs 2 = p2) (hp3 : xs 3 = p3) (hP : va_P D vwCl [(h0, .inr (13, [v0, v1, v2, v3, v4, .ref h1, v5, v6, v7, v8])), (h1, .inr (6, [.ref h2, .int 0, v9, v10, v11])), (h2, .inl (k2, 60, .inl f0)), (h3, .inl (k3, 1, .inr (.inl (fun _ => 0)))), (h4, .inr (14, [v12, v13, v14, v15, v16, v17, v18, v19, v20, v21, v22, v23, .ref h5, .int 0, v24, v25, v26, v27, v28, v29, v30, v31, v32, .int 0, v33])), (h5, .inl (k5, 60, .inl f1))] H) (hD : va_D A [(h0, .inr (13, [v0, v1, v2, v3, v4, .ref h1, v5, v6, v7, v8])), (h1, .inr (6, [.ref h2, .int 0, v9, v10, v11])), (h2, .inl (k2, 60, .inl f0)), (h3, .inl (k3, 1, .inr (.inl (fun _ => 0)))), (h4, .inr (14, [v12, v13, v14, v15, v16, v17, v18, v19, v20, v21, v22, v23, .ref h5, .int 0, v24, v25, v26, v27, v28, v29, v30, v31, v32, .int 0, v33])), (h5, .inl (k5, 60, .inl f1))]) (hK : va_K D vwCl [(k2, .char), (k3, .long), (k5, .char)] s) (hl : lv_has ls 9 [(5, .int 0), (4, .ref r0), (3, .ref h3), (2, .ref h4), (1, .ref h0), (0, .ref b)]) (hcc : cells ≤ 2200) (hss : slots ≤ 260000) : W p l e room_1 s m #[Value.ref b] below meth c H locs cells slots (lw_Z below #[Value.ref b] s) (F0 m 1665 ls []) := by
  obtain ⟨hx, hb, hr, hml, hown, hts, hX, hbl, hlocks, hgv⟩ := id C0
  have hA : ∀ q : Nat, s.heap.size ≤ q → A q := fun q h => by rw [hAe]; exact h
  have hbA : ¬ A b := by rw [hAe]; exact Nat.not_le.mpr hbl
  refine W.widen (k := 2200) (n := 260000) hcc hss ?_
  have hi_X10 : ∀ w ∈ wsX100, w ∈ lw_tbl := inX10
  have hi_X11 : ∀ w ∈ wsX110, w ∈ lw_tbl := inX11
  have hi_X3 : ∀ w ∈ wsX30, w ∈ lw_tbl := inX3
  refine lv_aload_n hx hb dL_law_1665 rfl (lv_at hl 4 rfl) ?_
  refine lv_aload_n hx hb dL_law_1666 rfl (lv_at hl 5 rfl) ?_
  refine lv_iload hx hb dL_law_1667 (lv_at hl 0 rfl) ?_
  refine lv_iconst (v := 1) hx hb dL_law_1669 (by decide) ?_
  refine lv_iadd hx hb dL_law_1670 ?_
  refine kt_ (v := 1) (by decide +kernel) ?_
  refine va_sld hx hb hX hbl hbA hS (vin_ (by decide +kernel)) dL_law_1671 ?_
  refine kt_ (v := p1) ((congrArg xs (by decide +kernel)).trans hp1) ?_
  refine lv_i2c (v := (ci_ p1)) hx hb dL_law_1672 rfl ?_
  refine lv_aload_n hx hb dL_law_1673 rfl (lv_at hl 2 rfl) ?_
  refine kc_ (wc := [(h0, .inr (13, [v0, v1, v2, v3, v4, .ref h1, v5, v6, v7, v8])), (h1, .inr (6, [.ref h2, .int 0, v9, v10, v11])), (h2, .inl (k2, 60, .inl f0)), (h3, .inl (k3, 1, .inr (.inl (fun _ => 0))))]) (wr := [(h4, .inr (14, [v12, v13, v14, v15, v16, v17, v18, v19, v20, v21, v22, v23, .ref h5, .int 0, v24, v25, v26, v27, v28, v29, v30, v31, v32, .int 0, v33])), (h5, .inl (k5, 60, .inl f1))]) (vx_runSW (As := [.ref h0, .int (ci_ p1), .ref h3]) (rest := []) ⟨hx, hb, hml, hown, hts⟩ (c_L_append_0 l hl0 D ad H.size h0 h1 h2 h3 k2 k3 (v0) (v1) (v2) (v3) (v4) (v5) (v6) (v7) (v8) (v9) (v10) (v11) f0 (fun _ => 0) p1) (vx_cwSW 3 hts hL_law_L_append rfl rfl rfl (by decide +kernel) ⟨Nat.le_of_ble_eq_true rfl, Nat.le_of_ble_eq_true rfl⟩) ⟨PC_.blind, PC_.pre hF hK hP hD hS hA [0, 1, 2, 3] [0, 1] rfl (by decide) rfl⟩ rfl rfl hl.1 rfl (lv_room (Nat.le_of_ble_eq_true rfl)) dL_law_1674 ⟨Nat.le_of_ble_eq_true rfl, Nat.le_of_ble_eq_true rfl⟩) hK hP hD hS hA [0, 1, 2, 3] [4, 5] [2] rfl rfl (by decide) (by decide) rfl (fun qa_1 ka_1 ia_1 H locs hpo hP hD hK hS => ?_)
  have hP : va_P D vwCl [(h4, .inr (14, [v12, v13, v14, v15, v16, v17, v18, v19, v20, v21, v22, v23, .ref h5, .int 0, v24, v25, v26, v27, v28, v29, v30, v31, v32, .int 0, v33])), (h5, .inl (k5, 60, .inl f1)), (h0, .inr (13, [v0, v1, v2, v3, v4, .ref h1, v5, v6, v7, v8])), (h1, .inr (6, [.ref h2, .int 1, v9, v10, v11])), (h2, .inl (k2, 60, .inl (upd f0 0 (ci_ p1)))), (h3, .inl (k3, 1, .inr (.inl (vp_updL (fun _ => 0) 0 1))))] H := hP
  have hD : va_D A [(h4, .inr (14, [v12, v13, v14, v15, v16, v17, v18, v19, v20, v21, v22, v23, .ref h5, .int 0, v24, v25, v26, v27, v28, v29, v30, v31, v32, .int 0, v33])), (h5, .inl (k5, 60, .inl f1)), (h0, .inr (13, [v0, v1, v2, v3, v4, .ref h1, v5, v6, v7, v8])), (h1, .inr (6, [.ref h2, .int 1, v9, v10, v11])), (h2, .inl (k2, 60, .inl (upd f0 0 (ci_ p1)))), (h3, .inl (k3, 1, .inr (.inl (vp_updL (fun _ => 0) 0 1))))] := hD
  have hK : va_K D vwCl [(k5, .char), (k2, .char), (k3, .long)] s := hK
  refine W.eq (g2 := F0 m 1677 ls [.int 0]) rfl ?_
  refine lv_istore (lv' := [(6, .int 0), (5, .int 0), (4, .ref r0), (3, .ref h3), (2, .ref h4), (1, .ref h0), (0, .ref b)]) hx hb dL_law_1677 hl (by decide) rfl (fun ls hl => ?_)
  refine lv_aload_n hx hb dL_law_1679 rfl (lv_at hl 4 rfl) ?_
  refine lv_aload_n hx hb dL_law_1680 rfl (lv_at hl 6 rfl) ?_
  refine lv_iload hx hb dL_law_1681 (lv_at hl 1 rfl) ?_
  refine lv_iconst (v := 1) hx hb dL_law_1683 (by decide) ?_
  refine lv_iadd hx hb dL_law_1684 ?_
  refine kt_ (v := 1) (by decide +kernel) ?_
  refine va_sld hx hb hX hbl hbA hS (vin_ (by decide +kernel)) dL_law_1685 ?_
  refine kt_ (v := p1) ((congrArg xs (by decide +kernel)).trans hp1) ?_
  refine lv_i2c (v := (ci_ p1)) hx hb dL_law_1686 rfl ?_
  refine kc_ (wc := [(h4, .inr (14, [v12, v13, v14, v15, v16, v17, v18, v19, v20, v21, v22, v23, .ref h5, .int 0, v24, v25, v26, v27, v28, v29, v30, v31, v32, .int 0, v33])), (h5, .inl (k5, 60, .inl f1))]) (wr := [(h0, .inr (13, [v0, v1, v2, v3, v4, .ref h1, v5, v6, v7, v8])), (h1, .inr (6, [.ref h2, .int 1, v9, v10, v11])), (h2, .inl (k2, 60, .inl (upd f0 0 (ci_ p1)))), (h3, .inl (k3, 1, .inr (.inl (vp_updL (fun _ => 0) 0 1))))]) (va_runV (As := [.int (ci_ p1)]) (rest := []) ⟨hx, hb, hml, hown, hts⟩ (c_X11_append_0 l hl0 D ad H.size h4 h5 k5 (v12) (v13) (v14) (v15) (v16) (v17) (v18) (v19) (v20) (v21) (v22) (v23) (v24) (v25) (v26) (v27) (v28) (v29) (v30) (v31) (v32) (.int 0) (v33) f1 p1) (cwV 1 hts hL_law_X11_append rfl rfl rfl (by decide +kernel) ⟨Nat.le_of_ble_eq_true rfl, Nat.le_of_ble_eq_true rfl⟩) ⟨PC_.blind, va_recv hK hP (ci := 14) (q0 := 0) rfl rfl, PC_.pre hF hK hP hD hS hA [0, 1] [0] rfl (by decide) rfl⟩ rfl rfl hl.1 rfl (lv_room (Nat.le_of_ble_eq_true rfl)) dL_law_1687 ⟨Nat.le_of_ble_eq_true rfl, Nat.le_of_ble_eq_true rfl⟩) hK hP hD hS hA [0, 1] [2, 3, 4, 5] [1, 2] rfl rfl (by decide) (by decide) rfl (fun qa_2 ka_2 ia_2 H locs hpo hP hD hK hS => ?_)
  have hP : va_P D vwCl [(h0, .inr (13, [v0, v1, v2, v3, v4, .ref h1, v5, v6, v7, v8])), (h1, .inr (6, [.ref h2, .int 1, v9, v10, v11])), (h2, .inl (k2, 60, .inl (upd f0 0 (ci_ p1)))), (h3, .inl (k3, 1, .inr (.inl (vp_updL (fun _ => 0) 0 1)))), (h4, .inr (14, [v12, v13, v14, v15, v16, v17, v18, v19, v20, v21, v22, v23, .ref h5, .int 1, v24, v25, v26, v27, v28, v29, v30, v31, v32, .int 0, v33])), (h5, .inl (k5, 60, .inl (upd f1 0 (ci_ p1))))] H := hP
  have hD : va_D A [(h0, .inr (13, [v0, v1, v2, v3, v4, .ref h1, v5, v6, v7, v8])), (h1, .inr (6, [.ref h2, .int 1, v9, v10, v11])), (h2, .inl (k2, 60, .inl (upd f0 0 (ci_ p1)))), (h3, .inl (k3, 1, .inr (.inl (vp_updL (fun _ => 0) 0 1)))), (h4, .inr (14, [v12, v13, v14, v15, v16, v17, v18, v19, v20, v21, v22, v23, .ref h5, .int 1, v24, v25, v26, v27, v28, v29, v30, v31, v32, .int 0, v33])), (h5, .inl (k5, 60, .inl (upd f1 0 (ci_ p1))))] := hD
  have hK : va_K D vwCl [(k2, .char), (k3, .long), (k5, .char)] s := hK
  refine W.eq (g2 := F0 m 1690 ls [.int 1]) rfl ?_
  refine lv_istore (lv' := [(7, .int 1), (6, .int 0), (5, .int 0), (4, .ref r0), (3, .ref h3), (2, .ref h4), (1, .ref h0), (0, .ref b)]) hx hb dL_law_1690 hl (by decide) rfl (fun ls hl => ?_)
  refine lv_aload_n hx hb dL_law_1692 rfl (lv_at hl 5 rfl) ?_
  refine kc_ (wc := [(h4, .inr (14, [v12, v13, v14, v15, v16, v17, v18, v19, v20, v21, v22, v23, .ref h5, .int 1, v24, v25, v26, v27, v28, v29, v30, v31, v32, .int 0, v33]))]) (wr := [(h0, .inr (13, [v0, v1, v2, v3, v4, .ref h1, v5, v6, v7, v8])), (h1, .inr (6, [.ref h2, .int 1, v9, v10, v11])), (h2, .inl (k2, 60, .inl (upd f0 0 (ci_ p1)))), (h3, .inl (k3, 1, .inr (.inl (vp_updL (fun _ => 0) 0 1)))), (h5, .inl (k5, 60, .inl (upd f1 0 (ci_ p1))))]) (va_runV (As := []) (rest := []) ⟨hx, hb, hml, hown, hts⟩ (c_X11_thrown_0 l hl0 D ad H.size h4 (v12) (v13) (v14) (v15) (v16) (v17) (v18) (v19) (v20) (v21) (v22) (v23) (.ref h5) (.int 1) (v24) (v25) (v26) (v27) (v28) (v29) (v30) (v31) (v32) (v33)) (cwV 0 hts hL_law_X11_thrown rfl rfl rfl (by decide +kernel) ⟨Nat.le_of_ble_eq_true rfl, Nat.le_of_ble_eq_true rfl⟩) ⟨PC_.blind, va_recv hK hP (ci := 14) (q0 := 4) rfl rfl, PC_.pre hF hK hP hD hS hA [4] [] rfl (by decide) rfl⟩ rfl rfl hl.1 rfl (lv_room (Nat.le_of_ble_eq_true rfl)) dL_law_1693 ⟨Nat.le_of_ble_eq_true rfl, Nat.le_of_ble_eq_true rfl⟩) hK hP hD hS hA [4] [0, 1, 2, 3, 5] [0, 1, 2] rfl rfl (by decide) (by decide) rfl (fun qa_3 ka_3 ia_3 H locs hpo hP hD hK hS => ?_)
  have hP : va_P D vwCl [(h0, .inr (13, [v0, v1, v2, v3, v4, .ref h1, v5, v6, v7, v8])), (h1, .inr (6, [.ref h2, .int 1, v9, v10, v11])), (h2, .inl (k2, 60, .inl (upd f0 0 (ci_ p1)))), (h3, .inl (k3, 1, .inr (.inl (vp_updL (fun _ => 0) 0 1)))), (h5, .inl (k5, 60, .inl (upd f1 0 (ci_ p1)))), (h4, .inr (14, [v12, v13, v14, v15, v16, v17, v18, v19, v20, v21, v22, v23, .ref h5, .int 1, v24, v25, v26, v27, v28, v29, v30, v31, v32, .int 0, v33]))] H := hP
  have hD : va_D A [(h0, .inr (13, [v0, v1, v2, v3, v4, .ref h1, v5, v6, v7, v8])), (h1, .inr (6, [.ref h2, .int 1, v9, v10, v11])), (h2, .inl (k2, 60, .inl (upd f0 0 (ci_ p1)))), (h3, .inl (k3, 1, .inr (.inl (vp_updL (fun _ => 0) 0 1)))), (h5, .inl (k5, 60, .inl (upd f1 0 (ci_ p1)))), (h4, .inr (14, [v12, v13, v14, v15, v16, v17, v18, v19, v20, v21, v22, v23, .ref h5, .int 1, v24, v25, v26, v27, v28, v29, v30, v31, v32, .int 0, v33]))] := hD
  have hK : va_K D vwCl [(k2, .char), (k3, .long), (k5, .char)] s := hK
  refine W.eq (g2 := F0 m 1696 ls [.int 0]) rfl ?_
  refine lv_iload hx hb dL_law_1696 (lv_at hl 1 rfl) ?_
  refine lv_icmp_eq (tgt := 1703) hx hb dL_law_1698 (by decide) (fun _ => ?_) (fun c9 => absurd (by decide +kernel) c9)
  refine lv_iload hx hb dL_law_1703 (lv_at hl 1 rfl) ?_
  refine lv_if_ne (tgt := 1720) hx hb dL_law_1705 (by decide) (fun c9 => absurd (by decide +kernel) c9) (fun _ => ?_)
  refine lv_aload_n hx hb dL_law_1708 rfl (lv_at hl 4 rfl) ?_
  refine lv_iconst (v := 0) hx hb dL_law_1709 (by decide) ?_
  refine va_lald hx hb hK hP 3 1 rfl rfl (vin_ (by decide +kernel)) dL_law_1710 ?_
  refine ktl_ (v := 1) (by decide +kernel) ?_
  refine lv_iload hx hb dL_law_1711 (lv_at hl 0 rfl) ?_
  refine lv_i2l (v := 1) hx hb dL_law_1713 (by decide +kernel) ?_
  refine W.lcmp hx hb dL_law_1714 ?_
  refine kt_ (v := 0) (by decide +kernel) ?_
  refine lv_if_eq (tgt := 1720) hx hb dL_law_1715 (by decide) (fun _ => ?_) (fun c9 => absurd (by decide +kernel) c9)
  refine lv_goto (tgt := 2280) hx hb dL_law_1720 (by decide) ?_
  exact law_tail C0 hAe hS (lv_sub hl [7, 2] rfl) (Nat.le_of_ble_eq_true rfl) (Nat.le_of_ble_eq_true rfl)
set_option maxHeartbeats 4000000 in
set_option maxRecDepth 100000 in
theorem law_case_24 {p : Program} {l : Launch} {e : Env} {s : State} {m : MethodId} {below : List Frame} {meth : Method} {c : Code} {b : Nat} {xs : Nat → Int32} {cells slots : Nat} {H : Heap} {locs : List Loc} {ls : Array Slot} {D : va_G} {ad : Nat → Nat} {A : Nat → Prop} (hl0 : l.stackTraces = false) (C0 : lw_At p s m meth c b 4 xs) (hAe : A = fun q : Nat => s.heap.size ≤ q) (hF : FX_ ad A s s.heap) (hS : va_S A s.heap H locs) (h0 : Nat) (h1 : Nat) (h2 : Nat) (h3 : Nat) (h4 : Nat) (k3 : ClassId) (k4 : ClassId) (r0 : Nat) (r1 : Nat) (v0 : Value) (v1 : Value) (v2 : Value) (v3 : Value) (v4 : Value) (v5 : Value) (v6 : Value) (v7 : Value) (v8 : Value) (v9 : Value) (v10 : Value) (v11 : Value) (v12 : Value) (v13 : Value) (v14 : Value) (v15 : Value) (v16 : Value) (v17 : Value) (v18 : Value) (v19 : Value) (v20 : Value) (v21 : Value) (v22 : Value) (v23 : Value) (v24 : Value) (v25 : Value) (v26 : Value) (v27 : Value) (v28 : Value) (v29 : Value) (p1 p2 p3 : Int32) (hp1 : xs 1 = p1) (hp2 : xs 2 = p2) (hp3 : xs 3 = p3) (hP : va_P D vwCl [(h0, .inr (13, [v0, v1, v2, v3, v4, .ref h1, v5, v6, .int (-1), v7])), (h1, .inr (6, [v8, .int 0, .int 0, v9, v10])), (h2, .inr (14, [.ref h3, .ref h4, v11, v12, v13, v14, v15, v16, .int 0, v17, v18, v19, v20, .int 0, .int 0, v21, v22, v23, v24, v25, v26, v27, v28, .int 0, v29])), (h3, .inl (k3, 8277, .inl (fun _ => 0))), (h4, .inl (k4, 8277, .inl (fun _ => 0)))] H) (hD : va_D A [(h0, .inr (13, [v0, v1, v2, v3, v4, .ref h1, v5, v6, .int (-1), v7])), (h1, .inr (6, [v8, .int 0, .int 0, v9, v10])), (h2, .inr (14, [.ref h3, .ref h4, v11, v12, v13, v14, v15, v16, .int 0, v17, v18, v19, v20, .int 0, .int 0, v21, v22, v23, v24, v25, v26, v27, v28, .int 0, v29])), (h3, .inl (k3, 8277, .inl (fun _ => 0))), (h4, .inl (k4, 8277, .inl (fun _ => 0)))]) (hK : va_K D vwCl [(k3, .int), (k4, .int)] s) (hl : lv_has ls 9 [(5, .int 0), (4, .ref r1), (3, .ref r0), (2, .ref h2), (1, .ref h0), (0, .ref b)]) (hcc : cells ≤ 2200) (hss : slots ≤ 260000) : W p l e room_1 s m #[Value.ref b] below meth c H locs cells slots (lw_Z below #[Value.ref b] s) (F0 m 1723 ls []) := by
  obtain ⟨hx, hb, hr, hml, hown, hts, hX, hbl, hlocks, hgv⟩ := id C0
  have hA : ∀ q : Nat, s.heap.size ≤ q → A q := fun q h => by rw [hAe]; exact h
  have hbA : ¬ A b := by rw [hAe]; exact Nat.not_le.mpr hbl
  refine W.widen (k := 2200) (n := 260000) hcc hss ?_
  have hi_X10 : ∀ w ∈ wsX100, w ∈ lw_tbl := inX10
  have hi_X11 : ∀ w ∈ wsX110, w ∈ lw_tbl := inX11
  have hi_X3 : ∀ w ∈ wsX30, w ∈ lw_tbl := inX3
  refine lv_aload_n hx hb dL_law_1723 rfl (lv_at hl 4 rfl) ?_
  refine lv_aload_n hx hb dL_law_1724 rfl (lv_at hl 2 rfl) ?_
  refine kc_ (wc := [(h0, .inr (13, [v0, v1, v2, v3, v4, .ref h1, v5, v6, .int (-1), v7])), (h1, .inr (6, [v8, .int 0, .int 0, v9, v10]))]) (wr := [(h2, .inr (14, [.ref h3, .ref h4, v11, v12, v13, v14, v15, v16, .int 0, v17, v18, v19, v20, .int 0, .int 0, v21, v22, v23, v24, v25, v26, v27, v28, .int 0, v29])), (h3, .inl (k3, 8277, .inl (fun _ => 0))), (h4, .inl (k4, 8277, .inl (fun _ => 0)))]) (vx_runSW (As := [.ref h0, .ref r0]) (rest := []) ⟨hx, hb, hml, hown, hts⟩ (c_L_commands_0 l hl0 D ad H.size h0 h1 r0 (v0) (v1) (v2) (v3) (v4) (v5) (v6) (v7) (v8) (v9) (v10)) (vx_cwSW 2 hts hL_law_L_commands rfl rfl rfl (by decide +kernel) ⟨Nat.le_of_ble_eq_true rfl, Nat.le_of_ble_eq_true rfl⟩) ⟨PC_.blind, PC_.pre hF hK hP hD hS hA [0, 1] [] rfl (by decide) rfl⟩ rfl rfl hl.1 rfl (lv_room (Nat.le_of_ble_eq_true rfl)) dL_law_1725 ⟨Nat.le_of_ble_eq_true rfl, Nat.le_of_ble_eq_true rfl⟩) hK hP hD hS hA [0, 1] [2, 3, 4] [0, 1] rfl rfl (by decide) (by decide) rfl (fun qa_1 ka_1 ia_1 H locs hpo hP hD hK hS => ?_)
  have hP : va_P D vwCl [(h2, .inr (14, [.ref h3, .ref h4, v11, v12, v13, v14, v15, v16, .int 0, v17, v18, v19, v20, .int 0, .int 0, v21, v22, v23, v24, v25, v26, v27, v28, .int 0, v29])), (h3, .inl (k3, 8277, .inl (fun _ => 0))), (h4, .inl (k4, 8277, .inl (fun _ => 0)))] H := hP
  have hD : va_D A [(h2, .inr (14, [.ref h3, .ref h4, v11, v12, v13, v14, v15, v16, .int 0, v17, v18, v19, v20, .int 0, .int 0, v21, v22, v23, v24, v25, v26, v27, v28, .int 0, v29])), (h3, .inl (k3, 8277, .inl (fun _ => 0))), (h4, .inl (k4, 8277, .inl (fun _ => 0)))] := hD
  have hK : va_K D vwCl [(k3, .int), (k4, .int)] s := hK
  refine W.eq (g2 := F0 m 1728 ls [.int 1]) rfl ?_
  refine lv_istore (lv' := [(6, .int 1), (5, .int 0), (4, .ref r1), (3, .ref r0), (2, .ref h2), (1, .ref h0), (0, .ref b)]) hx hb dL_law_1728 hl (by decide) rfl (fun ls hl => ?_)
  refine lv_aload_n hx hb dL_law_1730 rfl (lv_at hl 4 rfl) ?_
  refine kc_ (wc := [(h2, .inr (14, [.ref h3, .ref h4, v11, v12, v13, v14, v15, v16, .int 0, v17, v18, v19, v20, .int 0, .int 0, v21, v22, v23, v24, v25, v26, v27, v28, .int 0, v29])), (h3, .inl (k3, 8277, .inl (fun _ => 0))), (h4, .inl (k4, 8277, .inl (fun _ => 0)))]) (wr := []) (va_runV (As := []) (rest := []) ⟨hx, hb, hml, hown, hts⟩ (c_X11_commands_0 l hl0 D ad H.size h2 h3 h4 k3 k4 (v11) (v12) (v13) (v14) (v15) (v16) (v17) (v18) (v19) (v20) (v21) (v22) (v23) (v24) (v25) (v26) (v27) (v28) (.int 0) (v29)) (cwV 0 hts hL_law_X11_commands rfl rfl rfl (by decide +kernel) ⟨Nat.le_of_ble_eq_true rfl, Nat.le_of_ble_eq_true rfl⟩) ⟨PC_.blind, va_recv hK hP (ci := 14) (q0 := 0) rfl rfl, PC_.pre hF hK hP hD hS hA [0, 1, 2] [0, 1] rfl (by decide) rfl⟩ rfl rfl hl.1 rfl (lv_room (Nat.le_of_ble_eq_true rfl)) dL_law_1731 ⟨Nat.le_of_ble_eq_true rfl, Nat.le_of_ble_eq_true rfl⟩) hK hP hD hS hA [0, 1, 2] [] [] rfl rfl (by decide) (by decide) rfl (fun qa_2 ka_2 ia_2 H locs hpo hP hD hK hS => ?_)
  have hP : va_P D vwCl [(h2, .inr (14, [.ref h3, .ref h4, v11, v12, v13, v14, v15, v16, .int 0, .int 0, v18, v19, v20, .int 0, .int 0, v21, v22, .int 0, v24, v25, v26, v27, v28, .int 1, v29])), (h3, .inl (k3, 8277, .inl (fun _ => 0))), (h4, .inl (k4, 8277, .inl (fun _ => 0)))] H := hP
  have hD : va_D A [(h2, .inr (14, [.ref h3, .ref h4, v11, v12, v13, v14, v15, v16, .int 0, .int 0, v18, v19, v20, .int 0, .int 0, v21, v22, .int 0, v24, v25, v26, v27, v28, .int 1, v29])), (h3, .inl (k3, 8277, .inl (fun _ => 0))), (h4, .inl (k4, 8277, .inl (fun _ => 0)))] := hD
  have hK : va_K D vwCl [(k3, .int), (k4, .int)] s := hK
  refine W.eq (g2 := F0 m 1734 ls [.int 0]) rfl ?_
  refine lv_istore (lv' := [(7, .int 0), (6, .int 1), (5, .int 0), (4, .ref r1), (3, .ref r0), (2, .ref h2), (1, .ref h0), (0, .ref b)]) hx hb dL_law_1734 hl (by decide) rfl (fun ls hl => ?_)
  refine lv_aload_n hx hb dL_law_1736 rfl (lv_at hl 5 rfl) ?_
  refine kc_ (wc := [(h2, .inr (14, [.ref h3, .ref h4, v11, v12, v13, v14, v15, v16, .int 0, .int 0, v18, v19, v20, .int 0, .int 0, v21, v22, .int 0, v24, v25, v26, v27, v28, .int 1, v29]))]) (wr := [(h3, .inl (k3, 8277, .inl (fun _ => 0))), (h4, .inl (k4, 8277, .inl (fun _ => 0)))]) (va_runV (As := []) (rest := []) ⟨hx, hb, hml, hown, hts⟩ (c_X11_thrown_1 l hl0 D ad H.size h2 (.ref h3) (.ref h4) (v11) (v12) (v13) (v14) (v15) (v16) (.int 0) (.int 0) (v18) (v19) (v20) (.int 0) (.int 0) (v21) (v22) (.int 0) (v24) (v25) (v26) (v27) (v28) (v29)) (cwV 0 hts hL_law_X11_thrown rfl rfl rfl (by decide +kernel) ⟨Nat.le_of_ble_eq_true rfl, Nat.le_of_ble_eq_true rfl⟩) ⟨PC_.blind, va_recv hK hP (ci := 14) (q0 := 0) rfl rfl, PC_.pre hF hK hP hD hS hA [0] [] rfl (by decide) rfl⟩ rfl rfl hl.1 rfl (lv_room (Nat.le_of_ble_eq_true rfl)) dL_law_1737 ⟨Nat.le_of_ble_eq_true rfl, Nat.le_of_ble_eq_true rfl⟩) hK hP hD hS hA [0] [1, 2] [0, 1] rfl rfl (by decide) (by decide) rfl (fun qa_3 ka_3 ia_3 H locs hpo hP hD hK hS => ?_)
  have hP : va_P D vwCl [(h3, .inl (k3, 8277, .inl (fun _ => 0))), (h4, .inl (k4, 8277, .inl (fun _ => 0))), (h2, .inr (14, [.ref h3, .ref h4, v11, v12, v13, v14, v15, v16, .int 0, .int 0, v18, v19, v20, .int 0, .int 0, v21, v22, .int 0, v24, v25, v26, v27, v28, .int 1, v29]))] H := hP
  have hD : va_D A [(h3, .inl (k3, 8277, .inl (fun _ => 0))), (h4, .inl (k4, 8277, .inl (fun _ => 0))), (h2, .inr (14, [.ref h3, .ref h4, v11, v12, v13, v14, v15, v16, .int 0, .int 0, v18, v19, v20, .int 0, .int 0, v21, v22, .int 0, v24, v25, v26, v27, v28, .int 1, v29]))] := hD
  have hK : va_K D vwCl [(k3, .int), (k4, .int)] s := hK
  refine W.eq (g2 := F0 m 1740 ls [.int 1]) rfl ?_
  refine lv_iload hx hb dL_law_1740 (lv_at hl 1 rfl) ?_
  refine lv_icmp_eq (tgt := 1747) hx hb dL_law_1742 (by decide) (fun _ => ?_) (fun c9 => absurd (by decide +kernel) c9)
  refine lv_iload hx hb dL_law_1747 (lv_at hl 1 rfl) ?_
  refine lv_if_ne (tgt := 1764) hx hb dL_law_1749 (by decide) (fun _ => ?_) (fun c9 => absurd c9 (by decide +kernel))
  refine lv_goto (tgt := 2280) hx hb dL_law_1764 (by decide) ?_
  exact law_tail C0 hAe hS (lv_sub hl [7, 2] rfl) (Nat.le_of_ble_eq_true rfl) (Nat.le_of_ble_eq_true rfl)
set_option maxHeartbeats 4000000 in
set_option maxRecDepth 100000 in
theorem law_case_25 {p : Program} {l : Launch} {e : Env} {s : State} {m : MethodId} {below : List Frame} {meth : Method} {c : Code} {b : Nat} {xs : Nat → Int32} {cells slots : Nat} {H : Heap} {locs : List Loc} {ls : Array Slot} {D : va_G} {ad : Nat → Nat} {A : Nat → Prop} (hl0 : l.stackTraces = false) (C0 : lw_At p s m meth c b 4 xs) (hAe : A = fun q : Nat => s.heap.size ≤ q) (hF : FX_ ad A s s.heap) (hS : va_S A s.heap H locs) (h0 : Nat) (h1 : Nat) (r0 : Nat) (r1 : Nat) (v0 : Value) (v1 : Value) (v2 : Value) (v3 : Value) (v4 : Value) (v5 : Value) (v6 : Value) (v7 : Value) (v8 : Value) (v9 : Value) (v10 : Value) (v11 : Value) (v12 : Value) (v13 : Value) (v14 : Value) (v15 : Value) (v16 : Value) (v17 : Value) (v18 : Value) (v19 : Value) (v20 : Value) (v21 : Value) (v22 : Value) (v23 : Value) (v24 : Value) (v25 : Value) (v26 : Value) (v27 : Value) (v28 : Value) (v29 : Value) (v30 : Value) (v31 : Value) (v32 : Value) (p1 p2 p3 : Int32) (hp1 : xs 1 = p1) (hp2 : xs 2 = p2) (hp3 : xs 3 = p3) (hP : va_P D vwCl [(h0, .inr (13, [v0, v1, v2, v3, v4, v5, v6, v7, .int (-1), v8])), (h1, .inr (14, [v9, v10, v11, v12, v13, v14, v15, v16, v17, v18, v19, v20, v21, v22, v23, v24, v25, .int (-1), v26, v27, v28, v29, v30, v31, v32]))] H) (hD : va_D A [(h0, .inr (13, [v0, v1, v2, v3, v4, v5, v6, v7, .int (-1), v8])), (h1, .inr (14, [v9, v10, v11, v12, v13, v14, v15, v16, v17, v18, v19, v20, v21, v22, v23, v24, v25, .int (-1), v26, v27, v28, v29, v30, v31, v32]))]) (hK : va_K D vwCl [] s) (hl : lv_has ls 9 [(5, .int 0), (4, .ref r1), (3, .ref r0), (2, .ref h1), (1, .ref h0), (0, .ref b)]) (hcc : cells ≤ 2200) (hss : slots ≤ 260000) : W p l e room_1 s m #[Value.ref b] below meth c H locs cells slots (lw_Z below #[Value.ref b] s) (F0 m 1767 ls []) := by
  obtain ⟨hx, hb, hr, hml, hown, hts, hX, hbl, hlocks, hgv⟩ := id C0
  have hA : ∀ q : Nat, s.heap.size ≤ q → A q := fun q h => by rw [hAe]; exact h
  have hbA : ¬ A b := by rw [hAe]; exact Nat.not_le.mpr hbl
  refine W.widen (k := 2200) (n := 260000) hcc hss ?_
  have hi_X10 : ∀ w ∈ wsX100, w ∈ lw_tbl := inX10
  have hi_X11 : ∀ w ∈ wsX110, w ∈ lw_tbl := inX11
  refine lv_aload_n hx hb dL_law_1767 rfl (lv_at hl 4 rfl) ?_
  refine kc_ (wc := [(h0, .inr (13, [v0, v1, v2, v3, v4, v5, v6, v7, .int (-1), v8]))]) (wr := [(h1, .inr (14, [v9, v10, v11, v12, v13, v14, v15, v16, v17, v18, v19, v20, v21, v22, v23, v24, v25, .int (-1), v26, v27, v28, v29, v30, v31, v32]))]) (va_runV (As := []) (rest := []) ⟨hx, hb, hml, hown, hts⟩ (c_X10_faultPosition_0 l hl0 D ad H.size h0 (v0) (v1) (v2) (v3) (v4) (v5) (v6) (v7) (v8)) (cwV 0 hts hL_law_X10_faultPosition rfl rfl rfl (by decide +kernel) ⟨Nat.le_of_ble_eq_true rfl, Nat.le_of_ble_eq_true rfl⟩) ⟨PC_.blind, va_recv hK hP (ci := 13) (q0 := 0) rfl rfl, PC_.pre hF hK hP hD hS hA [0] [] rfl (by decide) rfl⟩ rfl rfl hl.1 rfl (lv_room (Nat.le_of_ble_eq_true rfl)) dL_law_1768 ⟨Nat.le_of_ble_eq_true rfl, Nat.le_of_ble_eq_true rfl⟩) hK hP hD hS hA [0] [1] [] rfl rfl (by decide) (by decide) rfl (fun qa_1 ka_1 ia_1 H locs hpo hP hD hK hS => ?_)
  have hP : va_P D vwCl [(h1, .inr (14, [v9, v10, v11, v12, v13, v14, v15, v16, v17, v18, v19, v20, v21, v22, v23, v24, v25, .int (-1), v26, v27, v28, v29, v30, v31, v32])), (h0, .inr (13, [v0, v1, v2, v3, v4, v5, v6, v7, .int (-1), v8]))] H := hP
  have hD : va_D A [(h1, .inr (14, [v9, v10, v11, v12, v13, v14, v15, v16, v17, v18, v19, v20, v21, v22, v23, v24, v25, .int (-1), v26, v27, v28, v29, v30, v31, v32])), (h0, .inr (13, [v0, v1, v2, v3, v4, v5, v6, v7, .int (-1), v8]))] := hD
  have hK : va_K D vwCl [] s := hK
  refine W.eq (g2 := F0 m 1771 ls [.int (-1)]) rfl ?_
  refine lv_aload_n hx hb dL_law_1771 rfl (lv_at hl 3 rfl) ?_
  refine kc_ (wc := [(h1, .inr (14, [v9, v10, v11, v12, v13, v14, v15, v16, v17, v18, v19, v20, v21, v22, v23, v24, v25, .int (-1), v26, v27, v28, v29, v30, v31, v32]))]) (wr := [(h0, .inr (13, [v0, v1, v2, v3, v4, v5, v6, v7, .int (-1), v8]))]) (va_runV (As := []) (rest := [.int (-1)]) ⟨hx, hb, hml, hown, hts⟩ (c_X11_faultPosition_0 l hl0 D ad H.size h1 (v9) (v10) (v11) (v12) (v13) (v14) (v15) (v16) (v17) (v18) (v19) (v20) (v21) (v22) (v23) (v24) (v25) (v26) (v27) (v28) (v29) (v30) (v31) (v32)) (cwV 0 hts hL_law_X11_faultPosition rfl rfl rfl (by decide +kernel) ⟨Nat.le_of_ble_eq_true rfl, Nat.le_of_ble_eq_true rfl⟩) ⟨PC_.blind, va_recv hK hP (ci := 14) (q0 := 0) rfl rfl, PC_.pre hF hK hP hD hS hA [0] [] rfl (by decide) rfl⟩ rfl rfl hl.1 rfl (lv_room (Nat.le_of_ble_eq_true rfl)) dL_law_1772 ⟨Nat.le_of_ble_eq_true rfl, Nat.le_of_ble_eq_true rfl⟩) hK hP hD hS hA [0] [1] [] rfl rfl (by decide) (by decide) rfl (fun qa_2 ka_2 ia_2 H locs hpo hP hD hK hS => ?_)
  have hP : va_P D vwCl [(h0, .inr (13, [v0, v1, v2, v3, v4, v5, v6, v7, .int (-1), v8])), (h1, .inr (14, [v9, v10, v11, v12, v13, v14, v15, v16, v17, v18, v19, v20, v21, v22, v23, v24, v25, .int (-1), v26, v27, v28, v29, v30, .int 0, v32]))] H := hP
  have hD : va_D A [(h0, .inr (13, [v0, v1, v2, v3, v4, v5, v6, v7, .int (-1), v8])), (h1, .inr (14, [v9, v10, v11, v12, v13, v14, v15, v16, v17, v18, v19, v20, v21, v22, v23, v24, v25, .int (-1), v26, v27, v28, v29, v30, .int 0, v32]))] := hD
  have hK : va_K D vwCl [] s := hK
  refine W.eq (g2 := F0 m 1775 ls [.int (-1), .int (-1)]) rfl ?_
  refine lv_icmp_eq (tgt := 2280) hx hb dL_law_1775 (by decide) (fun _ => ?_) (fun c9 => absurd (by decide +kernel) c9)
  refine lv_iinc (v := 4) (lv' := [(5, .int 4), (4, .ref r1), (3, .ref r0), (2, .ref h1), (1, .ref h0), (0, .ref b)]) hx hb dL_law_2280 hl (k := 0) rfl (by decide +kernel) (by decide) rfl (fun ls hl => ?_)
  refine lv_goto (tgt := 28) hx hb dL_law_2283 (by decide) ?_
  refine lv_iload hx hb dL_law_28 (lv_at hl 0 rfl) ?_
  refine lv_aload_n hx hb dL_law_30 rfl (lv_at hl 5 rfl) ?_
  refine va_slen hx hb hX hbl hbA hS dL_law_31 ?_
  refine kt_ (v := 4) (by decide +kernel) ?_
  refine lv_iconst (v := 4) hx hb dL_law_32 (by decide) ?_
  refine lv_isub hx hb dL_law_33 ?_
  refine kt_ (v := 0) (by decide +kernel) ?_
  refine lv_icmp_gt (tgt := 2286) hx hb dL_law_34 (by decide) (fun _ => ?_) (fun c9 => absurd (by decide +kernel) c9)
  refine lv_iconst (v := 1) hx hb dL_law_2286 (by decide) ?_
set_option maxHeartbeats 4000000 in
set_option maxRecDepth 100000 in
theorem law_case_26 {p : Program} {l : Launch} {e : Env} {s : State} {m : MethodId} {below : List Frame} {meth : Method} {c : Code} {b : Nat} {xs : Nat → Int32} {cells slots : Nat} {H : Heap} {locs : List Loc} {ls : Array Slot} {D : va_G} {ad : Nat → Nat} {A : Nat → Prop} (hl0 : l.stackTraces = false) (C0 : lw_At p s m meth c b 4 xs) (hAe : A = fun q : Nat => s.heap.size ≤ q) (hF : FX_ ad A s s.heap) (hS : va_S A s.heap H locs) (h0 : Nat) (h1 : Nat) (r0 : Nat) (r1 : Nat) (v0 : Value) (v1 : Value) (v2 : Value) (v3 : Value) (v4 : Value) (v5 : Value) (v6 : Value) (v7 : Value) (v8 : Value) (v9 : Value) (v10 : Value) (v11 : Value) (v12 : Value) (v13 : Value) (v14 : Value) (v15 : Value) (v16 : Value) (v17 : Value) (v18 : Value) (v19 : Value) (v20 : Value) (v21 : Value) (v22 : Value) (v23 : Value) (v24 : Value) (v25 : Value) (v26 : Value) (v27 : Value) (v28 : Value) (v29 : Value) (v30 : Value) (p1 p2 p3 : Int32) (hp1 : xs 1 = p1) (hp2 : xs 2 = p2) (hp3 : xs 3 = p3) (hP : va_P D vwCl [(h0, .inr (13, [v0, v1, v2, v3, v4, v5, v6, v7, v8, .null])), (h1, .inr (14, [v9, v10, v11, v12, v13, v14, v15, v16, v17, v18, v19, v20, v21, v22, v23, v24, v25, v26, .int 0, v27, .int 0, v28, v29, .int 0, v30]))] H) (hD : va_D A [(h0, .inr (13, [v0, v1, v2, v3, v4, v5, v6, v7, v8, .null])), (h1, .inr (14, [v9, v10, v11, v12, v13, v14, v15, v16, v17, v18, v19, v20, v21, v22, v23, v24, v25, v26, .int 0, v27, .int 0, v28, v29, .int 0, v30]))]) (hK : va_K D vwCl [] s) (hl : lv_has ls 9 [(5, .int 0), (4, .ref r1), (3, .ref r0), (2, .ref h1), (1, .ref h0), (0, .ref b)]) (hcc : cells ≤ 2200) (hss : slots ≤ 260000) : W p l e room_1 s m #[Value.ref b] below meth c H locs cells slots (lw_Z below #[Value.ref b] s) (F0 m 1780 ls []) := by
  obtain ⟨hx, hb, hr, hml, hown, hts, hX, hbl, hlocks, hgv⟩ := id C0
  have hA : ∀ q : Nat, s.heap.size ≤ q → A q := fun q h => by rw [hAe]; exact h
  have hbA : ¬ A b := by rw [hAe]; exact Nat.not_le.mpr hbl
  refine W.widen (k := 2200) (n := 260000) hcc hss ?_
  have hi_X10 : ∀ w ∈ wsX100, w ∈ lw_tbl := inX10
  have hi_X11 : ∀ w ∈ wsX110, w ∈ lw_tbl := inX11
  refine lv_aload_n hx hb dL_law_1780 rfl (lv_at hl 4 rfl) ?_
  refine lv_aload_n hx hb dL_law_1781 rfl (lv_at hl 5 rfl) ?_
  refine lv_iload hx hb dL_law_1782 (lv_at hl 0 rfl) ?_
  refine lv_iconst (v := 1) hx hb dL_law_1784 (by decide) ?_
  refine lv_iadd hx hb dL_law_1785 ?_
  refine kt_ (v := 1) (by decide +kernel) ?_
  refine va_sld hx hb hX hbl hbA hS (vin_ (by decide +kernel)) dL_law_1786 ?_
  refine kt_ (v := p1) ((congrArg xs (by decide +kernel)).trans hp1) ?_
  refine lv_if_eq (tgt := 1794) hx hb dL_law_1787 (by decide) (fun c_1 => ?_) (fun c_1 => ?_)
  · refine lv_iconst (v := 0) hx hb dL_law_1794 (by decide) ?_
    refine lv_aload_n hx hb dL_law_1795 rfl (lv_at hl 5 rfl) ?_
    refine lv_iload hx hb dL_law_1796 (lv_at hl 0 rfl) ?_
    refine lv_iconst (v := 2) hx hb dL_law_1798 (by decide) ?_
    refine lv_iadd hx hb dL_law_1799 ?_
    refine kt_ (v := 2) (by decide +kernel) ?_
    refine va_sld hx hb hX hbl hbA hS (vin_ (by decide +kernel)) dL_law_1800 ?_
    refine kt_ (v := p2) ((congrArg xs (by decide +kernel)).trans hp2) ?_
    refine lv_if_eq (tgt := 1808) hx hb dL_law_1801 (by decide) (fun c_2 => ?_) (fun c_2 => ?_)
    · refine lv_iconst (v := 0) hx hb dL_law_1808 (by decide) ?_
      refine lv_aload_n hx hb dL_law_1809 rfl (lv_at hl 2 rfl) ?_
      refine kc_ (wc := [(h0, .inr (13, [v0, v1, v2, v3, v4, v5, v6, v7, v8, .null]))]) (wr := [(h1, .inr (14, [v9, v10, v11, v12, v13, v14, v15, v16, v17, v18, v19, v20, v21, v22, v23, v24, v25, v26, .int 0, v27, .int 0, v28, v29, .int 0, v30]))]) (vx_runSW (As := [.ref h0, .int 0, .int 0, .ref r0]) (rest := []) ⟨hx, hb, hml, hown, hts⟩ (c_L_reason_0 l hl0 D ad H.size h0 r0 (v0) (v1) (v2) (v3) (v4) (v5) (v6) (v7) (v8)) (vx_cwSW 4 hts hL_law_L_reason rfl rfl rfl (by decide +kernel) ⟨Nat.le_of_ble_eq_true rfl, Nat.le_of_ble_eq_true rfl⟩) ⟨PC_.blind, PC_.pre hF hK hP hD hS hA [0] [] rfl (by decide) rfl⟩ rfl rfl hl.1 rfl (lv_room (Nat.le_of_ble_eq_true rfl)) dL_law_1810 ⟨Nat.le_of_ble_eq_true rfl, Nat.le_of_ble_eq_true rfl⟩) hK hP hD hS hA [0] [1] [] rfl rfl (by decide) (by decide) rfl (fun qa_3 ka_3 ia_3 H locs hpo hP hD hK hS => ?_)
      have hP : va_P D vwCl [(h1, .inr (14, [v9, v10, v11, v12, v13, v14, v15, v16, v17, v18, v19, v20, v21, v22, v23, v24, v25, v26, .int 0, v27, .int 0, v28, v29, .int 0, v30]))] H := hP
      have hD : va_D A [(h1, .inr (14, [v9, v10, v11, v12, v13, v14, v15, v16, v17, v18, v19, v20, v21, v22, v23, v24, v25, v26, .int 0, v27, .int 0, v28, v29, .int 0, v30]))] := hD
      have hK : va_K D vwCl [] s := hK
      refine W.eq (g2 := F0 m 1813 ls [.int 1]) rfl ?_
      refine lv_istore (lv' := [(6, .int 1), (5, .int 0), (4, .ref r1), (3, .ref r0), (2, .ref h1), (1, .ref h0), (0, .ref b)]) hx hb dL_law_1813 hl (by decide) rfl (fun ls hl => ?_)
      refine lv_aload_n hx hb dL_law_1815 rfl (lv_at hl 4 rfl) ?_
      refine lv_aload_n hx hb dL_law_1816 rfl (lv_at hl 6 rfl) ?_
      refine lv_iload hx hb dL_law_1817 (lv_at hl 1 rfl) ?_
      refine lv_iconst (v := 1) hx hb dL_law_1819 (by decide) ?_
      refine lv_iadd hx hb dL_law_1820 ?_
      refine kt_ (v := 1) (by decide +kernel) ?_
      refine va_sld hx hb hX hbl hbA hS (vin_ (by decide +kernel)) dL_law_1821 ?_
      refine kt_ (v := p1) ((congrArg xs (by decide +kernel)).trans hp1) ?_
      refine lv_if_eq (tgt := 1829) hx hb dL_law_1822 (by decide) (fun _ => ?_) (fun c9 => absurd c_1 c9)
      refine lv_iconst (v := 0) hx hb dL_law_1829 (by decide) ?_
      refine lv_aload_n hx hb dL_law_1830 rfl (lv_at hl 6 rfl) ?_
      refine lv_iload hx hb dL_law_1831 (lv_at hl 1 rfl) ?_
      refine lv_iconst (v := 2) hx hb dL_law_1833 (by decide) ?_
      refine lv_iadd hx hb dL_law_1834 ?_
      refine kt_ (v := 2) (by decide +kernel) ?_
      refine va_sld hx hb hX hbl hbA hS (vin_ (by decide +kernel)) dL_law_1835 ?_
      refine kt_ (v := p2) ((congrArg xs (by decide +kernel)).trans hp2) ?_
      refine lv_if_eq (tgt := 1843) hx hb dL_law_1836 (by decide) (fun _ => ?_) (fun c9 => absurd c_2 c9)
      refine lv_iconst (v := 0) hx hb dL_law_1843 (by decide) ?_
      refine kc_ (wc := [(h1, .inr (14, [v9, v10, v11, v12, v13, v14, v15, v16, v17, v18, v19, v20, v21, v22, v23, v24, v25, v26, .int 0, v27, .int 0, v28, v29, .int 0, v30]))]) (wr := []) (va_runV (As := [.int 0, .int 0]) (rest := []) ⟨hx, hb, hml, hown, hts⟩ (c_X11_reason_0 l hl0 D ad H.size h1 (v9) (v10) (v11) (v12) (v13) (v14) (v15) (v16) (v17) (v18) (v19) (v20) (v21) (v22) (v23) (v24) (v25) (v26) (v27) (.int 0) (v28) (v29) (.int 0) (v30)) (cwV 2 hts hL_law_X11_reason rfl rfl rfl (by decide +kernel) ⟨Nat.le_of_ble_eq_true rfl, Nat.le_of_ble_eq_true rfl⟩) ⟨PC_.blind, va_recv hK hP (ci := 14) (q0 := 0) rfl rfl, PC_.pre hF hK hP hD hS hA [0] [] rfl (by decide) rfl⟩ rfl rfl hl.1 rfl (lv_room (Nat.le_of_ble_eq_true rfl)) dL_law_1844 ⟨Nat.le_of_ble_eq_true rfl, Nat.le_of_ble_eq_true rfl⟩) hK hP hD hS hA [0] [] [] rfl rfl (by decide) (by decide) rfl (fun qa_4 ka_4 ia_4 H locs hpo hP hD hK hS => ?_)
      have hP : va_P D vwCl [(h1, .inr (14, [v9, v10, v11, v12, v13, v14, v15, v16, v17, v18, v19, v20, v21, v22, v23, v24, v25, v26, .int 0, v27, .int 0, v28, v29, .int 1, v30]))] H := hP
      have hD : va_D A [(h1, .inr (14, [v9, v10, v11, v12, v13, v14, v15, v16, v17, v18, v19, v20, v21, v22, v23, v24, v25, v26, .int 0, v27, .int 0, v28, v29, .int 1, v30]))] := hD
      have hK : va_K D vwCl [] s := hK
      refine W.eq (g2 := F0 m 1847 ls [.int 0]) rfl ?_
      refine lv_istore (lv' := [(7, .int 0), (6, .int 1), (5, .int 0), (4, .ref r1), (3, .ref r0), (2, .ref h1), (1, .ref h0), (0, .ref b)]) hx hb dL_law_1847 hl (by decide) rfl (fun ls hl => ?_)
      refine lv_aload_n hx hb dL_law_1849 rfl (lv_at hl 5 rfl) ?_
      refine kc_ (wc := [(h1, .inr (14, [v9, v10, v11, v12, v13, v14, v15, v16, v17, v18, v19, v20, v21, v22, v23, v24, v25, v26, .int 0, v27, .int 0, v28, v29, .int 1, v30]))]) (wr := []) (va_runV (As := []) (rest := []) ⟨hx, hb, hml, hown, hts⟩ (c_X11_thrown_1 l hl0 D ad H.size h1 (v9) (v10) (v11) (v12) (v13) (v14) (v15) (v16) (v17) (v18) (v19) (v20) (v21) (v22) (v23) (v24) (v25) (v26) (.int 0) (v27) (.int 0) (v28) (v29) (v30)) (cwV 0 hts hL_law_X11_thrown rfl rfl rfl (by decide +kernel) ⟨Nat.le_of_ble_eq_true rfl, Nat.le_of_ble_eq_true rfl⟩) ⟨PC_.blind, va_recv hK hP (ci := 14) (q0 := 0) rfl rfl, PC_.pre hF hK hP hD hS hA [0] [] rfl (by decide) rfl⟩ rfl rfl hl.1 rfl (lv_room (Nat.le_of_ble_eq_true rfl)) dL_law_1850 ⟨Nat.le_of_ble_eq_true rfl, Nat.le_of_ble_eq_true rfl⟩) hK hP hD hS hA [0] [] [] rfl rfl (by decide) (by decide) rfl (fun qa_5 ka_5 ia_5 H locs hpo hP hD hK hS => ?_)
      have hP : va_P D vwCl [(h1, .inr (14, [v9, v10, v11, v12, v13, v14, v15, v16, v17, v18, v19, v20, v21, v22, v23, v24, v25, v26, .int 0, v27, .int 0, v28, v29, .int 1, v30]))] H := hP
      have hD : va_D A [(h1, .inr (14, [v9, v10, v11, v12, v13, v14, v15, v16, v17, v18, v19, v20, v21, v22, v23, v24, v25, v26, .int 0, v27, .int 0, v28, v29, .int 1, v30]))] := hD
      have hK : va_K D vwCl [] s := hK
      refine W.eq (g2 := F0 m 1853 ls [.int 1]) rfl ?_
      refine lv_iload hx hb dL_law_1853 (lv_at hl 1 rfl) ?_
      refine lv_icmp_eq (tgt := 1860) hx hb dL_law_1855 (by decide) (fun _ => ?_) (fun c9 => absurd (by decide +kernel) c9)
      refine lv_iload hx hb dL_law_1860 (lv_at hl 1 rfl) ?_
      refine lv_if_ne (tgt := 1877) hx hb dL_law_1862 (by decide) (fun _ => ?_) (fun c9 => absurd c9 (by decide +kernel))
      refine lv_goto (tgt := 2280) hx hb dL_law_1877 (by decide) ?_
      exact law_tail C0 hAe hS (lv_sub hl [7, 2] rfl) (Nat.le_of_ble_eq_true rfl) (Nat.le_of_ble_eq_true rfl)
    · refine lv_iconst (v := 1) hx hb dL_law_1804 (by decide) ?_
      refine lv_goto (tgt := 1809) hx hb dL_law_1805 (by decide) ?_
      refine lv_aload_n hx hb dL_law_1809 rfl (lv_at hl 2 rfl) ?_
      refine kc_ (wc := [(h0, .inr (13, [v0, v1, v2, v3, v4, v5, v6, v7, v8, .null]))]) (wr := [(h1, .inr (14, [v9, v10, v11, v12, v13, v14, v15, v16, v17, v18, v19, v20, v21, v22, v23, v24, v25, v26, .int 0, v27, .int 0, v28, v29, .int 0, v30]))]) (vx_runSW (As := [.ref h0, .int 0, .int 1, .ref r0]) (rest := []) ⟨hx, hb, hml, hown, hts⟩ (c_L_reason_1 l hl0 D ad H.size h0 r0 (v0) (v1) (v2) (v3) (v4) (v5) (v6) (v7) (v8)) (vx_cwSW 4 hts hL_law_L_reason rfl rfl rfl (by decide +kernel) ⟨Nat.le_of_ble_eq_true rfl, Nat.le_of_ble_eq_true rfl⟩) ⟨PC_.blind, PC_.pre hF hK hP hD hS hA [0] [] rfl (by decide) rfl⟩ rfl rfl hl.1 rfl (lv_room (Nat.le_of_ble_eq_true rfl)) dL_law_1810 ⟨Nat.le_of_ble_eq_true rfl, Nat.le_of_ble_eq_true rfl⟩) hK hP hD hS hA [0] [1] [] rfl rfl (by decide) (by decide) rfl (fun qa_6 ka_6 ia_6 H locs hpo hP hD hK hS => ?_)
      have hP : va_P D vwCl [(h1, .inr (14, [v9, v10, v11, v12, v13, v14, v15, v16, v17, v18, v19, v20, v21, v22, v23, v24, v25, v26, .int 0, v27, .int 0, v28, v29, .int 0, v30]))] H := hP
      have hD : va_D A [(h1, .inr (14, [v9, v10, v11, v12, v13, v14, v15, v16, v17, v18, v19, v20, v21, v22, v23, v24, v25, v26, .int 0, v27, .int 0, v28, v29, .int 0, v30]))] := hD
      have hK : va_K D vwCl [] s := hK
      refine W.eq (g2 := F0 m 1813 ls [.int 1]) rfl ?_
      refine lv_istore (lv' := [(6, .int 1), (5, .int 0), (4, .ref r1), (3, .ref r0), (2, .ref h1), (1, .ref h0), (0, .ref b)]) hx hb dL_law_1813 hl (by decide) rfl (fun ls hl => ?_)
      refine lv_aload_n hx hb dL_law_1815 rfl (lv_at hl 4 rfl) ?_
      refine lv_aload_n hx hb dL_law_1816 rfl (lv_at hl 6 rfl) ?_
      refine lv_iload hx hb dL_law_1817 (lv_at hl 1 rfl) ?_
      refine lv_iconst (v := 1) hx hb dL_law_1819 (by decide) ?_
      refine lv_iadd hx hb dL_law_1820 ?_
      refine kt_ (v := 1) (by decide +kernel) ?_
      refine va_sld hx hb hX hbl hbA hS (vin_ (by decide +kernel)) dL_law_1821 ?_
      refine kt_ (v := p1) ((congrArg xs (by decide +kernel)).trans hp1) ?_
      refine lv_if_eq (tgt := 1829) hx hb dL_law_1822 (by decide) (fun _ => ?_) (fun c9 => absurd c_1 c9)
      refine lv_iconst (v := 0) hx hb dL_law_1829 (by decide) ?_
      refine lv_aload_n hx hb dL_law_1830 rfl (lv_at hl 6 rfl) ?_
      refine lv_iload hx hb dL_law_1831 (lv_at hl 1 rfl) ?_
      refine lv_iconst (v := 2) hx hb dL_law_1833 (by decide) ?_
      refine lv_iadd hx hb dL_law_1834 ?_
      refine kt_ (v := 2) (by decide +kernel) ?_
      refine va_sld hx hb hX hbl hbA hS (vin_ (by decide +kernel)) dL_law_1835 ?_
      refine kt_ (v := p2) ((congrArg xs (by decide +kernel)).trans hp2) ?_
      refine lv_if_eq (tgt := 1843) hx hb dL_law_1836 (by decide) (fun c9 => absurd c9 c_2) (fun _ => ?_)
      refine lv_iconst (v := 1) hx hb dL_law_1839 (by decide) ?_
      refine lv_goto (tgt := 1844) hx hb dL_law_1840 (by decide) ?_
      refine kc_ (wc := [(h1, .inr (14, [v9, v10, v11, v12, v13, v14, v15, v16, v17, v18, v19, v20, v21, v22, v23, v24, v25, v26, .int 0, v27, .int 0, v28, v29, .int 0, v30]))]) (wr := []) (va_runV (As := [.int 0, .int 1]) (rest := []) ⟨hx, hb, hml, hown, hts⟩ (c_X11_reason_1 l hl0 D ad H.size h1 (v9) (v10) (v11) (v12) (v13) (v14) (v15) (v16) (v17) (v18) (v19) (v20) (v21) (v22) (v23) (v24) (v25) (v26) (v27) (.int 0) (v28) (v29) (.int 0) (v30)) (cwV 2 hts hL_law_X11_reason rfl rfl rfl (by decide +kernel) ⟨Nat.le_of_ble_eq_true rfl, Nat.le_of_ble_eq_true rfl⟩) ⟨PC_.blind, va_recv hK hP (ci := 14) (q0 := 0) rfl rfl, PC_.pre hF hK hP hD hS hA [0] [] rfl (by decide) rfl⟩ rfl rfl hl.1 rfl (lv_room (Nat.le_of_ble_eq_true rfl)) dL_law_1844 ⟨Nat.le_of_ble_eq_true rfl, Nat.le_of_ble_eq_true rfl⟩) hK hP hD hS hA [0] [] [] rfl rfl (by decide) (by decide) rfl (fun qa_7 ka_7 ia_7 H locs hpo hP hD hK hS => ?_)
      have hP : va_P D vwCl [(h1, .inr (14, [v9, v10, v11, v12, v13, v14, v15, v16, v17, v18, v19, v20, v21, v22, v23, v24, v25, v26, .int 0, v27, .int 0, v28, v29, .int 1, v30]))] H := hP
      have hD : va_D A [(h1, .inr (14, [v9, v10, v11, v12, v13, v14, v15, v16, v17, v18, v19, v20, v21, v22, v23, v24, v25, v26, .int 0, v27, .int 0, v28, v29, .int 1, v30]))] := hD
      have hK : va_K D vwCl [] s := hK
      refine W.eq (g2 := F0 m 1847 ls [.int 0]) rfl ?_
      refine lv_istore (lv' := [(7, .int 0), (6, .int 1), (5, .int 0), (4, .ref r1), (3, .ref r0), (2, .ref h1), (1, .ref h0), (0, .ref b)]) hx hb dL_law_1847 hl (by decide) rfl (fun ls hl => ?_)
      refine lv_aload_n hx hb dL_law_1849 rfl (lv_at hl 5 rfl) ?_
      refine kc_ (wc := [(h1, .inr (14, [v9, v10, v11, v12, v13, v14, v15, v16, v17, v18, v19, v20, v21, v22, v23, v24, v25, v26, .int 0, v27, .int 0, v28, v29, .int 1, v30]))]) (wr := []) (va_runV (As := []) (rest := []) ⟨hx, hb, hml, hown, hts⟩ (c_X11_thrown_1 l hl0 D ad H.size h1 (v9) (v10) (v11) (v12) (v13) (v14) (v15) (v16) (v17) (v18) (v19) (v20) (v21) (v22) (v23) (v24) (v25) (v26) (.int 0) (v27) (.int 0) (v28) (v29) (v30)) (cwV 0 hts hL_law_X11_thrown rfl rfl rfl (by decide +kernel) ⟨Nat.le_of_ble_eq_true rfl, Nat.le_of_ble_eq_true rfl⟩) ⟨PC_.blind, va_recv hK hP (ci := 14) (q0 := 0) rfl rfl, PC_.pre hF hK hP hD hS hA [0] [] rfl (by decide) rfl⟩ rfl rfl hl.1 rfl (lv_room (Nat.le_of_ble_eq_true rfl)) dL_law_1850 ⟨Nat.le_of_ble_eq_true rfl, Nat.le_of_ble_eq_true rfl⟩) hK hP hD hS hA [0] [] [] rfl rfl (by decide) (by decide) rfl (fun qa_8 ka_8 ia_8 H locs hpo hP hD hK hS => ?_)
      have hP : va_P D vwCl [(h1, .inr (14, [v9, v10, v11, v12, v13, v14, v15, v16, v17, v18, v19, v20, v21, v22, v23, v24, v25, v26, .int 0, v27, .int 0, v28, v29, .int 1, v30]))] H := hP
      have hD : va_D A [(h1, .inr (14, [v9, v10, v11, v12, v13, v14, v15, v16, v17, v18, v19, v20, v21, v22, v23, v24, v25, v26, .int 0, v27, .int 0, v28, v29, .int 1, v30]))] := hD
      have hK : va_K D vwCl [] s := hK
      refine W.eq (g2 := F0 m 1853 ls [.int 1]) rfl ?_
      refine lv_iload hx hb dL_law_1853 (lv_at hl 1 rfl) ?_
      refine lv_icmp_eq (tgt := 1860) hx hb dL_law_1855 (by decide) (fun _ => ?_) (fun c9 => absurd (by decide +kernel) c9)
      refine lv_iload hx hb dL_law_1860 (lv_at hl 1 rfl) ?_
      refine lv_if_ne (tgt := 1877) hx hb dL_law_1862 (by decide) (fun _ => ?_) (fun c9 => absurd c9 (by decide +kernel))
      refine lv_goto (tgt := 2280) hx hb dL_law_1877 (by decide) ?_
      exact law_tail C0 hAe hS (lv_sub hl [7, 2] rfl) (Nat.le_of_ble_eq_true rfl) (Nat.le_of_ble_eq_true rfl)
  · refine lv_iconst (v := 1) hx hb dL_law_1790 (by decide) ?_
    refine lv_goto (tgt := 1795) hx hb dL_law_1791 (by decide) ?_
    refine lv_aload_n hx hb dL_law_1795 rfl (lv_at hl 5 rfl) ?_
    refine lv_iload hx hb dL_law_1796 (lv_at hl 0 rfl) ?_
    refine lv_iconst (v := 2) hx hb dL_law_1798 (by decide) ?_
    refine lv_iadd hx hb dL_law_1799 ?_
    refine kt_ (v := 2) (by decide +kernel) ?_
    refine va_sld hx hb hX hbl hbA hS (vin_ (by decide +kernel)) dL_law_1800 ?_
    refine kt_ (v := p2) ((congrArg xs (by decide +kernel)).trans hp2) ?_
    refine lv_if_eq (tgt := 1808) hx hb dL_law_1801 (by decide) (fun c_9 => ?_) (fun c_9 => ?_)
    · refine lv_iconst (v := 0) hx hb dL_law_1808 (by decide) ?_
      refine lv_aload_n hx hb dL_law_1809 rfl (lv_at hl 2 rfl) ?_
      refine kc_ (wc := [(h0, .inr (13, [v0, v1, v2, v3, v4, v5, v6, v7, v8, .null]))]) (wr := [(h1, .inr (14, [v9, v10, v11, v12, v13, v14, v15, v16, v17, v18, v19, v20, v21, v22, v23, v24, v25, v26, .int 0, v27, .int 0, v28, v29, .int 0, v30]))]) (vx_runSW (As := [.ref h0, .int 1, .int 0, .ref r0]) (rest := []) ⟨hx, hb, hml, hown, hts⟩ (c_L_reason_2 l hl0 D ad H.size h0 r0 (v0) (v1) (v2) (v3) (v4) (v5) (v6) (v7) (v8)) (vx_cwSW 4 hts hL_law_L_reason rfl rfl rfl (by decide +kernel) ⟨Nat.le_of_ble_eq_true rfl, Nat.le_of_ble_eq_true rfl⟩) ⟨PC_.blind, PC_.pre hF hK hP hD hS hA [0] [] rfl (by decide) rfl⟩ rfl rfl hl.1 rfl (lv_room (Nat.le_of_ble_eq_true rfl)) dL_law_1810 ⟨Nat.le_of_ble_eq_true rfl, Nat.le_of_ble_eq_true rfl⟩) hK hP hD hS hA [0] [1] [] rfl rfl (by decide) (by decide) rfl (fun qa_10 ka_10 ia_10 H locs hpo hP hD hK hS => ?_)
      have hP : va_P D vwCl [(h1, .inr (14, [v9, v10, v11, v12, v13, v14, v15, v16, v17, v18, v19, v20, v21, v22, v23, v24, v25, v26, .int 0, v27, .int 0, v28, v29, .int 0, v30]))] H := hP
      have hD : va_D A [(h1, .inr (14, [v9, v10, v11, v12, v13, v14, v15, v16, v17, v18, v19, v20, v21, v22, v23, v24, v25, v26, .int 0, v27, .int 0, v28, v29, .int 0, v30]))] := hD
      have hK : va_K D vwCl [] s := hK
      refine W.eq (g2 := F0 m 1813 ls [.int 1]) rfl ?_
      refine lv_istore (lv' := [(6, .int 1), (5, .int 0), (4, .ref r1), (3, .ref r0), (2, .ref h1), (1, .ref h0), (0, .ref b)]) hx hb dL_law_1813 hl (by decide) rfl (fun ls hl => ?_)
      refine lv_aload_n hx hb dL_law_1815 rfl (lv_at hl 4 rfl) ?_
      refine lv_aload_n hx hb dL_law_1816 rfl (lv_at hl 6 rfl) ?_
      refine lv_iload hx hb dL_law_1817 (lv_at hl 1 rfl) ?_
      refine lv_iconst (v := 1) hx hb dL_law_1819 (by decide) ?_
      refine lv_iadd hx hb dL_law_1820 ?_
      refine kt_ (v := 1) (by decide +kernel) ?_
      refine va_sld hx hb hX hbl hbA hS (vin_ (by decide +kernel)) dL_law_1821 ?_
      refine kt_ (v := p1) ((congrArg xs (by decide +kernel)).trans hp1) ?_
      refine lv_if_eq (tgt := 1829) hx hb dL_law_1822 (by decide) (fun c9 => absurd c9 c_1) (fun _ => ?_)
      refine lv_iconst (v := 1) hx hb dL_law_1825 (by decide) ?_
      refine lv_goto (tgt := 1830) hx hb dL_law_1826 (by decide) ?_
      refine lv_aload_n hx hb dL_law_1830 rfl (lv_at hl 6 rfl) ?_
      refine lv_iload hx hb dL_law_1831 (lv_at hl 1 rfl) ?_
      refine lv_iconst (v := 2) hx hb dL_law_1833 (by decide) ?_
      refine lv_iadd hx hb dL_law_1834 ?_
      refine kt_ (v := 2) (by decide +kernel) ?_
      refine va_sld hx hb hX hbl hbA hS (vin_ (by decide +kernel)) dL_law_1835 ?_
      refine kt_ (v := p2) ((congrArg xs (by decide +kernel)).trans hp2) ?_
      refine lv_if_eq (tgt := 1843) hx hb dL_law_1836 (by decide) (fun _ => ?_) (fun c9 => absurd c_9 c9)
      refine lv_iconst (v := 0) hx hb dL_law_1843 (by decide) ?_
      refine kc_ (wc := [(h1, .inr (14, [v9, v10, v11, v12, v13, v14, v15, v16, v17, v18, v19, v20, v21, v22, v23, v24, v25, v26, .int 0, v27, .int 0, v28, v29, .int 0, v30]))]) (wr := []) (va_runV (As := [.int 1, .int 0]) (rest := []) ⟨hx, hb, hml, hown, hts⟩ (c_X11_reason_2 l hl0 D ad H.size h1 (v9) (v10) (v11) (v12) (v13) (v14) (v15) (v16) (v17) (v18) (v19) (v20) (v21) (v22) (v23) (v24) (v25) (v26) (.int 0) (v27) (v28) (v29) (.int 0) (v30)) (cwV 2 hts hL_law_X11_reason rfl rfl rfl (by decide +kernel) ⟨Nat.le_of_ble_eq_true rfl, Nat.le_of_ble_eq_true rfl⟩) ⟨PC_.blind, va_recv hK hP (ci := 14) (q0 := 0) rfl rfl, PC_.pre hF hK hP hD hS hA [0] [] rfl (by decide) rfl⟩ rfl rfl hl.1 rfl (lv_room (Nat.le_of_ble_eq_true rfl)) dL_law_1844 ⟨Nat.le_of_ble_eq_true rfl, Nat.le_of_ble_eq_true rfl⟩) hK hP hD hS hA [0] [] [] rfl rfl (by decide) (by decide) rfl (fun qa_11 ka_11 ia_11 H locs hpo hP hD hK hS => ?_)
      have hP : va_P D vwCl [(h1, .inr (14, [v9, v10, v11, v12, v13, v14, v15, v16, v17, v18, v19, v20, v21, v22, v23, v24, v25, v26, .int 0, v27, .int 0, v28, v29, .int 1, v30]))] H := hP
      have hD : va_D A [(h1, .inr (14, [v9, v10, v11, v12, v13, v14, v15, v16, v17, v18, v19, v20, v21, v22, v23, v24, v25, v26, .int 0, v27, .int 0, v28, v29, .int 1, v30]))] := hD
      have hK : va_K D vwCl [] s := hK
      refine W.eq (g2 := F0 m 1847 ls [.int 0]) rfl ?_
      refine lv_istore (lv' := [(7, .int 0), (6, .int 1), (5, .int 0), (4, .ref r1), (3, .ref r0), (2, .ref h1), (1, .ref h0), (0, .ref b)]) hx hb dL_law_1847 hl (by decide) rfl (fun ls hl => ?_)
      refine lv_aload_n hx hb dL_law_1849 rfl (lv_at hl 5 rfl) ?_
      refine kc_ (wc := [(h1, .inr (14, [v9, v10, v11, v12, v13, v14, v15, v16, v17, v18, v19, v20, v21, v22, v23, v24, v25, v26, .int 0, v27, .int 0, v28, v29, .int 1, v30]))]) (wr := []) (va_runV (As := []) (rest := []) ⟨hx, hb, hml, hown, hts⟩ (c_X11_thrown_1 l hl0 D ad H.size h1 (v9) (v10) (v11) (v12) (v13) (v14) (v15) (v16) (v17) (v18) (v19) (v20) (v21) (v22) (v23) (v24) (v25) (v26) (.int 0) (v27) (.int 0) (v28) (v29) (v30)) (cwV 0 hts hL_law_X11_thrown rfl rfl rfl (by decide +kernel) ⟨Nat.le_of_ble_eq_true rfl, Nat.le_of_ble_eq_true rfl⟩) ⟨PC_.blind, va_recv hK hP (ci := 14) (q0 := 0) rfl rfl, PC_.pre hF hK hP hD hS hA [0] [] rfl (by decide) rfl⟩ rfl rfl hl.1 rfl (lv_room (Nat.le_of_ble_eq_true rfl)) dL_law_1850 ⟨Nat.le_of_ble_eq_true rfl, Nat.le_of_ble_eq_true rfl⟩) hK hP hD hS hA [0] [] [] rfl rfl (by decide) (by decide) rfl (fun qa_12 ka_12 ia_12 H locs hpo hP hD hK hS => ?_)
      have hP : va_P D vwCl [(h1, .inr (14, [v9, v10, v11, v12, v13, v14, v15, v16, v17, v18, v19, v20, v21, v22, v23, v24, v25, v26, .int 0, v27, .int 0, v28, v29, .int 1, v30]))] H := hP
      have hD : va_D A [(h1, .inr (14, [v9, v10, v11, v12, v13, v14, v15, v16, v17, v18, v19, v20, v21, v22, v23, v24, v25, v26, .int 0, v27, .int 0, v28, v29, .int 1, v30]))] := hD
      have hK : va_K D vwCl [] s := hK
      refine W.eq (g2 := F0 m 1853 ls [.int 1]) rfl ?_
      refine lv_iload hx hb dL_law_1853 (lv_at hl 1 rfl) ?_
      refine lv_icmp_eq (tgt := 1860) hx hb dL_law_1855 (by decide) (fun _ => ?_) (fun c9 => absurd (by decide +kernel) c9)
      refine lv_iload hx hb dL_law_1860 (lv_at hl 1 rfl) ?_
      refine lv_if_ne (tgt := 1877) hx hb dL_law_1862 (by decide) (fun _ => ?_) (fun c9 => absurd c9 (by decide +kernel))
      refine lv_goto (tgt := 2280) hx hb dL_law_1877 (by decide) ?_
      exact law_tail C0 hAe hS (lv_sub hl [7, 2] rfl) (Nat.le_of_ble_eq_true rfl) (Nat.le_of_ble_eq_true rfl)
    · refine lv_iconst (v := 1) hx hb dL_law_1804 (by decide) ?_
      refine lv_goto (tgt := 1809) hx hb dL_law_1805 (by decide) ?_
      refine lv_aload_n hx hb dL_law_1809 rfl (lv_at hl 2 rfl) ?_
      refine kc_ (wc := [(h0, .inr (13, [v0, v1, v2, v3, v4, v5, v6, v7, v8, .null]))]) (wr := [(h1, .inr (14, [v9, v10, v11, v12, v13, v14, v15, v16, v17, v18, v19, v20, v21, v22, v23, v24, v25, v26, .int 0, v27, .int 0, v28, v29, .int 0, v30]))]) (vx_runSW (As := [.ref h0, .int 1, .int 1, .ref r0]) (rest := []) ⟨hx, hb, hml, hown, hts⟩ (c_L_reason_3 l hl0 D ad H.size h0 r0 (v0) (v1) (v2) (v3) (v4) (v5) (v6) (v7) (v8)) (vx_cwSW 4 hts hL_law_L_reason rfl rfl rfl (by decide +kernel) ⟨Nat.le_of_ble_eq_true rfl, Nat.le_of_ble_eq_true rfl⟩) ⟨PC_.blind, PC_.pre hF hK hP hD hS hA [0] [] rfl (by decide) rfl⟩ rfl rfl hl.1 rfl (lv_room (Nat.le_of_ble_eq_true rfl)) dL_law_1810 ⟨Nat.le_of_ble_eq_true rfl, Nat.le_of_ble_eq_true rfl⟩) hK hP hD hS hA [0] [1] [] rfl rfl (by decide) (by decide) rfl (fun qa_13 ka_13 ia_13 H locs hpo hP hD hK hS => ?_)
      have hP : va_P D vwCl [(h1, .inr (14, [v9, v10, v11, v12, v13, v14, v15, v16, v17, v18, v19, v20, v21, v22, v23, v24, v25, v26, .int 0, v27, .int 0, v28, v29, .int 0, v30]))] H := hP
      have hD : va_D A [(h1, .inr (14, [v9, v10, v11, v12, v13, v14, v15, v16, v17, v18, v19, v20, v21, v22, v23, v24, v25, v26, .int 0, v27, .int 0, v28, v29, .int 0, v30]))] := hD
      have hK : va_K D vwCl [] s := hK
      refine W.eq (g2 := F0 m 1813 ls [.int 1]) rfl ?_
      refine lv_istore (lv' := [(6, .int 1), (5, .int 0), (4, .ref r1), (3, .ref r0), (2, .ref h1), (1, .ref h0), (0, .ref b)]) hx hb dL_law_1813 hl (by decide) rfl (fun ls hl => ?_)
      refine lv_aload_n hx hb dL_law_1815 rfl (lv_at hl 4 rfl) ?_
      refine lv_aload_n hx hb dL_law_1816 rfl (lv_at hl 6 rfl) ?_
      refine lv_iload hx hb dL_law_1817 (lv_at hl 1 rfl) ?_
      refine lv_iconst (v := 1) hx hb dL_law_1819 (by decide) ?_
      refine lv_iadd hx hb dL_law_1820 ?_
      refine kt_ (v := 1) (by decide +kernel) ?_
      refine va_sld hx hb hX hbl hbA hS (vin_ (by decide +kernel)) dL_law_1821 ?_
      refine kt_ (v := p1) ((congrArg xs (by decide +kernel)).trans hp1) ?_
      refine lv_if_eq (tgt := 1829) hx hb dL_law_1822 (by decide) (fun c9 => absurd c9 c_1) (fun _ => ?_)
      refine lv_iconst (v := 1) hx hb dL_law_1825 (by decide) ?_
      refine lv_goto (tgt := 1830) hx hb dL_law_1826 (by decide) ?_
      refine lv_aload_n hx hb dL_law_1830 rfl (lv_at hl 6 rfl) ?_
      refine lv_iload hx hb dL_law_1831 (lv_at hl 1 rfl) ?_
      refine lv_iconst (v := 2) hx hb dL_law_1833 (by decide) ?_
      refine lv_iadd hx hb dL_law_1834 ?_
      refine kt_ (v := 2) (by decide +kernel) ?_
      refine va_sld hx hb hX hbl hbA hS (vin_ (by decide +kernel)) dL_law_1835 ?_
      refine kt_ (v := p2) ((congrArg xs (by decide +kernel)).trans hp2) ?_
      refine lv_if_eq (tgt := 1843) hx hb dL_law_1836 (by decide) (fun c9 => absurd c9 c_9) (fun _ => ?_)
      refine lv_iconst (v := 1) hx hb dL_law_1839 (by decide) ?_
      refine lv_goto (tgt := 1844) hx hb dL_law_1840 (by decide) ?_
      refine kc_ (wc := [(h1, .inr (14, [v9, v10, v11, v12, v13, v14, v15, v16, v17, v18, v19, v20, v21, v22, v23, v24, v25, v26, .int 0, v27, .int 0, v28, v29, .int 0, v30]))]) (wr := []) (va_runV (As := [.int 1, .int 1]) (rest := []) ⟨hx, hb, hml, hown, hts⟩ (c_X11_reason_3 l hl0 D ad H.size h1 (v9) (v10) (v11) (v12) (v13) (v14) (v15) (v16) (v17) (v18) (v19) (v20) (v21) (v22) (v23) (v24) (v25) (v26) (.int 0) (v27) (v28) (v29) (.int 0) (v30)) (cwV 2 hts hL_law_X11_reason rfl rfl rfl (by decide +kernel) ⟨Nat.le_of_ble_eq_true rfl, Nat.le_of_ble_eq_true rfl⟩) ⟨PC_.blind, va_recv hK hP (ci := 14) (q0 := 0) rfl rfl, PC_.pre hF hK hP hD hS hA [0] [] rfl (by decide) rfl⟩ rfl rfl hl.1 rfl (lv_room (Nat.le_of_ble_eq_true rfl)) dL_law_1844 ⟨Nat.le_of_ble_eq_true rfl, Nat.le_of_ble_eq_true rfl⟩) hK hP hD hS hA [0] [] [] rfl rfl (by decide) (by decide) rfl (fun qa_14 ka_14 ia_14 H locs hpo hP hD hK hS => ?_)
      have hP : va_P D vwCl [(h1, .inr (14, [v9, v10, v11, v12, v13, v14, v15, v16, v17, v18, v19, v20, v21, v22, v23, v24, v25, v26, .int 0, v27, .int 0, v28, v29, .int 1, v30]))] H := hP
      have hD : va_D A [(h1, .inr (14, [v9, v10, v11, v12, v13, v14, v15, v16, v17, v18, v19, v20, v21, v22, v23, v24, v25, v26, .int 0, v27, .int 0, v28, v29, .int 1, v30]))] := hD
      have hK : va_K D vwCl [] s := hK
      refine W.eq (g2 := F0 m 1847 ls [.int 0]) rfl ?_
      refine lv_istore (lv' := [(7, .int 0), (6, .int 1), (5, .int 0), (4, .ref r1), (3, .ref r0), (2, .ref h1), (1, .ref h0), (0, .ref b)]) hx hb dL_law_1847 hl (by decide) rfl (fun ls hl => ?_)
      refine lv_aload_n hx hb dL_law_1849 rfl (lv_at hl 5 rfl) ?_
      refine kc_ (wc := [(h1, .inr (14, [v9, v10, v11, v12, v13, v14, v15, v16, v17, v18, v19, v20, v21, v22, v23, v24, v25, v26, .int 0, v27, .int 0, v28, v29, .int 1, v30]))]) (wr := []) (va_runV (As := []) (rest := []) ⟨hx, hb, hml, hown, hts⟩ (c_X11_thrown_1 l hl0 D ad H.size h1 (v9) (v10) (v11) (v12) (v13) (v14) (v15) (v16) (v17) (v18) (v19) (v20) (v21) (v22) (v23) (v24) (v25) (v26) (.int 0) (v27) (.int 0) (v28) (v29) (v30)) (cwV 0 hts hL_law_X11_thrown rfl rfl rfl (by decide +kernel) ⟨Nat.le_of_ble_eq_true rfl, Nat.le_of_ble_eq_true rfl⟩) ⟨PC_.blind, va_recv hK hP (ci := 14) (q0 := 0) rfl rfl, PC_.pre hF hK hP hD hS hA [0] [] rfl (by decide) rfl⟩ rfl rfl hl.1 rfl (lv_room (Nat.le_of_ble_eq_true rfl)) dL_law_1850 ⟨Nat.le_of_ble_eq_true rfl, Nat.le_of_ble_eq_true rfl⟩) hK hP hD hS hA [0] [] [] rfl rfl (by decide) (by decide) rfl (fun qa_15 ka_15 ia_15 H locs hpo hP hD hK hS => ?_)
      have hP : va_P D vwCl [(h1, .inr (14, [v9, v10, v11, v12, v13, v14, v15, v16, v17, v18, v19, v20, v21, v22, v23, v24, v25, v26, .int 0, v27, .int 0, v28, v29, .int 1, v30]))] H := hP
      have hD : va_D A [(h1, .inr (14, [v9, v10, v11, v12, v13, v14, v15, v16, v17, v18, v19, v20, v21, v22, v23, v24, v25, v26, .int 0, v27, .int 0, v28, v29, .int 1, v30]))] := hD
      have hK : va_K D vwCl [] s := hK
      refine W.eq (g2 := F0 m 1853 ls [.int 1]) rfl ?_
      refine lv_iload hx hb dL_law_1853 (lv_at hl 1 rfl) ?_
      refine lv_icmp_eq (tgt := 1860) hx hb dL_law_1855 (by decide) (fun _ => ?_) (fun c9 => absurd (by decide +kernel) c9)
      refine lv_iload hx hb dL_law_1860 (lv_at hl 1 rfl) ?_
      refine lv_if_ne (tgt := 1877) hx hb dL_law_1862 (by decide) (fun _ => ?_) (fun c9 => absurd c9 (by decide +kernel))
      refine lv_goto (tgt := 2280) hx hb dL_law_1877 (by decide) ?_
      exact law_tail C0 hAe hS (lv_sub hl [7, 2] rfl) (Nat.le_of_ble_eq_true rfl) (Nat.le_of_ble_eq_true rfl)
set_option maxHeartbeats 4000000 in
set_option maxRecDepth 100000 in
theorem law_case_27 {p : Program} {l : Launch} {e : Env} {s : State} {m : MethodId} {below : List Frame} {meth : Method} {c : Code} {b : Nat} {xs : Nat → Int32} {cells slots : Nat} {H : Heap} {locs : List Loc} {ls : Array Slot} {D : va_G} {ad : Nat → Nat} {A : Nat → Prop} (hl0 : l.stackTraces = false) (C0 : lw_At p s m meth c b 4 xs) (hAe : A = fun q : Nat => s.heap.size ≤ q) (hF : FX_ ad A s s.heap) (hS : va_S A s.heap H locs) (h0 : Nat) (h1 : Nat) (h2 : Nat) (h3 : Nat) (k3 : ClassId) (r0 : Nat) (r1 : Nat) (v0 : Value) (v1 : Value) (v2 : Value) (v3 : Value) (v4 : Value) (v5 : Value) (v6 : Value) (v7 : Value) (v8 : Value) (v9 : Value) (v10 : Value) (v11 : Value) (v12 : Value) (v13 : Value) (v14 : Value) (v15 : Value) (v16 : Value) (v17 : Value) (v18 : Value) (v19 : Value) (v20 : Value) (v21 : Value) (v22 : Value) (v23 : Value) (v24 : Value) (v25 : Value) (v26 : Value) (v27 : Value) (v28 : Value) (v29 : Value) (v30 : Value) (v31 : Value) (v32 : Value) (v33 : Value) (v34 : Value) (v35 : Value) (v36 : Value) (v37 : Value) (v38 : Value) (v39 : Value) (v40 : Value) (p1 p2 p3 : Int32) (hp1 : xs 1 = p1) (hp2 : xs 2 = p2) (hp3 : xs 3 = p3) (hP : va_P D vwCl [(h0, .inr (13, [.ref h1, v0, v1, v2, v3, v4, v5, v6, v7, v8])), (h1, .inr (11, [v9, v10, v11, v12, v13, .int 0, v14, v15, v16, v17])), (h2, .inr (14, [.ref h3, v18, v19, v20, v21, v22, v23, v24, v25, v26, v27, v28, v29, v30, v31, v32, v33, v34, v35, v36, v37, v38, v39, .int 0, v40])), (h3, .inl (k3, 8277, .inl (fun _ => 0)))] H) (hD : va_D A [(h0, .inr (13, [.ref h1, v0, v1, v2, v3, v4, v5, v6, v7, v8])), (h1, .inr (11, [v9, v10, v11, v12, v13, .int 0, v14, v15, v16, v17])), (h2, .inr (14, [.ref h3, v18, v19, v20, v21, v22, v23, v24, v25, v26, v27, v28, v29, v30, v31, v32, v33, v34, v35, v36, v37, v38, v39, .int 0, v40])), (h3, .inl (k3, 8277, .inl (fun _ => 0)))]) (hK : va_K D vwCl [(k3, .int)] s) (hl : lv_has ls 9 [(5, .int 0), (4, .ref r1), (3, .ref r0), (2, .ref h2), (1, .ref h0), (0, .ref b)]) (hcc : cells ≤ 2200) (hss : slots ≤ 260000) : W p l e room_1 s m #[Value.ref b] below meth c H locs cells slots (lw_Z below #[Value.ref b] s) (F0 m 1880 ls []) := by
  obtain ⟨hx, hb, hr, hml, hown, hts, hX, hbl, hlocks, hgv⟩ := id C0
  have hA : ∀ q : Nat, s.heap.size ≤ q → A q := fun q h => by rw [hAe]; exact h
  have hbA : ¬ A b := by rw [hAe]; exact Nat.not_le.mpr hbl
  refine W.widen (k := 2200) (n := 260000) hcc hss ?_
  have hi_X10 : ∀ w ∈ wsX100, w ∈ lw_tbl := inX10
  have hi_X11 : ∀ w ∈ wsX110, w ∈ lw_tbl := inX11
  have hi_X8 : ∀ w ∈ wsX80, w ∈ lw_tbl := inX8
  refine lv_aload_n hx hb dL_law_1880 rfl (lv_at hl 4 rfl) ?_
  refine lv_aload_n hx hb dL_law_1881 rfl (lv_at hl 5 rfl) ?_
  refine lv_iload hx hb dL_law_1882 (lv_at hl 0 rfl) ?_
  refine lv_iconst (v := 1) hx hb dL_law_1884 (by decide) ?_
  refine lv_iadd hx hb dL_law_1885 ?_
  refine kt_ (v := 1) (by decide +kernel) ?_
  refine va_sld hx hb hX hbl hbA hS (vin_ (by decide +kernel)) dL_law_1886 ?_
  refine kt_ (v := p1) ((congrArg xs (by decide +kernel)).trans hp1) ?_
  refine lv_aload_n hx hb dL_law_1887 rfl (lv_at hl 2 rfl) ?_
  refine kc_ (wc := [(h0, .inr (13, [.ref h1, v0, v1, v2, v3, v4, v5, v6, v7, v8])), (h1, .inr (11, [v9, v10, v11, v12, v13, .int 0, v14, v15, v16, v17]))]) (wr := [(h2, .inr (14, [.ref h3, v18, v19, v20, v21, v22, v23, v24, v25, v26, v27, v28, v29, v30, v31, v32, v33, v34, v35, v36, v37, v38, v39, .int 0, v40])), (h3, .inl (k3, 8277, .inl (fun _ => 0)))]) (vx_runSW (As := [.ref h0, .int p1, .ref r0]) (rest := []) ⟨hx, hb, hml, hown, hts⟩ (c_L_line_0 l hl0 D ad H.size h0 h1 r0 (v0) (v1) (v2) (v3) (v4) (v5) (v6) (v7) (v8) (v9) (v10) (v11) (v12) (v13) (v14) (v15) (v16) (v17) p1) (vx_cwSW 3 hts hL_law_L_line rfl rfl rfl (by decide +kernel) ⟨Nat.le_of_ble_eq_true rfl, Nat.le_of_ble_eq_true rfl⟩) ⟨PC_.blind, PC_.pre hF hK hP hD hS hA [0, 1] [] rfl (by decide) rfl⟩ rfl rfl hl.1 rfl (lv_room (Nat.le_of_ble_eq_true rfl)) dL_law_1888 ⟨Nat.le_of_ble_eq_true rfl, Nat.le_of_ble_eq_true rfl⟩) hK hP hD hS hA [0, 1] [2, 3] [0] rfl rfl (by decide) (by decide) rfl (fun qa_1 ka_1 ia_1 H locs hpo hP hD hK hS => ?_)
  have hP : va_P D vwCl [(h2, .inr (14, [.ref h3, v18, v19, v20, v21, v22, v23, v24, v25, v26, v27, v28, v29, v30, v31, v32, v33, v34, v35, v36, v37, v38, v39, .int 0, v40])), (h3, .inl (k3, 8277, .inl (fun _ => 0)))] H := hP
  have hD : va_D A [(h2, .inr (14, [.ref h3, v18, v19, v20, v21, v22, v23, v24, v25, v26, v27, v28, v29, v30, v31, v32, v33, v34, v35, v36, v37, v38, v39, .int 0, v40])), (h3, .inl (k3, 8277, .inl (fun _ => 0)))] := hD
  have hK : va_K D vwCl [(k3, .int)] s := hK
  refine W.eq (g2 := F0 m 1891 ls [.int 1]) rfl ?_
  refine lv_istore (lv' := [(6, .int 1), (5, .int 0), (4, .ref r1), (3, .ref r0), (2, .ref h2), (1, .ref h0), (0, .ref b)]) hx hb dL_law_1891 hl (by decide) rfl (fun ls hl => ?_)
  refine lv_aload_n hx hb dL_law_1893 rfl (lv_at hl 4 rfl) ?_
  refine lv_aload_n hx hb dL_law_1894 rfl (lv_at hl 6 rfl) ?_
  refine lv_iload hx hb dL_law_1895 (lv_at hl 1 rfl) ?_
  refine lv_iconst (v := 1) hx hb dL_law_1897 (by decide) ?_
  refine lv_iadd hx hb dL_law_1898 ?_
  refine kt_ (v := 1) (by decide +kernel) ?_
  refine va_sld hx hb hX hbl hbA hS (vin_ (by decide +kernel)) dL_law_1899 ?_
  refine kt_ (v := p1) ((congrArg xs (by decide +kernel)).trans hp1) ?_
  refine kc_ (wc := [(h2, .inr (14, [.ref h3, v18, v19, v20, v21, v22, v23, v24, v25, v26, v27, v28, v29, v30, v31, v32, v33, v34, v35, v36, v37, v38, v39, .int 0, v40])), (h3, .inl (k3, 8277, .inl (fun _ => 0)))]) (wr := []) (va_runV (As := [.int p1]) (rest := []) ⟨hx, hb, hml, hown, hts⟩ (c_X11_line_0 l hl0 D ad H.size h2 h3 k3 (v18) (v19) (v20) (v21) (v22) (v23) (v24) (v25) (v26) (v27) (v28) (v29) (v30) (v31) (v32) (v33) (v34) (v35) (v36) (v37) (v38) (v39) (.int 0) (v40) p1) (cwV 1 hts hL_law_X11_line rfl rfl rfl (by decide +kernel) ⟨Nat.le_of_ble_eq_true rfl, Nat.le_of_ble_eq_true rfl⟩) ⟨PC_.blind, va_recv hK hP (ci := 14) (q0 := 0) rfl rfl, PC_.pre hF hK hP hD hS hA [0, 1] [0] rfl (by decide) rfl⟩ rfl rfl hl.1 rfl (lv_room (Nat.le_of_ble_eq_true rfl)) dL_law_1900 ⟨Nat.le_of_ble_eq_true rfl, Nat.le_of_ble_eq_true rfl⟩) hK hP hD hS hA [0, 1] [] [] rfl rfl (by decide) (by decide) rfl (fun qa_2 ka_2 ia_2 H locs hpo hP hD hK hS => ?_)
  have hP : va_P D vwCl [(h2, .inr (14, [.ref h3, v18, v19, v20, v21, v22, v23, v24, v25, v26, v27, v28, v29, v30, v31, v32, v33, v34, v35, v36, v37, v38, v39, .int 1, v40])), (h3, .inl (k3, 8277, .inl (fun _ => 0)))] H := hP
  have hD : va_D A [(h2, .inr (14, [.ref h3, v18, v19, v20, v21, v22, v23, v24, v25, v26, v27, v28, v29, v30, v31, v32, v33, v34, v35, v36, v37, v38, v39, .int 1, v40])), (h3, .inl (k3, 8277, .inl (fun _ => 0)))] := hD
  have hK : va_K D vwCl [(k3, .int)] s := hK
  refine W.eq (g2 := F0 m 1903 ls [.int 0]) rfl ?_
  refine lv_istore (lv' := [(7, .int 0), (6, .int 1), (5, .int 0), (4, .ref r1), (3, .ref r0), (2, .ref h2), (1, .ref h0), (0, .ref b)]) hx hb dL_law_1903 hl (by decide) rfl (fun ls hl => ?_)
  refine lv_aload_n hx hb dL_law_1905 rfl (lv_at hl 5 rfl) ?_
  refine kc_ (wc := [(h2, .inr (14, [.ref h3, v18, v19, v20, v21, v22, v23, v24, v25, v26, v27, v28, v29, v30, v31, v32, v33, v34, v35, v36, v37, v38, v39, .int 1, v40]))]) (wr := [(h3, .inl (k3, 8277, .inl (fun _ => 0)))]) (va_runV (As := []) (rest := []) ⟨hx, hb, hml, hown, hts⟩ (c_X11_thrown_1 l hl0 D ad H.size h2 (.ref h3) (v18) (v19) (v20) (v21) (v22) (v23) (v24) (v25) (v26) (v27) (v28) (v29) (v30) (v31) (v32) (v33) (v34) (v35) (v36) (v37) (v38) (v39) (v40)) (cwV 0 hts hL_law_X11_thrown rfl rfl rfl (by decide +kernel) ⟨Nat.le_of_ble_eq_true rfl, Nat.le_of_ble_eq_true rfl⟩) ⟨PC_.blind, va_recv hK hP (ci := 14) (q0 := 0) rfl rfl, PC_.pre hF hK hP hD hS hA [0] [] rfl (by decide) rfl⟩ rfl rfl hl.1 rfl (lv_room (Nat.le_of_ble_eq_true rfl)) dL_law_1906 ⟨Nat.le_of_ble_eq_true rfl, Nat.le_of_ble_eq_true rfl⟩) hK hP hD hS hA [0] [1] [0] rfl rfl (by decide) (by decide) rfl (fun qa_3 ka_3 ia_3 H locs hpo hP hD hK hS => ?_)
  have hP : va_P D vwCl [(h3, .inl (k3, 8277, .inl (fun _ => 0))), (h2, .inr (14, [.ref h3, v18, v19, v20, v21, v22, v23, v24, v25, v26, v27, v28, v29, v30, v31, v32, v33, v34, v35, v36, v37, v38, v39, .int 1, v40]))] H := hP
  have hD : va_D A [(h3, .inl (k3, 8277, .inl (fun _ => 0))), (h2, .inr (14, [.ref h3, v18, v19, v20, v21, v22, v23, v24, v25, v26, v27, v28, v29, v30, v31, v32, v33, v34, v35, v36, v37, v38, v39, .int 1, v40]))] := hD
  have hK : va_K D vwCl [(k3, .int)] s := hK
  refine W.eq (g2 := F0 m 1909 ls [.int 1]) rfl ?_
  refine lv_iload hx hb dL_law_1909 (lv_at hl 1 rfl) ?_
  refine lv_icmp_eq (tgt := 1916) hx hb dL_law_1911 (by decide) (fun _ => ?_) (fun c9 => absurd (by decide +kernel) c9)
  refine lv_iload hx hb dL_law_1916 (lv_at hl 1 rfl) ?_
  refine lv_if_ne (tgt := 1933) hx hb dL_law_1918 (by decide) (fun _ => ?_) (fun c9 => absurd c9 (by decide +kernel))
  refine lv_goto (tgt := 2280) hx hb dL_law_1933 (by decide) ?_
  exact law_tail C0 hAe hS (lv_sub hl [7, 2] rfl) (Nat.le_of_ble_eq_true rfl) (Nat.le_of_ble_eq_true rfl)
