set_option maxHeartbeats 4000000 in
set_option maxRecDepth 100000 in
theorem law_case_10 {p : Program} {l : Launch} {e : Env} {s : State} {m : MethodId} {below : List Frame} {meth : Method} {c : Code} {b : Nat} {xs : Nat → Int32} {cells slots : Nat} {H : Heap} {locs : List Loc} {ls : Array Slot} {D : va_G} {ad : Nat → Nat} {A : Nat → Prop} (hl0 : l.stackTraces = false) (C0 : lw_At p s m meth c b 4 xs) (hAe : A = fun q : Nat => s.heap.size ≤ q) (hF : FX_ ad A s s.heap) (hS : va_S A s.heap H locs) (h0 : Nat) (h1 : Nat) (h2 : Nat) (h3 : Nat) (h4 : Nat) (k4 : ClassId) (r0 : Nat) (r1 : Nat) (v0 : Value) (v1 : Value) (v2 : Value) (v3 : Value) (v4 : Value) (v5 : Value) (v6 : Value) (v7 : Value) (v8 : Value) (v9 : Value) (v10 : Value) (v11 : Value) (v12 : Value) (v13 : Value) (v14 : Value) (v15 : Value) (v16 : Value) (v17 : Value) (v18 : Value) (v19 : Value) (v20 : Value) (v21 : Value) (v22 : Value) (v23 : Value) (v24 : Value) (v25 : Value) (v26 : Value) (v27 : Value) (v28 : Value) (v29 : Value) (v30 : Value) (v31 : Value) (v32 : Value) (v33 : Value) (v34 : Value) (v35 : Value) (v36 : Value) (v37 : Value) (v38 : Value) (v39 : Value) (v40 : Value) (v41 : Value) (v42 : Value) (p1 p2 p3 : Int32) (hp1 : xs 1 = p1) (hp2 : xs 2 = p2) (hp3 : xs 3 = p3) (hP : va_P D vwCl [(h0, .inr (13, [.ref h2, v0, v1, v2, v3, v4, v5, v6, v7, v8])), (h1, .inr (14, [.ref h4, v9, v10, v11, v12, v13, v14, v15, v16, v17, v18, v19, v20, v21, v22, v23, v24, v25, v26, v27, v28, v29, v30, .int 0, v31])), (h2, .inr (11, [v32, v33, v34, v35, .ref h3, v36, v37, v38, v39, v40])), (h3, .inr (8, [v41, .int 0, v42])), (h4, .inl (k4, 8277, .inl (fun _ => 0)))] H) (hD : va_D A [(h0, .inr (13, [.ref h2, v0, v1, v2, v3, v4, v5, v6, v7, v8])), (h1, .inr (14, [.ref h4, v9, v10, v11, v12, v13, v14, v15, v16, v17, v18, v19, v20, v21, v22, v23, v24, v25, v26, v27, v28, v29, v30, .int 0, v31])), (h2, .inr (11, [v32, v33, v34, v35, .ref h3, v36, v37, v38, v39, v40])), (h3, .inr (8, [v41, .int 0, v42])), (h4, .inl (k4, 8277, .inl (fun _ => 0)))]) (hK : va_K D vwCl [(k4, .int)] s) (hl : lv_has ls 9 [(5, .int 0), (4, .ref r1), (3, .ref r0), (2, .ref h1), (1, .ref h0), (0, .ref b)]) (hcc : cells ≤ 2200) (hss : slots ≤ 260000) : W p l e room_1 s m #[Value.ref b] below meth c H locs cells slots (lw_Z below #[Value.ref b] s) (F0 m 856 ls []) := by
  obtain ⟨hx, hb, hr, hml, hown, hts, hX, hbl, hlocks, hgv⟩ := id C0
  have hA : ∀ q : Nat, s.heap.size ≤ q → A q := fun q h => by rw [hAe]; exact h
  have hbA : ¬ A b := by rw [hAe]; exact Nat.not_le.mpr hbl
  refine W.widen (k := 2200) (n := 260000) hcc hss ?_
  have hi_X10 : ∀ w ∈ wsX100, w ∈ lw_tbl := inX10
  have hi_X11 : ∀ w ∈ wsX110, w ∈ lw_tbl := inX11
  have hi_X5 : ∀ w ∈ wsX50, w ∈ lw_tbl := inX5
  have hi_X8 : ∀ w ∈ wsX80, w ∈ lw_tbl := inX8
  by_cases c_1 : p2 < 0
  · refine lv_aload_n hx hb dL_law_856 rfl (lv_at hl 4 rfl) ?_
    refine lv_aload_n hx hb dL_law_857 rfl (lv_at hl 5 rfl) ?_
    refine lv_iload hx hb dL_law_858 (lv_at hl 0 rfl) ?_
    refine lv_iconst (v := 1) hx hb dL_law_860 (by decide) ?_
    refine lv_iadd hx hb dL_law_861 ?_
    refine kt_ (v := 1) (by decide +kernel) ?_
    refine va_sld hx hb hX hbl hbA hS (vin_ (by decide +kernel)) dL_law_862 ?_
    refine kt_ (v := p1) ((congrArg xs (by decide +kernel)).trans hp1) ?_
    refine lv_aload_n hx hb dL_law_863 rfl (lv_at hl 5 rfl) ?_
    refine lv_iload hx hb dL_law_864 (lv_at hl 0 rfl) ?_
    refine lv_iconst (v := 2) hx hb dL_law_866 (by decide) ?_
    refine lv_iadd hx hb dL_law_867 ?_
    refine kt_ (v := 2) (by decide +kernel) ?_
    refine va_sld hx hb hX hbl hbA hS (vin_ (by decide +kernel)) dL_law_868 ?_
    refine kt_ (v := p2) ((congrArg xs (by decide +kernel)).trans hp2) ?_
    refine lv_aload_n hx hb dL_law_869 rfl (lv_at hl 2 rfl) ?_
    refine kc_ (wc := [(h0, .inr (13, [.ref h2, v0, v1, v2, v3, v4, v5, v6, v7, v8]))]) (wr := [(h1, .inr (14, [.ref h4, v9, v10, v11, v12, v13, v14, v15, v16, v17, v18, v19, v20, v21, v22, v23, v24, v25, v26, v27, v28, v29, v30, .int 0, v31])), (h2, .inr (11, [v32, v33, v34, v35, .ref h3, v36, v37, v38, v39, v40])), (h3, .inr (8, [v41, .int 0, v42])), (h4, .inl (k4, 8277, .inl (fun _ => 0)))]) (vx_runSW (As := [.ref h0, .int p1, .int p2, .ref r0]) (rest := []) ⟨hx, hb, hml, hown, hts⟩ (c_L_letter_0 l hl0 D ad H.size h0 r0 (.ref h2) (v0) (v1) (v2) (v3) (v4) (v5) (v6) (v7) (v8) p1 p2 c_1) (vx_cwSW 4 hts hL_law_L_letter rfl rfl rfl (by decide +kernel) ⟨Nat.le_of_ble_eq_true rfl, Nat.le_of_ble_eq_true rfl⟩) ⟨PC_.blind, PC_.pre hF hK hP hD hS hA [0] [] rfl (by decide) rfl⟩ rfl rfl hl.1 rfl (lv_room (Nat.le_of_ble_eq_true rfl)) dL_law_870 ⟨Nat.le_of_ble_eq_true rfl, Nat.le_of_ble_eq_true rfl⟩) hK hP hD hS hA [0] [1, 2, 3, 4] [0] rfl rfl (by decide) (by decide) rfl (fun qa_2 ka_2 ia_2 H locs hpo hP hD hK hS => ?_)
    have hP : va_P D vwCl [(h1, .inr (14, [.ref h4, v9, v10, v11, v12, v13, v14, v15, v16, v17, v18, v19, v20, v21, v22, v23, v24, v25, v26, v27, v28, v29, v30, .int 0, v31])), (h2, .inr (11, [v32, v33, v34, v35, .ref h3, v36, v37, v38, v39, v40])), (h3, .inr (8, [v41, .int 0, v42])), (h4, .inl (k4, 8277, .inl (fun _ => 0)))] H := hP
    have hD : va_D A [(h1, .inr (14, [.ref h4, v9, v10, v11, v12, v13, v14, v15, v16, v17, v18, v19, v20, v21, v22, v23, v24, v25, v26, v27, v28, v29, v30, .int 0, v31])), (h2, .inr (11, [v32, v33, v34, v35, .ref h3, v36, v37, v38, v39, v40])), (h3, .inr (8, [v41, .int 0, v42])), (h4, .inl (k4, 8277, .inl (fun _ => 0)))] := hD
    have hK : va_K D vwCl [(k4, .int)] s := hK
    refine W.eq (g2 := F0 m 873 ls [.int 1]) rfl ?_
    refine lv_istore (lv' := [(6, .int 1), (5, .int 0), (4, .ref r1), (3, .ref r0), (2, .ref h1), (1, .ref h0), (0, .ref b)]) hx hb dL_law_873 hl (by decide) rfl (fun ls hl => ?_)
    refine lv_aload_n hx hb dL_law_875 rfl (lv_at hl 4 rfl) ?_
    refine lv_aload_n hx hb dL_law_876 rfl (lv_at hl 6 rfl) ?_
    refine lv_iload hx hb dL_law_877 (lv_at hl 1 rfl) ?_
    refine lv_iconst (v := 1) hx hb dL_law_879 (by decide) ?_
    refine lv_iadd hx hb dL_law_880 ?_
    refine kt_ (v := 1) (by decide +kernel) ?_
    refine va_sld hx hb hX hbl hbA hS (vin_ (by decide +kernel)) dL_law_881 ?_
    refine kt_ (v := p1) ((congrArg xs (by decide +kernel)).trans hp1) ?_
    refine lv_aload_n hx hb dL_law_882 rfl (lv_at hl 6 rfl) ?_
    refine lv_iload hx hb dL_law_883 (lv_at hl 1 rfl) ?_
    refine lv_iconst (v := 2) hx hb dL_law_885 (by decide) ?_
    refine lv_iadd hx hb dL_law_886 ?_
    refine kt_ (v := 2) (by decide +kernel) ?_
    refine va_sld hx hb hX hbl hbA hS (vin_ (by decide +kernel)) dL_law_887 ?_
    refine kt_ (v := p2) ((congrArg xs (by decide +kernel)).trans hp2) ?_
    refine kc_ (wc := [(h1, .inr (14, [.ref h4, v9, v10, v11, v12, v13, v14, v15, v16, v17, v18, v19, v20, v21, v22, v23, v24, v25, v26, v27, v28, v29, v30, .int 0, v31]))]) (wr := [(h2, .inr (11, [v32, v33, v34, v35, .ref h3, v36, v37, v38, v39, v40])), (h3, .inr (8, [v41, .int 0, v42])), (h4, .inl (k4, 8277, .inl (fun _ => 0)))]) (va_runV (As := [.int p1, .int p2]) (rest := []) ⟨hx, hb, hml, hown, hts⟩ (c_X11_letter_0 l hl0 D ad H.size h1 (.ref h4) (v9) (v10) (v11) (v12) (v13) (v14) (v15) (v16) (v17) (v18) (v19) (v20) (v21) (v22) (v23) (v24) (v25) (v26) (v27) (v28) (v29) (v30) (.int 0) (v31) p1 p2 c_1) (cwV 2 hts hL_law_X11_letter rfl rfl rfl (by decide +kernel) ⟨Nat.le_of_ble_eq_true rfl, Nat.le_of_ble_eq_true rfl⟩) ⟨PC_.blind, va_recv hK hP (ci := 14) (q0 := 0) rfl rfl, PC_.pre hF hK hP hD hS hA [0] [] rfl (by decide) rfl⟩ rfl rfl hl.1 rfl (lv_room (Nat.le_of_ble_eq_true rfl)) dL_law_888 ⟨Nat.le_of_ble_eq_true rfl, Nat.le_of_ble_eq_true rfl⟩) hK hP hD hS hA [0] [1, 2, 3] [0] rfl rfl (by decide) (by decide) rfl (fun qa_3 ka_3 ia_3 H locs hpo hP hD hK hS => ?_)
    have hP : va_P D vwCl [(h2, .inr (11, [v32, v33, v34, v35, .ref h3, v36, v37, v38, v39, v40])), (h3, .inr (8, [v41, .int 0, v42])), (h4, .inl (k4, 8277, .inl (fun _ => 0))), (h1, .inr (14, [.ref h4, v9, v10, v11, v12, v13, v14, v15, v16, v17, v18, v19, v20, v21, v22, v23, v24, v25, v26, v27, v28, v29, v30, .int 1, v31]))] H := hP
    have hD : va_D A [(h2, .inr (11, [v32, v33, v34, v35, .ref h3, v36, v37, v38, v39, v40])), (h3, .inr (8, [v41, .int 0, v42])), (h4, .inl (k4, 8277, .inl (fun _ => 0))), (h1, .inr (14, [.ref h4, v9, v10, v11, v12, v13, v14, v15, v16, v17, v18, v19, v20, v21, v22, v23, v24, v25, v26, v27, v28, v29, v30, .int 1, v31]))] := hD
    have hK : va_K D vwCl [(k4, .int)] s := hK
    refine W.eq (g2 := F0 m 891 ls [.int 0]) rfl ?_
    refine lv_istore (lv' := [(7, .int 0), (6, .int 1), (5, .int 0), (4, .ref r1), (3, .ref r0), (2, .ref h1), (1, .ref h0), (0, .ref b)]) hx hb dL_law_891 hl (by decide) rfl (fun ls hl => ?_)
    refine lv_aload_n hx hb dL_law_893 rfl (lv_at hl 5 rfl) ?_
    refine kc_ (wc := [(h1, .inr (14, [.ref h4, v9, v10, v11, v12, v13, v14, v15, v16, v17, v18, v19, v20, v21, v22, v23, v24, v25, v26, v27, v28, v29, v30, .int 1, v31]))]) (wr := [(h2, .inr (11, [v32, v33, v34, v35, .ref h3, v36, v37, v38, v39, v40])), (h3, .inr (8, [v41, .int 0, v42])), (h4, .inl (k4, 8277, .inl (fun _ => 0)))]) (va_runV (As := []) (rest := []) ⟨hx, hb, hml, hown, hts⟩ (c_X11_thrown_1 l hl0 D ad H.size h1 (.ref h4) (v9) (v10) (v11) (v12) (v13) (v14) (v15) (v16) (v17) (v18) (v19) (v20) (v21) (v22) (v23) (v24) (v25) (v26) (v27) (v28) (v29) (v30) (v31)) (cwV 0 hts hL_law_X11_thrown rfl rfl rfl (by decide +kernel) ⟨Nat.le_of_ble_eq_true rfl, Nat.le_of_ble_eq_true rfl⟩) ⟨PC_.blind, va_recv hK hP (ci := 14) (q0 := 3) rfl rfl, PC_.pre hF hK hP hD hS hA [3] [] rfl (by decide) rfl⟩ rfl rfl hl.1 rfl (lv_room (Nat.le_of_ble_eq_true rfl)) dL_law_894 ⟨Nat.le_of_ble_eq_true rfl, Nat.le_of_ble_eq_true rfl⟩) hK hP hD hS hA [3] [0, 1, 2] [0] rfl rfl (by decide) (by decide) rfl (fun qa_4 ka_4 ia_4 H locs hpo hP hD hK hS => ?_)
    have hP : va_P D vwCl [(h2, .inr (11, [v32, v33, v34, v35, .ref h3, v36, v37, v38, v39, v40])), (h3, .inr (8, [v41, .int 0, v42])), (h4, .inl (k4, 8277, .inl (fun _ => 0))), (h1, .inr (14, [.ref h4, v9, v10, v11, v12, v13, v14, v15, v16, v17, v18, v19, v20, v21, v22, v23, v24, v25, v26, v27, v28, v29, v30, .int 1, v31]))] H := hP
    have hD : va_D A [(h2, .inr (11, [v32, v33, v34, v35, .ref h3, v36, v37, v38, v39, v40])), (h3, .inr (8, [v41, .int 0, v42])), (h4, .inl (k4, 8277, .inl (fun _ => 0))), (h1, .inr (14, [.ref h4, v9, v10, v11, v12, v13, v14, v15, v16, v17, v18, v19, v20, v21, v22, v23, v24, v25, v26, v27, v28, v29, v30, .int 1, v31]))] := hD
    have hK : va_K D vwCl [(k4, .int)] s := hK
    refine W.eq (g2 := F0 m 897 ls [.int 1]) rfl ?_
    refine lv_iload hx hb dL_law_897 (lv_at hl 1 rfl) ?_
    refine lv_icmp_eq (tgt := 904) hx hb dL_law_899 (by decide) (fun _ => ?_) (fun c9 => absurd (by decide +kernel) c9)
    refine lv_iload hx hb dL_law_904 (lv_at hl 1 rfl) ?_
    refine lv_if_ne (tgt := 921) hx hb dL_law_906 (by decide) (fun _ => ?_) (fun c9 => absurd c9 (by decide +kernel))
    refine lv_goto (tgt := 2280) hx hb dL_law_921 (by decide) ?_
    exact law_tail C0 hAe hS (lv_sub hl [7, 2] rfl) (Nat.le_of_ble_eq_true rfl) (Nat.le_of_ble_eq_true rfl)
  · by_cases c_5 : 3 < p2
    · refine lv_aload_n hx hb dL_law_856 rfl (lv_at hl 4 rfl) ?_
      refine lv_aload_n hx hb dL_law_857 rfl (lv_at hl 5 rfl) ?_
      refine lv_iload hx hb dL_law_858 (lv_at hl 0 rfl) ?_
      refine lv_iconst (v := 1) hx hb dL_law_860 (by decide) ?_
      refine lv_iadd hx hb dL_law_861 ?_
      refine kt_ (v := 1) (by decide +kernel) ?_
      refine va_sld hx hb hX hbl hbA hS (vin_ (by decide +kernel)) dL_law_862 ?_
      refine kt_ (v := p1) ((congrArg xs (by decide +kernel)).trans hp1) ?_
      refine lv_aload_n hx hb dL_law_863 rfl (lv_at hl 5 rfl) ?_
      refine lv_iload hx hb dL_law_864 (lv_at hl 0 rfl) ?_
      refine lv_iconst (v := 2) hx hb dL_law_866 (by decide) ?_
      refine lv_iadd hx hb dL_law_867 ?_
      refine kt_ (v := 2) (by decide +kernel) ?_
      refine va_sld hx hb hX hbl hbA hS (vin_ (by decide +kernel)) dL_law_868 ?_
      refine kt_ (v := p2) ((congrArg xs (by decide +kernel)).trans hp2) ?_
      refine lv_aload_n hx hb dL_law_869 rfl (lv_at hl 2 rfl) ?_
      refine kc_ (wc := [(h0, .inr (13, [.ref h2, v0, v1, v2, v3, v4, v5, v6, v7, v8]))]) (wr := [(h1, .inr (14, [.ref h4, v9, v10, v11, v12, v13, v14, v15, v16, v17, v18, v19, v20, v21, v22, v23, v24, v25, v26, v27, v28, v29, v30, .int 0, v31])), (h2, .inr (11, [v32, v33, v34, v35, .ref h3, v36, v37, v38, v39, v40])), (h3, .inr (8, [v41, .int 0, v42])), (h4, .inl (k4, 8277, .inl (fun _ => 0)))]) (vx_runSW (As := [.ref h0, .int p1, .int p2, .ref r0]) (rest := []) ⟨hx, hb, hml, hown, hts⟩ (c_L_letter_1 l hl0 D ad H.size h0 r0 (.ref h2) (v0) (v1) (v2) (v3) (v4) (v5) (v6) (v7) (v8) p1 p2 c_1 c_5) (vx_cwSW 4 hts hL_law_L_letter rfl rfl rfl (by decide +kernel) ⟨Nat.le_of_ble_eq_true rfl, Nat.le_of_ble_eq_true rfl⟩) ⟨PC_.blind, PC_.pre hF hK hP hD hS hA [0] [] rfl (by decide) rfl⟩ rfl rfl hl.1 rfl (lv_room (Nat.le_of_ble_eq_true rfl)) dL_law_870 ⟨Nat.le_of_ble_eq_true rfl, Nat.le_of_ble_eq_true rfl⟩) hK hP hD hS hA [0] [1, 2, 3, 4] [0] rfl rfl (by decide) (by decide) rfl (fun qa_6 ka_6 ia_6 H locs hpo hP hD hK hS => ?_)
      have hP : va_P D vwCl [(h1, .inr (14, [.ref h4, v9, v10, v11, v12, v13, v14, v15, v16, v17, v18, v19, v20, v21, v22, v23, v24, v25, v26, v27, v28, v29, v30, .int 0, v31])), (h2, .inr (11, [v32, v33, v34, v35, .ref h3, v36, v37, v38, v39, v40])), (h3, .inr (8, [v41, .int 0, v42])), (h4, .inl (k4, 8277, .inl (fun _ => 0)))] H := hP
      have hD : va_D A [(h1, .inr (14, [.ref h4, v9, v10, v11, v12, v13, v14, v15, v16, v17, v18, v19, v20, v21, v22, v23, v24, v25, v26, v27, v28, v29, v30, .int 0, v31])), (h2, .inr (11, [v32, v33, v34, v35, .ref h3, v36, v37, v38, v39, v40])), (h3, .inr (8, [v41, .int 0, v42])), (h4, .inl (k4, 8277, .inl (fun _ => 0)))] := hD
      have hK : va_K D vwCl [(k4, .int)] s := hK
      refine W.eq (g2 := F0 m 873 ls [.int 1]) rfl ?_
      refine lv_istore (lv' := [(6, .int 1), (5, .int 0), (4, .ref r1), (3, .ref r0), (2, .ref h1), (1, .ref h0), (0, .ref b)]) hx hb dL_law_873 hl (by decide) rfl (fun ls hl => ?_)
      refine lv_aload_n hx hb dL_law_875 rfl (lv_at hl 4 rfl) ?_
      refine lv_aload_n hx hb dL_law_876 rfl (lv_at hl 6 rfl) ?_
      refine lv_iload hx hb dL_law_877 (lv_at hl 1 rfl) ?_
      refine lv_iconst (v := 1) hx hb dL_law_879 (by decide) ?_
      refine lv_iadd hx hb dL_law_880 ?_
      refine kt_ (v := 1) (by decide +kernel) ?_
      refine va_sld hx hb hX hbl hbA hS (vin_ (by decide +kernel)) dL_law_881 ?_
      refine kt_ (v := p1) ((congrArg xs (by decide +kernel)).trans hp1) ?_
      refine lv_aload_n hx hb dL_law_882 rfl (lv_at hl 6 rfl) ?_
      refine lv_iload hx hb dL_law_883 (lv_at hl 1 rfl) ?_
      refine lv_iconst (v := 2) hx hb dL_law_885 (by decide) ?_
      refine lv_iadd hx hb dL_law_886 ?_
      refine kt_ (v := 2) (by decide +kernel) ?_
      refine va_sld hx hb hX hbl hbA hS (vin_ (by decide +kernel)) dL_law_887 ?_
      refine kt_ (v := p2) ((congrArg xs (by decide +kernel)).trans hp2) ?_
      refine kc_ (wc := [(h1, .inr (14, [.ref h4, v9, v10, v11, v12, v13, v14, v15, v16, v17, v18, v19, v20, v21, v22, v23, v24, v25, v26, v27, v28, v29, v30, .int 0, v31]))]) (wr := [(h2, .inr (11, [v32, v33, v34, v35, .ref h3, v36, v37, v38, v39, v40])), (h3, .inr (8, [v41, .int 0, v42])), (h4, .inl (k4, 8277, .inl (fun _ => 0)))]) (va_runV (As := [.int p1, .int p2]) (rest := []) ⟨hx, hb, hml, hown, hts⟩ (c_X11_letter_1 l hl0 D ad H.size h1 (.ref h4) (v9) (v10) (v11) (v12) (v13) (v14) (v15) (v16) (v17) (v18) (v19) (v20) (v21) (v22) (v23) (v24) (v25) (v26) (v27) (v28) (v29) (v30) (.int 0) (v31) p1 p2 c_1 c_5) (cwV 2 hts hL_law_X11_letter rfl rfl rfl (by decide +kernel) ⟨Nat.le_of_ble_eq_true rfl, Nat.le_of_ble_eq_true rfl⟩) ⟨PC_.blind, va_recv hK hP (ci := 14) (q0 := 0) rfl rfl, PC_.pre hF hK hP hD hS hA [0] [] rfl (by decide) rfl⟩ rfl rfl hl.1 rfl (lv_room (Nat.le_of_ble_eq_true rfl)) dL_law_888 ⟨Nat.le_of_ble_eq_true rfl, Nat.le_of_ble_eq_true rfl⟩) hK hP hD hS hA [0] [1, 2, 3] [0] rfl rfl (by decide) (by decide) rfl (fun qa_7 ka_7 ia_7 H locs hpo hP hD hK hS => ?_)
      have hP : va_P D vwCl [(h2, .inr (11, [v32, v33, v34, v35, .ref h3, v36, v37, v38, v39, v40])), (h3, .inr (8, [v41, .int 0, v42])), (h4, .inl (k4, 8277, .inl (fun _ => 0))), (h1, .inr (14, [.ref h4, v9, v10, v11, v12, v13, v14, v15, v16, v17, v18, v19, v20, v21, v22, v23, v24, v25, v26, v27, v28, v29, v30, .int 1, v31]))] H := hP
      have hD : va_D A [(h2, .inr (11, [v32, v33, v34, v35, .ref h3, v36, v37, v38, v39, v40])), (h3, .inr (8, [v41, .int 0, v42])), (h4, .inl (k4, 8277, .inl (fun _ => 0))), (h1, .inr (14, [.ref h4, v9, v10, v11, v12, v13, v14, v15, v16, v17, v18, v19, v20, v21, v22, v23, v24, v25, v26, v27, v28, v29, v30, .int 1, v31]))] := hD
      have hK : va_K D vwCl [(k4, .int)] s := hK
      refine W.eq (g2 := F0 m 891 ls [.int 0]) rfl ?_
      refine lv_istore (lv' := [(7, .int 0), (6, .int 1), (5, .int 0), (4, .ref r1), (3, .ref r0), (2, .ref h1), (1, .ref h0), (0, .ref b)]) hx hb dL_law_891 hl (by decide) rfl (fun ls hl => ?_)
      refine lv_aload_n hx hb dL_law_893 rfl (lv_at hl 5 rfl) ?_
      refine kc_ (wc := [(h1, .inr (14, [.ref h4, v9, v10, v11, v12, v13, v14, v15, v16, v17, v18, v19, v20, v21, v22, v23, v24, v25, v26, v27, v28, v29, v30, .int 1, v31]))]) (wr := [(h2, .inr (11, [v32, v33, v34, v35, .ref h3, v36, v37, v38, v39, v40])), (h3, .inr (8, [v41, .int 0, v42])), (h4, .inl (k4, 8277, .inl (fun _ => 0)))]) (va_runV (As := []) (rest := []) ⟨hx, hb, hml, hown, hts⟩ (c_X11_thrown_1 l hl0 D ad H.size h1 (.ref h4) (v9) (v10) (v11) (v12) (v13) (v14) (v15) (v16) (v17) (v18) (v19) (v20) (v21) (v22) (v23) (v24) (v25) (v26) (v27) (v28) (v29) (v30) (v31)) (cwV 0 hts hL_law_X11_thrown rfl rfl rfl (by decide +kernel) ⟨Nat.le_of_ble_eq_true rfl, Nat.le_of_ble_eq_true rfl⟩) ⟨PC_.blind, va_recv hK hP (ci := 14) (q0 := 3) rfl rfl, PC_.pre hF hK hP hD hS hA [3] [] rfl (by decide) rfl⟩ rfl rfl hl.1 rfl (lv_room (Nat.le_of_ble_eq_true rfl)) dL_law_894 ⟨Nat.le_of_ble_eq_true rfl, Nat.le_of_ble_eq_true rfl⟩) hK hP hD hS hA [3] [0, 1, 2] [0] rfl rfl (by decide) (by decide) rfl (fun qa_8 ka_8 ia_8 H locs hpo hP hD hK hS => ?_)
      have hP : va_P D vwCl [(h2, .inr (11, [v32, v33, v34, v35, .ref h3, v36, v37, v38, v39, v40])), (h3, .inr (8, [v41, .int 0, v42])), (h4, .inl (k4, 8277, .inl (fun _ => 0))), (h1, .inr (14, [.ref h4, v9, v10, v11, v12, v13, v14, v15, v16, v17, v18, v19, v20, v21, v22, v23, v24, v25, v26, v27, v28, v29, v30, .int 1, v31]))] H := hP
      have hD : va_D A [(h2, .inr (11, [v32, v33, v34, v35, .ref h3, v36, v37, v38, v39, v40])), (h3, .inr (8, [v41, .int 0, v42])), (h4, .inl (k4, 8277, .inl (fun _ => 0))), (h1, .inr (14, [.ref h4, v9, v10, v11, v12, v13, v14, v15, v16, v17, v18, v19, v20, v21, v22, v23, v24, v25, v26, v27, v28, v29, v30, .int 1, v31]))] := hD
      have hK : va_K D vwCl [(k4, .int)] s := hK
      refine W.eq (g2 := F0 m 897 ls [.int 1]) rfl ?_
      refine lv_iload hx hb dL_law_897 (lv_at hl 1 rfl) ?_
      refine lv_icmp_eq (tgt := 904) hx hb dL_law_899 (by decide) (fun _ => ?_) (fun c9 => absurd (by decide +kernel) c9)
      refine lv_iload hx hb dL_law_904 (lv_at hl 1 rfl) ?_
      refine lv_if_ne (tgt := 921) hx hb dL_law_906 (by decide) (fun _ => ?_) (fun c9 => absurd c9 (by decide +kernel))
      refine lv_goto (tgt := 2280) hx hb dL_law_921 (by decide) ?_
      exact law_tail C0 hAe hS (lv_sub hl [7, 2] rfl) (Nat.le_of_ble_eq_true rfl) (Nat.le_of_ble_eq_true rfl)
    · refine lv_aload_n hx hb dL_law_856 rfl (lv_at hl 4 rfl) ?_
      refine lv_aload_n hx hb dL_law_857 rfl (lv_at hl 5 rfl) ?_
      refine lv_iload hx hb dL_law_858 (lv_at hl 0 rfl) ?_
      refine lv_iconst (v := 1) hx hb dL_law_860 (by decide) ?_
      refine lv_iadd hx hb dL_law_861 ?_
      refine kt_ (v := 1) (by decide +kernel) ?_
      refine va_sld hx hb hX hbl hbA hS (vin_ (by decide +kernel)) dL_law_862 ?_
      refine kt_ (v := p1) ((congrArg xs (by decide +kernel)).trans hp1) ?_
      refine lv_aload_n hx hb dL_law_863 rfl (lv_at hl 5 rfl) ?_
      refine lv_iload hx hb dL_law_864 (lv_at hl 0 rfl) ?_
      refine lv_iconst (v := 2) hx hb dL_law_866 (by decide) ?_
      refine lv_iadd hx hb dL_law_867 ?_
      refine kt_ (v := 2) (by decide +kernel) ?_
      refine va_sld hx hb hX hbl hbA hS (vin_ (by decide +kernel)) dL_law_868 ?_
      refine kt_ (v := p2) ((congrArg xs (by decide +kernel)).trans hp2) ?_
      refine lv_aload_n hx hb dL_law_869 rfl (lv_at hl 2 rfl) ?_
      refine kc_ (wc := [(h0, .inr (13, [.ref h2, v0, v1, v2, v3, v4, v5, v6, v7, v8])), (h2, .inr (11, [v32, v33, v34, v35, .ref h3, v36, v37, v38, v39, v40])), (h3, .inr (8, [v41, .int 0, v42]))]) (wr := [(h1, .inr (14, [.ref h4, v9, v10, v11, v12, v13, v14, v15, v16, v17, v18, v19, v20, v21, v22, v23, v24, v25, v26, v27, v28, v29, v30, .int 0, v31])), (h4, .inl (k4, 8277, .inl (fun _ => 0)))]) (vx_runSW (As := [.ref h0, .int p1, .int p2, .ref r0]) (rest := []) ⟨hx, hb, hml, hown, hts⟩ (c_L_letter_2 l hl0 D ad H.size h0 h2 h3 r0 (v0) (v1) (v2) (v3) (v4) (v5) (v6) (v7) (v8) (v32) (v33) (v34) (v35) (v36) (v37) (v38) (v39) (v40) (v41) (v42) p1 p2 c_1 c_5) (vx_cwSW 4 hts hL_law_L_letter rfl rfl rfl (by decide +kernel) ⟨Nat.le_of_ble_eq_true rfl, Nat.le_of_ble_eq_true rfl⟩) ⟨PC_.blind, PC_.pre hF hK hP hD hS hA [0, 2, 3] [] rfl (by decide) rfl⟩ rfl rfl hl.1 rfl (lv_room (Nat.le_of_ble_eq_true rfl)) dL_law_870 ⟨Nat.le_of_ble_eq_true rfl, Nat.le_of_ble_eq_true rfl⟩) hK hP hD hS hA [0, 2, 3] [1, 4] [0] rfl rfl (by decide) (by decide) rfl (fun qa_9 ka_9 ia_9 H locs hpo hP hD hK hS => ?_)
      have hP : va_P D vwCl [(h1, .inr (14, [.ref h4, v9, v10, v11, v12, v13, v14, v15, v16, v17, v18, v19, v20, v21, v22, v23, v24, v25, v26, v27, v28, v29, v30, .int 0, v31])), (h4, .inl (k4, 8277, .inl (fun _ => 0)))] H := hP
      have hD : va_D A [(h1, .inr (14, [.ref h4, v9, v10, v11, v12, v13, v14, v15, v16, v17, v18, v19, v20, v21, v22, v23, v24, v25, v26, v27, v28, v29, v30, .int 0, v31])), (h4, .inl (k4, 8277, .inl (fun _ => 0)))] := hD
      have hK : va_K D vwCl [(k4, .int)] s := hK
      refine W.eq (g2 := F0 m 873 ls [.int 2]) rfl ?_
      refine lv_istore (lv' := [(6, .int 2), (5, .int 0), (4, .ref r1), (3, .ref r0), (2, .ref h1), (1, .ref h0), (0, .ref b)]) hx hb dL_law_873 hl (by decide) rfl (fun ls hl => ?_)
      refine lv_aload_n hx hb dL_law_875 rfl (lv_at hl 4 rfl) ?_
      refine lv_aload_n hx hb dL_law_876 rfl (lv_at hl 6 rfl) ?_
      refine lv_iload hx hb dL_law_877 (lv_at hl 1 rfl) ?_
      refine lv_iconst (v := 1) hx hb dL_law_879 (by decide) ?_
      refine lv_iadd hx hb dL_law_880 ?_
      refine kt_ (v := 1) (by decide +kernel) ?_
      refine va_sld hx hb hX hbl hbA hS (vin_ (by decide +kernel)) dL_law_881 ?_
      refine kt_ (v := p1) ((congrArg xs (by decide +kernel)).trans hp1) ?_
      refine lv_aload_n hx hb dL_law_882 rfl (lv_at hl 6 rfl) ?_
      refine lv_iload hx hb dL_law_883 (lv_at hl 1 rfl) ?_
      refine lv_iconst (v := 2) hx hb dL_law_885 (by decide) ?_
      refine lv_iadd hx hb dL_law_886 ?_
      refine kt_ (v := 2) (by decide +kernel) ?_
      refine va_sld hx hb hX hbl hbA hS (vin_ (by decide +kernel)) dL_law_887 ?_
      refine kt_ (v := p2) ((congrArg xs (by decide +kernel)).trans hp2) ?_
      refine kc_ (wc := [(h1, .inr (14, [.ref h4, v9, v10, v11, v12, v13, v14, v15, v16, v17, v18, v19, v20, v21, v22, v23, v24, v25, v26, v27, v28, v29, v30, .int 0, v31])), (h4, .inl (k4, 8277, .inl (fun _ => 0)))]) (wr := []) (va_runV (As := [.int p1, .int p2]) (rest := []) ⟨hx, hb, hml, hown, hts⟩ (c_X11_letter_2 l hl0 D ad H.size h1 h4 k4 (v9) (v10) (v11) (v12) (v13) (v14) (v15) (v16) (v17) (v18) (v19) (v20) (v21) (v22) (v23) (v24) (v25) (v26) (v27) (v28) (v29) (v30) (.int 0) (v31) p1 p2 c_1 c_5) (cwV 2 hts hL_law_X11_letter rfl rfl rfl (by decide +kernel) ⟨Nat.le_of_ble_eq_true rfl, Nat.le_of_ble_eq_true rfl⟩) ⟨PC_.blind, va_recv hK hP (ci := 14) (q0 := 0) rfl rfl, PC_.pre hF hK hP hD hS hA [0, 1] [0] rfl (by decide) rfl⟩ rfl rfl hl.1 rfl (lv_room (Nat.le_of_ble_eq_true rfl)) dL_law_888 ⟨Nat.le_of_ble_eq_true rfl, Nat.le_of_ble_eq_true rfl⟩) hK hP hD hS hA [0, 1] [] [] rfl rfl (by decide) (by decide) rfl (fun qa_10 ka_10 ia_10 H locs hpo hP hD hK hS => ?_)
      have hP : va_P D vwCl [(h1, .inr (14, [.ref h4, v9, v10, v11, v12, v13, v14, v15, v16, v17, v18, v19, v20, v21, v22, v23, v24, v25, v26, v27, v28, v29, v30, .int 2, v31])), (h4, .inl (k4, 8277, .inl (fun _ => 0)))] H := hP
      have hD : va_D A [(h1, .inr (14, [.ref h4, v9, v10, v11, v12, v13, v14, v15, v16, v17, v18, v19, v20, v21, v22, v23, v24, v25, v26, v27, v28, v29, v30, .int 2, v31])), (h4, .inl (k4, 8277, .inl (fun _ => 0)))] := hD
      have hK : va_K D vwCl [(k4, .int)] s := hK
      refine W.eq (g2 := F0 m 891 ls [.int 0]) rfl ?_
      refine lv_istore (lv' := [(7, .int 0), (6, .int 2), (5, .int 0), (4, .ref r1), (3, .ref r0), (2, .ref h1), (1, .ref h0), (0, .ref b)]) hx hb dL_law_891 hl (by decide) rfl (fun ls hl => ?_)
      refine lv_aload_n hx hb dL_law_893 rfl (lv_at hl 5 rfl) ?_
      refine kc_ (wc := [(h1, .inr (14, [.ref h4, v9, v10, v11, v12, v13, v14, v15, v16, v17, v18, v19, v20, v21, v22, v23, v24, v25, v26, v27, v28, v29, v30, .int 2, v31]))]) (wr := [(h4, .inl (k4, 8277, .inl (fun _ => 0)))]) (va_runV (As := []) (rest := []) ⟨hx, hb, hml, hown, hts⟩ (c_X11_thrown_2 l hl0 D ad H.size h1 (.ref h4) (v9) (v10) (v11) (v12) (v13) (v14) (v15) (v16) (v17) (v18) (v19) (v20) (v21) (v22) (v23) (v24) (v25) (v26) (v27) (v28) (v29) (v30) (v31)) (cwV 0 hts hL_law_X11_thrown rfl rfl rfl (by decide +kernel) ⟨Nat.le_of_ble_eq_true rfl, Nat.le_of_ble_eq_true rfl⟩) ⟨PC_.blind, va_recv hK hP (ci := 14) (q0 := 0) rfl rfl, PC_.pre hF hK hP hD hS hA [0] [] rfl (by decide) rfl⟩ rfl rfl hl.1 rfl (lv_room (Nat.le_of_ble_eq_true rfl)) dL_law_894 ⟨Nat.le_of_ble_eq_true rfl, Nat.le_of_ble_eq_true rfl⟩) hK hP hD hS hA [0] [1] [0] rfl rfl (by decide) (by decide) rfl (fun qa_11 ka_11 ia_11 H locs hpo hP hD hK hS => ?_)
      have hP : va_P D vwCl [(h4, .inl (k4, 8277, .inl (fun _ => 0))), (h1, .inr (14, [.ref h4, v9, v10, v11, v12, v13, v14, v15, v16, v17, v18, v19, v20, v21, v22, v23, v24, v25, v26, v27, v28, v29, v30, .int 2, v31]))] H := hP
      have hD : va_D A [(h4, .inl (k4, 8277, .inl (fun _ => 0))), (h1, .inr (14, [.ref h4, v9, v10, v11, v12, v13, v14, v15, v16, v17, v18, v19, v20, v21, v22, v23, v24, v25, v26, v27, v28, v29, v30, .int 2, v31]))] := hD
      have hK : va_K D vwCl [(k4, .int)] s := hK
      refine W.eq (g2 := F0 m 897 ls [.int 2]) rfl ?_
      refine lv_iload hx hb dL_law_897 (lv_at hl 1 rfl) ?_
      refine lv_icmp_eq (tgt := 904) hx hb dL_law_899 (by decide) (fun _ => ?_) (fun c9 => absurd (by decide +kernel) c9)
      refine lv_iload hx hb dL_law_904 (lv_at hl 1 rfl) ?_
      refine lv_if_ne (tgt := 921) hx hb dL_law_906 (by decide) (fun _ => ?_) (fun c9 => absurd c9 (by decide +kernel))
      refine lv_goto (tgt := 2280) hx hb dL_law_921 (by decide) ?_
      exact law_tail C0 hAe hS (lv_sub hl [7, 2] rfl) (Nat.le_of_ble_eq_true rfl) (Nat.le_of_ble_eq_true rfl)
set_option maxHeartbeats 4000000 in
set_option maxRecDepth 100000 in
theorem law_case_11 {p : Program} {l : Launch} {e : Env} {s : State} {m : MethodId} {below : List Frame} {meth : Method} {c : Code} {b : Nat} {xs : Nat → Int32} {cells slots : Nat} {H : Heap} {locs : List Loc} {ls : Array Slot} {D : va_G} {ad : Nat → Nat} {A : Nat → Prop} (hl0 : l.stackTraces = false) (C0 : lw_At p s m meth c b 4 xs) (hAe : A = fun q : Nat => s.heap.size ≤ q) (hF : FX_ ad A s s.heap) (hS : va_S A s.heap H locs) (h0 : Nat) (h1 : Nat) (h2 : Nat) (h3 : Nat) (k3 : ClassId) (r0 : Nat) (r1 : Nat) (v0 : Value) (v1 : Value) (v2 : Value) (v3 : Value) (v4 : Value) (v5 : Value) (v6 : Value) (v7 : Value) (v8 : Value) (v9 : Value) (v10 : Value) (v11 : Value) (v12 : Value) (v13 : Value) (v14 : Value) (v15 : Value) (v16 : Value) (v17 : Value) (v18 : Value) (v19 : Value) (v20 : Value) (v21 : Value) (v22 : Value) (v23 : Value) (v24 : Value) (v25 : Value) (v26 : Value) (v27 : Value) (v28 : Value) (v29 : Value) (v30 : Value) (v31 : Value) (v32 : Value) (v33 : Value) (v34 : Value) (v35 : Value) (v36 : Value) (v37 : Value) (v38 : Value) (v39 : Value) (v40 : Value) (p1 p2 p3 : Int32) (hp1 : xs 1 = p1) (hp2 : xs 2 = p2) (hp3 : xs 3 = p3) (hP : va_P D vwCl [(h0, .inr (13, [.ref h1, v0, v1, v2, v3, v4, v5, v6, v7, v8])), (h1, .inr (11, [v9, v10, v11, v12, v13, .int 0, v14, v15, v16, v17])), (h2, .inr (14, [.ref h3, v18, v19, v20, v21, v22, v23, v24, v25, v26, v27, v28, v29, v30, v31, v32, v33, v34, v35, v36, v37, v38, v39, .int 0, v40])), (h3, .inl (k3, 8277, .inl (fun _ => 0)))] H) (hD : va_D A [(h0, .inr (13, [.ref h1, v0, v1, v2, v3, v4, v5, v6, v7, v8])), (h1, .inr (11, [v9, v10, v11, v12, v13, .int 0, v14, v15, v16, v17])), (h2, .inr (14, [.ref h3, v18, v19, v20, v21, v22, v23, v24, v25, v26, v27, v28, v29, v30, v31, v32, v33, v34, v35, v36, v37, v38, v39, .int 0, v40])), (h3, .inl (k3, 8277, .inl (fun _ => 0)))]) (hK : va_K D vwCl [(k3, .int)] s) (hl : lv_has ls 9 [(5, .int 0), (4, .ref r1), (3, .ref r0), (2, .ref h2), (1, .ref h0), (0, .ref b)]) (hcc : cells ≤ 2200) (hss : slots ≤ 260000) : W p l e room_1 s m #[Value.ref b] below meth c H locs cells slots (lw_Z below #[Value.ref b] s) (F0 m 924 ls []) := by
  obtain ⟨hx, hb, hr, hml, hown, hts, hX, hbl, hlocks, hgv⟩ := id C0
  have hA : ∀ q : Nat, s.heap.size ≤ q → A q := fun q h => by rw [hAe]; exact h
  have hbA : ¬ A b := by rw [hAe]; exact Nat.not_le.mpr hbl
  refine W.widen (k := 2200) (n := 260000) hcc hss ?_
  have hi_X10 : ∀ w ∈ wsX100, w ∈ lw_tbl := inX10
  have hi_X11 : ∀ w ∈ wsX110, w ∈ lw_tbl := inX11
  have hi_X8 : ∀ w ∈ wsX80, w ∈ lw_tbl := inX8
  refine lv_aload_n hx hb dL_law_924 rfl (lv_at hl 4 rfl) ?_
  refine lv_aload_n hx hb dL_law_925 rfl (lv_at hl 5 rfl) ?_
  refine lv_iload hx hb dL_law_926 (lv_at hl 0 rfl) ?_
  refine lv_iconst (v := 1) hx hb dL_law_928 (by decide) ?_
  refine lv_iadd hx hb dL_law_929 ?_
  refine kt_ (v := 1) (by decide +kernel) ?_
  refine va_sld hx hb hX hbl hbA hS (vin_ (by decide +kernel)) dL_law_930 ?_
  refine kt_ (v := p1) ((congrArg xs (by decide +kernel)).trans hp1) ?_
  refine lv_aload_n hx hb dL_law_931 rfl (lv_at hl 5 rfl) ?_
  refine lv_iload hx hb dL_law_932 (lv_at hl 0 rfl) ?_
  refine lv_iconst (v := 2) hx hb dL_law_934 (by decide) ?_
  refine lv_iadd hx hb dL_law_935 ?_
  refine kt_ (v := 2) (by decide +kernel) ?_
  refine va_sld hx hb hX hbl hbA hS (vin_ (by decide +kernel)) dL_law_936 ?_
  refine kt_ (v := p2) ((congrArg xs (by decide +kernel)).trans hp2) ?_
  refine lv_aload_n hx hb dL_law_937 rfl (lv_at hl 2 rfl) ?_
  refine kc_ (wc := [(h0, .inr (13, [.ref h1, v0, v1, v2, v3, v4, v5, v6, v7, v8])), (h1, .inr (11, [v9, v10, v11, v12, v13, .int 0, v14, v15, v16, v17]))]) (wr := [(h2, .inr (14, [.ref h3, v18, v19, v20, v21, v22, v23, v24, v25, v26, v27, v28, v29, v30, v31, v32, v33, v34, v35, v36, v37, v38, v39, .int 0, v40])), (h3, .inl (k3, 8277, .inl (fun _ => 0)))]) (vx_runSW (As := [.ref h0, .int p1, .int p2, .ref r0]) (rest := []) ⟨hx, hb, hml, hown, hts⟩ (c_L_distance_0 l hl0 D ad H.size h0 h1 r0 (v0) (v1) (v2) (v3) (v4) (v5) (v6) (v7) (v8) (v9) (v10) (v11) (v12) (v13) (v14) (v15) (v16) (v17) p1 p2) (vx_cwSW 4 hts hL_law_L_distance rfl rfl rfl (by decide +kernel) ⟨Nat.le_of_ble_eq_true rfl, Nat.le_of_ble_eq_true rfl⟩) ⟨PC_.blind, PC_.pre hF hK hP hD hS hA [0, 1] [] rfl (by decide) rfl⟩ rfl rfl hl.1 rfl (lv_room (Nat.le_of_ble_eq_true rfl)) dL_law_938 ⟨Nat.le_of_ble_eq_true rfl, Nat.le_of_ble_eq_true rfl⟩) hK hP hD hS hA [0, 1] [2, 3] [0] rfl rfl (by decide) (by decide) rfl (fun qa_1 ka_1 ia_1 H locs hpo hP hD hK hS => ?_)
  have hP : va_P D vwCl [(h2, .inr (14, [.ref h3, v18, v19, v20, v21, v22, v23, v24, v25, v26, v27, v28, v29, v30, v31, v32, v33, v34, v35, v36, v37, v38, v39, .int 0, v40])), (h3, .inl (k3, 8277, .inl (fun _ => 0)))] H := hP
  have hD : va_D A [(h2, .inr (14, [.ref h3, v18, v19, v20, v21, v22, v23, v24, v25, v26, v27, v28, v29, v30, v31, v32, v33, v34, v35, v36, v37, v38, v39, .int 0, v40])), (h3, .inl (k3, 8277, .inl (fun _ => 0)))] := hD
  have hK : va_K D vwCl [(k3, .int)] s := hK
  refine W.eq (g2 := F0 m 941 ls [.int 1]) rfl ?_
  refine lv_istore (lv' := [(6, .int 1), (5, .int 0), (4, .ref r1), (3, .ref r0), (2, .ref h2), (1, .ref h0), (0, .ref b)]) hx hb dL_law_941 hl (by decide) rfl (fun ls hl => ?_)
  refine lv_aload_n hx hb dL_law_943 rfl (lv_at hl 4 rfl) ?_
  refine lv_aload_n hx hb dL_law_944 rfl (lv_at hl 6 rfl) ?_
  refine lv_iload hx hb dL_law_945 (lv_at hl 1 rfl) ?_
  refine lv_iconst (v := 1) hx hb dL_law_947 (by decide) ?_
  refine lv_iadd hx hb dL_law_948 ?_
  refine kt_ (v := 1) (by decide +kernel) ?_
  refine va_sld hx hb hX hbl hbA hS (vin_ (by decide +kernel)) dL_law_949 ?_
  refine kt_ (v := p1) ((congrArg xs (by decide +kernel)).trans hp1) ?_
  refine lv_aload_n hx hb dL_law_950 rfl (lv_at hl 6 rfl) ?_
  refine lv_iload hx hb dL_law_951 (lv_at hl 1 rfl) ?_
  refine lv_iconst (v := 2) hx hb dL_law_953 (by decide) ?_
  refine lv_iadd hx hb dL_law_954 ?_
  refine kt_ (v := 2) (by decide +kernel) ?_
  refine va_sld hx hb hX hbl hbA hS (vin_ (by decide +kernel)) dL_law_955 ?_
  refine kt_ (v := p2) ((congrArg xs (by decide +kernel)).trans hp2) ?_
  refine kc_ (wc := [(h2, .inr (14, [.ref h3, v18, v19, v20, v21, v22, v23, v24, v25, v26, v27, v28, v29, v30, v31, v32, v33, v34, v35, v36, v37, v38, v39, .int 0, v40])), (h3, .inl (k3, 8277, .inl (fun _ => 0)))]) (wr := []) (va_runV (As := [.int p1, .int p2]) (rest := []) ⟨hx, hb, hml, hown, hts⟩ (c_X11_distance_0 l hl0 D ad H.size h2 h3 k3 (v18) (v19) (v20) (v21) (v22) (v23) (v24) (v25) (v26) (v27) (v28) (v29) (v30) (v31) (v32) (v33) (v34) (v35) (v36) (v37) (v38) (v39) (.int 0) (v40) p1 p2) (cwV 2 hts hL_law_X11_distance rfl rfl rfl (by decide +kernel) ⟨Nat.le_of_ble_eq_true rfl, Nat.le_of_ble_eq_true rfl⟩) ⟨PC_.blind, va_recv hK hP (ci := 14) (q0 := 0) rfl rfl, PC_.pre hF hK hP hD hS hA [0, 1] [0] rfl (by decide) rfl⟩ rfl rfl hl.1 rfl (lv_room (Nat.le_of_ble_eq_true rfl)) dL_law_956 ⟨Nat.le_of_ble_eq_true rfl, Nat.le_of_ble_eq_true rfl⟩) hK hP hD hS hA [0, 1] [] [] rfl rfl (by decide) (by decide) rfl (fun qa_2 ka_2 ia_2 H locs hpo hP hD hK hS => ?_)
  have hP : va_P D vwCl [(h2, .inr (14, [.ref h3, v18, v19, v20, v21, v22, v23, v24, v25, v26, v27, v28, v29, v30, v31, v32, v33, v34, v35, v36, v37, v38, v39, .int 1, v40])), (h3, .inl (k3, 8277, .inl (fun _ => 0)))] H := hP
  have hD : va_D A [(h2, .inr (14, [.ref h3, v18, v19, v20, v21, v22, v23, v24, v25, v26, v27, v28, v29, v30, v31, v32, v33, v34, v35, v36, v37, v38, v39, .int 1, v40])), (h3, .inl (k3, 8277, .inl (fun _ => 0)))] := hD
  have hK : va_K D vwCl [(k3, .int)] s := hK
  refine W.eq (g2 := F0 m 959 ls [.int 0]) rfl ?_
  refine lv_istore (lv' := [(7, .int 0), (6, .int 1), (5, .int 0), (4, .ref r1), (3, .ref r0), (2, .ref h2), (1, .ref h0), (0, .ref b)]) hx hb dL_law_959 hl (by decide) rfl (fun ls hl => ?_)
  refine lv_aload_n hx hb dL_law_961 rfl (lv_at hl 5 rfl) ?_
  refine kc_ (wc := [(h2, .inr (14, [.ref h3, v18, v19, v20, v21, v22, v23, v24, v25, v26, v27, v28, v29, v30, v31, v32, v33, v34, v35, v36, v37, v38, v39, .int 1, v40]))]) (wr := [(h3, .inl (k3, 8277, .inl (fun _ => 0)))]) (va_runV (As := []) (rest := []) ⟨hx, hb, hml, hown, hts⟩ (c_X11_thrown_1 l hl0 D ad H.size h2 (.ref h3) (v18) (v19) (v20) (v21) (v22) (v23) (v24) (v25) (v26) (v27) (v28) (v29) (v30) (v31) (v32) (v33) (v34) (v35) (v36) (v37) (v38) (v39) (v40)) (cwV 0 hts hL_law_X11_thrown rfl rfl rfl (by decide +kernel) ⟨Nat.le_of_ble_eq_true rfl, Nat.le_of_ble_eq_true rfl⟩) ⟨PC_.blind, va_recv hK hP (ci := 14) (q0 := 0) rfl rfl, PC_.pre hF hK hP hD hS hA [0] [] rfl (by decide) rfl⟩ rfl rfl hl.1 rfl (lv_room (Nat.le_of_ble_eq_true rfl)) dL_law_962 ⟨Nat.le_of_ble_eq_true rfl, Nat.le_of_ble_eq_true rfl⟩) hK hP hD hS hA [0] [1] [0] rfl rfl (by decide) (by decide) rfl (fun qa_3 ka_3 ia_3 H locs hpo hP hD hK hS => ?_)
  have hP : va_P D vwCl [(h3, .inl (k3, 8277, .inl (fun _ => 0))), (h2, .inr (14, [.ref h3, v18, v19, v20, v21, v22, v23, v24, v25, v26, v27, v28, v29, v30, v31, v32, v33, v34, v35, v36, v37, v38, v39, .int 1, v40]))] H := hP
  have hD : va_D A [(h3, .inl (k3, 8277, .inl (fun _ => 0))), (h2, .inr (14, [.ref h3, v18, v19, v20, v21, v22, v23, v24, v25, v26, v27, v28, v29, v30, v31, v32, v33, v34, v35, v36, v37, v38, v39, .int 1, v40]))] := hD
  have hK : va_K D vwCl [(k3, .int)] s := hK
  refine W.eq (g2 := F0 m 965 ls [.int 1]) rfl ?_
  refine lv_iload hx hb dL_law_965 (lv_at hl 1 rfl) ?_
  refine lv_icmp_eq (tgt := 972) hx hb dL_law_967 (by decide) (fun _ => ?_) (fun c9 => absurd (by decide +kernel) c9)
  refine lv_iload hx hb dL_law_972 (lv_at hl 1 rfl) ?_
  refine lv_if_ne (tgt := 989) hx hb dL_law_974 (by decide) (fun _ => ?_) (fun c9 => absurd c9 (by decide +kernel))
  refine lv_goto (tgt := 2280) hx hb dL_law_989 (by decide) ?_
  exact law_tail C0 hAe hS (lv_sub hl [7, 2] rfl) (Nat.le_of_ble_eq_true rfl) (Nat.le_of_ble_eq_true rfl)
set_option maxHeartbeats 4000000 in
set_option maxRecDepth 100000 in
theorem law_case_12 {p : Program} {l : Launch} {e : Env} {s : State} {m : MethodId} {below : List Frame} {meth : Method} {c : Code} {b : Nat} {xs : Nat → Int32} {cells slots : Nat} {H : Heap} {locs : List Loc} {ls : Array Slot} {D : va_G} {ad : Nat → Nat} {A : Nat → Prop} (hl0 : l.stackTraces = false) (C0 : lw_At p s m meth c b 4 xs) (hAe : A = fun q : Nat => s.heap.size ≤ q) (hF : FX_ ad A s s.heap) (hS : va_S A s.heap H locs) (h0 : Nat) (h1 : Nat) (h2 : Nat) (h3 : Nat) (k3 : ClassId) (r0 : Nat) (r1 : Nat) (v0 : Value) (v1 : Value) (v2 : Value) (v3 : Value) (v4 : Value) (v5 : Value) (v6 : Value) (v7 : Value) (v8 : Value) (v9 : Value) (v10 : Value) (v11 : Value) (v12 : Value) (v13 : Value) (v14 : Value) (v15 : Value) (v16 : Value) (v17 : Value) (v18 : Value) (v19 : Value) (v20 : Value) (v21 : Value) (v22 : Value) (v23 : Value) (v24 : Value) (v25 : Value) (v26 : Value) (v27 : Value) (v28 : Value) (v29 : Value) (v30 : Value) (v31 : Value) (v32 : Value) (v33 : Value) (v34 : Value) (v35 : Value) (v36 : Value) (v37 : Value) (v38 : Value) (v39 : Value) (v40 : Value) (p1 p2 p3 : Int32) (hp1 : xs 1 = p1) (hp2 : xs 2 = p2) (hp3 : xs 3 = p3) (hP : va_P D vwCl [(h0, .inr (13, [.ref h1, v0, v1, v2, v3, v4, v5, v6, v7, v8])), (h1, .inr (11, [v9, v10, v11, v12, v13, .int 0, v14, v15, v16, v17])), (h2, .inr (14, [.ref h3, v18, v19, v20, v21, v22, v23, v24, v25, v26, v27, v28, v29, v30, v31, v32, v33, v34, v35, v36, v37, v38, v39, .int 0, v40])), (h3, .inl (k3, 8277, .inl (fun _ => 0)))] H) (hD : va_D A [(h0, .inr (13, [.ref h1, v0, v1, v2, v3, v4, v5, v6, v7, v8])), (h1, .inr (11, [v9, v10, v11, v12, v13, .int 0, v14, v15, v16, v17])), (h2, .inr (14, [.ref h3, v18, v19, v20, v21, v22, v23, v24, v25, v26, v27, v28, v29, v30, v31, v32, v33, v34, v35, v36, v37, v38, v39, .int 0, v40])), (h3, .inl (k3, 8277, .inl (fun _ => 0)))]) (hK : va_K D vwCl [(k3, .int)] s) (hl : lv_has ls 9 [(5, .int 0), (4, .ref r1), (3, .ref r0), (2, .ref h2), (1, .ref h0), (0, .ref b)]) (hcc : cells ≤ 2200) (hss : slots ≤ 260000) : W p l e room_1 s m #[Value.ref b] below meth c H locs cells slots (lw_Z below #[Value.ref b] s) (F0 m 992 ls []) := by
  obtain ⟨hx, hb, hr, hml, hown, hts, hX, hbl, hlocks, hgv⟩ := id C0
  have hA : ∀ q : Nat, s.heap.size ≤ q → A q := fun q h => by rw [hAe]; exact h
  have hbA : ¬ A b := by rw [hAe]; exact Nat.not_le.mpr hbl
  refine W.widen (k := 2200) (n := 260000) hcc hss ?_
  have hi_X10 : ∀ w ∈ wsX100, w ∈ lw_tbl := inX10
  have hi_X11 : ∀ w ∈ wsX110, w ∈ lw_tbl := inX11
  have hi_X8 : ∀ w ∈ wsX80, w ∈ lw_tbl := inX8
  refine lv_aload_n hx hb dL_law_992 rfl (lv_at hl 4 rfl) ?_
  refine lv_aload_n hx hb dL_law_993 rfl (lv_at hl 5 rfl) ?_
  refine lv_iload hx hb dL_law_994 (lv_at hl 0 rfl) ?_
  refine lv_iconst (v := 1) hx hb dL_law_996 (by decide) ?_
  refine lv_iadd hx hb dL_law_997 ?_
  refine kt_ (v := 1) (by decide +kernel) ?_
  refine va_sld hx hb hX hbl hbA hS (vin_ (by decide +kernel)) dL_law_998 ?_
  refine kt_ (v := p1) ((congrArg xs (by decide +kernel)).trans hp1) ?_
  refine lv_aload_n hx hb dL_law_999 rfl (lv_at hl 5 rfl) ?_
  refine lv_iload hx hb dL_law_1000 (lv_at hl 0 rfl) ?_
  refine lv_iconst (v := 2) hx hb dL_law_1002 (by decide) ?_
  refine lv_iadd hx hb dL_law_1003 ?_
  refine kt_ (v := 2) (by decide +kernel) ?_
  refine va_sld hx hb hX hbl hbA hS (vin_ (by decide +kernel)) dL_law_1004 ?_
  refine kt_ (v := p2) ((congrArg xs (by decide +kernel)).trans hp2) ?_
  refine lv_aload_n hx hb dL_law_1005 rfl (lv_at hl 2 rfl) ?_
  refine kc_ (wc := [(h0, .inr (13, [.ref h1, v0, v1, v2, v3, v4, v5, v6, v7, v8])), (h1, .inr (11, [v9, v10, v11, v12, v13, .int 0, v14, v15, v16, v17]))]) (wr := [(h2, .inr (14, [.ref h3, v18, v19, v20, v21, v22, v23, v24, v25, v26, v27, v28, v29, v30, v31, v32, v33, v34, v35, v36, v37, v38, v39, .int 0, v40])), (h3, .inl (k3, 8277, .inl (fun _ => 0)))]) (vx_runSW (As := [.ref h0, .int p1, .int p2, .ref r0]) (rest := []) ⟨hx, hb, hml, hown, hts⟩ (c_L_distanceAgain_0 l hl0 D ad H.size h0 h1 r0 (v0) (v1) (v2) (v3) (v4) (v5) (v6) (v7) (v8) (v9) (v10) (v11) (v12) (v13) (v14) (v15) (v16) (v17) p1 p2) (vx_cwSW 4 hts hL_law_L_distanceAgain rfl rfl rfl (by decide +kernel) ⟨Nat.le_of_ble_eq_true rfl, Nat.le_of_ble_eq_true rfl⟩) ⟨PC_.blind, PC_.pre hF hK hP hD hS hA [0, 1] [] rfl (by decide) rfl⟩ rfl rfl hl.1 rfl (lv_room (Nat.le_of_ble_eq_true rfl)) dL_law_1006 ⟨Nat.le_of_ble_eq_true rfl, Nat.le_of_ble_eq_true rfl⟩) hK hP hD hS hA [0, 1] [2, 3] [0] rfl rfl (by decide) (by decide) rfl (fun qa_1 ka_1 ia_1 H locs hpo hP hD hK hS => ?_)
  have hP : va_P D vwCl [(h2, .inr (14, [.ref h3, v18, v19, v20, v21, v22, v23, v24, v25, v26, v27, v28, v29, v30, v31, v32, v33, v34, v35, v36, v37, v38, v39, .int 0, v40])), (h3, .inl (k3, 8277, .inl (fun _ => 0)))] H := hP
  have hD : va_D A [(h2, .inr (14, [.ref h3, v18, v19, v20, v21, v22, v23, v24, v25, v26, v27, v28, v29, v30, v31, v32, v33, v34, v35, v36, v37, v38, v39, .int 0, v40])), (h3, .inl (k3, 8277, .inl (fun _ => 0)))] := hD
  have hK : va_K D vwCl [(k3, .int)] s := hK
  refine W.eq (g2 := F0 m 1009 ls [.int 1]) rfl ?_
  refine lv_istore (lv' := [(6, .int 1), (5, .int 0), (4, .ref r1), (3, .ref r0), (2, .ref h2), (1, .ref h0), (0, .ref b)]) hx hb dL_law_1009 hl (by decide) rfl (fun ls hl => ?_)
  refine lv_aload_n hx hb dL_law_1011 rfl (lv_at hl 4 rfl) ?_
  refine lv_aload_n hx hb dL_law_1012 rfl (lv_at hl 6 rfl) ?_
  refine lv_iload hx hb dL_law_1013 (lv_at hl 1 rfl) ?_
  refine lv_iconst (v := 1) hx hb dL_law_1015 (by decide) ?_
  refine lv_iadd hx hb dL_law_1016 ?_
  refine kt_ (v := 1) (by decide +kernel) ?_
  refine va_sld hx hb hX hbl hbA hS (vin_ (by decide +kernel)) dL_law_1017 ?_
  refine kt_ (v := p1) ((congrArg xs (by decide +kernel)).trans hp1) ?_
  refine lv_aload_n hx hb dL_law_1018 rfl (lv_at hl 6 rfl) ?_
  refine lv_iload hx hb dL_law_1019 (lv_at hl 1 rfl) ?_
  refine lv_iconst (v := 2) hx hb dL_law_1021 (by decide) ?_
  refine lv_iadd hx hb dL_law_1022 ?_
  refine kt_ (v := 2) (by decide +kernel) ?_
  refine va_sld hx hb hX hbl hbA hS (vin_ (by decide +kernel)) dL_law_1023 ?_
  refine kt_ (v := p2) ((congrArg xs (by decide +kernel)).trans hp2) ?_
  refine kc_ (wc := [(h2, .inr (14, [.ref h3, v18, v19, v20, v21, v22, v23, v24, v25, v26, v27, v28, v29, v30, v31, v32, v33, v34, v35, v36, v37, v38, v39, .int 0, v40])), (h3, .inl (k3, 8277, .inl (fun _ => 0)))]) (wr := []) (va_runV (As := [.int p1, .int p2]) (rest := []) ⟨hx, hb, hml, hown, hts⟩ (c_X11_distanceAgain_0 l hl0 D ad H.size h2 h3 k3 (v18) (v19) (v20) (v21) (v22) (v23) (v24) (v25) (v26) (v27) (v28) (v29) (v30) (v31) (v32) (v33) (v34) (v35) (v36) (v37) (v38) (v39) (.int 0) (v40) p1 p2) (cwV 2 hts hL_law_X11_distanceAgain rfl rfl rfl (by decide +kernel) ⟨Nat.le_of_ble_eq_true rfl, Nat.le_of_ble_eq_true rfl⟩) ⟨PC_.blind, va_recv hK hP (ci := 14) (q0 := 0) rfl rfl, PC_.pre hF hK hP hD hS hA [0, 1] [0] rfl (by decide) rfl⟩ rfl rfl hl.1 rfl (lv_room (Nat.le_of_ble_eq_true rfl)) dL_law_1024 ⟨Nat.le_of_ble_eq_true rfl, Nat.le_of_ble_eq_true rfl⟩) hK hP hD hS hA [0, 1] [] [] rfl rfl (by decide) (by decide) rfl (fun qa_2 ka_2 ia_2 H locs hpo hP hD hK hS => ?_)
  have hP : va_P D vwCl [(h2, .inr (14, [.ref h3, v18, v19, v20, v21, v22, v23, v24, v25, v26, v27, v28, v29, v30, v31, v32, v33, v34, v35, v36, v37, v38, v39, .int 1, v40])), (h3, .inl (k3, 8277, .inl (fun _ => 0)))] H := hP
  have hD : va_D A [(h2, .inr (14, [.ref h3, v18, v19, v20, v21, v22, v23, v24, v25, v26, v27, v28, v29, v30, v31, v32, v33, v34, v35, v36, v37, v38, v39, .int 1, v40])), (h3, .inl (k3, 8277, .inl (fun _ => 0)))] := hD
  have hK : va_K D vwCl [(k3, .int)] s := hK
  refine W.eq (g2 := F0 m 1027 ls [.int 0]) rfl ?_
  refine lv_istore (lv' := [(7, .int 0), (6, .int 1), (5, .int 0), (4, .ref r1), (3, .ref r0), (2, .ref h2), (1, .ref h0), (0, .ref b)]) hx hb dL_law_1027 hl (by decide) rfl (fun ls hl => ?_)
  refine lv_aload_n hx hb dL_law_1029 rfl (lv_at hl 5 rfl) ?_
  refine kc_ (wc := [(h2, .inr (14, [.ref h3, v18, v19, v20, v21, v22, v23, v24, v25, v26, v27, v28, v29, v30, v31, v32, v33, v34, v35, v36, v37, v38, v39, .int 1, v40]))]) (wr := [(h3, .inl (k3, 8277, .inl (fun _ => 0)))]) (va_runV (As := []) (rest := []) ⟨hx, hb, hml, hown, hts⟩ (c_X11_thrown_1 l hl0 D ad H.size h2 (.ref h3) (v18) (v19) (v20) (v21) (v22) (v23) (v24) (v25) (v26) (v27) (v28) (v29) (v30) (v31) (v32) (v33) (v34) (v35) (v36) (v37) (v38) (v39) (v40)) (cwV 0 hts hL_law_X11_thrown rfl rfl rfl (by decide +kernel) ⟨Nat.le_of_ble_eq_true rfl, Nat.le_of_ble_eq_true rfl⟩) ⟨PC_.blind, va_recv hK hP (ci := 14) (q0 := 0) rfl rfl, PC_.pre hF hK hP hD hS hA [0] [] rfl (by decide) rfl⟩ rfl rfl hl.1 rfl (lv_room (Nat.le_of_ble_eq_true rfl)) dL_law_1030 ⟨Nat.le_of_ble_eq_true rfl, Nat.le_of_ble_eq_true rfl⟩) hK hP hD hS hA [0] [1] [0] rfl rfl (by decide) (by decide) rfl (fun qa_3 ka_3 ia_3 H locs hpo hP hD hK hS => ?_)
  have hP : va_P D vwCl [(h3, .inl (k3, 8277, .inl (fun _ => 0))), (h2, .inr (14, [.ref h3, v18, v19, v20, v21, v22, v23, v24, v25, v26, v27, v28, v29, v30, v31, v32, v33, v34, v35, v36, v37, v38, v39, .int 1, v40]))] H := hP
  have hD : va_D A [(h3, .inl (k3, 8277, .inl (fun _ => 0))), (h2, .inr (14, [.ref h3, v18, v19, v20, v21, v22, v23, v24, v25, v26, v27, v28, v29, v30, v31, v32, v33, v34, v35, v36, v37, v38, v39, .int 1, v40]))] := hD
  have hK : va_K D vwCl [(k3, .int)] s := hK
  refine W.eq (g2 := F0 m 1033 ls [.int 1]) rfl ?_
  refine lv_iload hx hb dL_law_1033 (lv_at hl 1 rfl) ?_
  refine lv_icmp_eq (tgt := 1040) hx hb dL_law_1035 (by decide) (fun _ => ?_) (fun c9 => absurd (by decide +kernel) c9)
  refine lv_iload hx hb dL_law_1040 (lv_at hl 1 rfl) ?_
  refine lv_if_ne (tgt := 1057) hx hb dL_law_1042 (by decide) (fun _ => ?_) (fun c9 => absurd c9 (by decide +kernel))
  refine lv_goto (tgt := 2280) hx hb dL_law_1057 (by decide) ?_
  exact law_tail C0 hAe hS (lv_sub hl [7, 2] rfl) (Nat.le_of_ble_eq_true rfl) (Nat.le_of_ble_eq_true rfl)
set_option maxHeartbeats 4000000 in
set_option maxRecDepth 100000 in
theorem law_case_13 {p : Program} {l : Launch} {e : Env} {s : State} {m : MethodId} {below : List Frame} {meth : Method} {c : Code} {b : Nat} {xs : Nat → Int32} {cells slots : Nat} {H : Heap} {locs : List Loc} {ls : Array Slot} {D : va_G} {ad : Nat → Nat} {A : Nat → Prop} (hl0 : l.stackTraces = false) (C0 : lw_At p s m meth c b 4 xs) (hAe : A = fun q : Nat => s.heap.size ≤ q) (hF : FX_ ad A s s.heap) (hS : va_S A s.heap H locs) (h0 : Nat) (h1 : Nat) (h2 : Nat) (h3 : Nat) (k3 : ClassId) (r0 : Nat) (r1 : Nat) (v0 : Value) (v1 : Value) (v2 : Value) (v3 : Value) (v4 : Value) (v5 : Value) (v6 : Value) (v7 : Value) (v8 : Value) (v9 : Value) (v10 : Value) (v11 : Value) (v12 : Value) (v13 : Value) (v14 : Value) (v15 : Value) (v16 : Value) (v17 : Value) (v18 : Value) (v19 : Value) (v20 : Value) (v21 : Value) (v22 : Value) (v23 : Value) (v24 : Value) (v25 : Value) (v26 : Value) (v27 : Value) (v28 : Value) (v29 : Value) (v30 : Value) (v31 : Value) (v32 : Value) (v33 : Value) (v34 : Value) (v35 : Value) (v36 : Value) (v37 : Value) (v38 : Value) (v39 : Value) (v40 : Value) (p1 p2 p3 : Int32) (hp1 : xs 1 = p1) (hp2 : xs 2 = p2) (hp3 : xs 3 = p3) (hP : va_P D vwCl [(h0, .inr (13, [.ref h1, v0, v1, v2, v3, v4, v5, v6, v7, v8])), (h1, .inr (11, [v9, v10, v11, v12, v13, .int 0, v14, v15, v16, v17])), (h2, .inr (14, [.ref h3, v18, v19, v20, v21, v22, v23, v24, v25, v26, v27, v28, v29, v30, v31, v32, v33, v34, v35, v36, v37, v38, v39, .int 0, v40])), (h3, .inl (k3, 8277, .inl (fun _ => 0)))] H) (hD : va_D A [(h0, .inr (13, [.ref h1, v0, v1, v2, v3, v4, v5, v6, v7, v8])), (h1, .inr (11, [v9, v10, v11, v12, v13, .int 0, v14, v15, v16, v17])), (h2, .inr (14, [.ref h3, v18, v19, v20, v21, v22, v23, v24, v25, v26, v27, v28, v29, v30, v31, v32, v33, v34, v35, v36, v37, v38, v39, .int 0, v40])), (h3, .inl (k3, 8277, .inl (fun _ => 0)))]) (hK : va_K D vwCl [(k3, .int)] s) (hl : lv_has ls 9 [(5, .int 0), (4, .ref r1), (3, .ref r0), (2, .ref h2), (1, .ref h0), (0, .ref b)]) (hcc : cells ≤ 2200) (hss : slots ≤ 260000) : W p l e room_1 s m #[Value.ref b] below meth c H locs cells slots (lw_Z below #[Value.ref b] s) (F0 m 1060 ls []) := by
  obtain ⟨hx, hb, hr, hml, hown, hts, hX, hbl, hlocks, hgv⟩ := id C0
  have hA : ∀ q : Nat, s.heap.size ≤ q → A q := fun q h => by rw [hAe]; exact h
  have hbA : ¬ A b := by rw [hAe]; exact Nat.not_le.mpr hbl
  refine W.widen (k := 2200) (n := 260000) hcc hss ?_
  have hi_X10 : ∀ w ∈ wsX100, w ∈ lw_tbl := inX10
  have hi_X11 : ∀ w ∈ wsX110, w ∈ lw_tbl := inX11
  have hi_X8 : ∀ w ∈ wsX80, w ∈ lw_tbl := inX8
  refine lv_aload_n hx hb dL_law_1060 rfl (lv_at hl 4 rfl) ?_
  refine lv_aload_n hx hb dL_law_1061 rfl (lv_at hl 5 rfl) ?_
  refine lv_iload hx hb dL_law_1062 (lv_at hl 0 rfl) ?_
  refine lv_iconst (v := 1) hx hb dL_law_1064 (by decide) ?_
  refine lv_iadd hx hb dL_law_1065 ?_
  refine kt_ (v := 1) (by decide +kernel) ?_
  refine va_sld hx hb hX hbl hbA hS (vin_ (by decide +kernel)) dL_law_1066 ?_
  refine kt_ (v := p1) ((congrArg xs (by decide +kernel)).trans hp1) ?_
  refine lv_aload_n hx hb dL_law_1067 rfl (lv_at hl 5 rfl) ?_
  refine lv_iload hx hb dL_law_1068 (lv_at hl 0 rfl) ?_
  refine lv_iconst (v := 2) hx hb dL_law_1070 (by decide) ?_
  refine lv_iadd hx hb dL_law_1071 ?_
  refine kt_ (v := 2) (by decide +kernel) ?_
  refine va_sld hx hb hX hbl hbA hS (vin_ (by decide +kernel)) dL_law_1072 ?_
  refine kt_ (v := p2) ((congrArg xs (by decide +kernel)).trans hp2) ?_
  refine lv_aload_n hx hb dL_law_1073 rfl (lv_at hl 2 rfl) ?_
  refine kc_ (wc := [(h0, .inr (13, [.ref h1, v0, v1, v2, v3, v4, v5, v6, v7, v8])), (h1, .inr (11, [v9, v10, v11, v12, v13, .int 0, v14, v15, v16, v17]))]) (wr := [(h2, .inr (14, [.ref h3, v18, v19, v20, v21, v22, v23, v24, v25, v26, v27, v28, v29, v30, v31, v32, v33, v34, v35, v36, v37, v38, v39, .int 0, v40])), (h3, .inl (k3, 8277, .inl (fun _ => 0)))]) (vx_runSW (As := [.ref h0, .int p1, .int p2, .ref r0]) (rest := []) ⟨hx, hb, hml, hown, hts⟩ (c_L_next_0 l hl0 D ad H.size h0 h1 r0 (v0) (v1) (v2) (v3) (v4) (v5) (v6) (v7) (v8) (v9) (v10) (v11) (v12) (v13) (v14) (v15) (v16) (v17) p1 p2) (vx_cwSW 4 hts hL_law_L_next rfl rfl rfl (by decide +kernel) ⟨Nat.le_of_ble_eq_true rfl, Nat.le_of_ble_eq_true rfl⟩) ⟨PC_.blind, PC_.pre hF hK hP hD hS hA [0, 1] [] rfl (by decide) rfl⟩ rfl rfl hl.1 rfl (lv_room (Nat.le_of_ble_eq_true rfl)) dL_law_1074 ⟨Nat.le_of_ble_eq_true rfl, Nat.le_of_ble_eq_true rfl⟩) hK hP hD hS hA [0, 1] [2, 3] [0] rfl rfl (by decide) (by decide) rfl (fun qa_1 ka_1 ia_1 H locs hpo hP hD hK hS => ?_)
  have hP : va_P D vwCl [(h2, .inr (14, [.ref h3, v18, v19, v20, v21, v22, v23, v24, v25, v26, v27, v28, v29, v30, v31, v32, v33, v34, v35, v36, v37, v38, v39, .int 0, v40])), (h3, .inl (k3, 8277, .inl (fun _ => 0)))] H := hP
  have hD : va_D A [(h2, .inr (14, [.ref h3, v18, v19, v20, v21, v22, v23, v24, v25, v26, v27, v28, v29, v30, v31, v32, v33, v34, v35, v36, v37, v38, v39, .int 0, v40])), (h3, .inl (k3, 8277, .inl (fun _ => 0)))] := hD
  have hK : va_K D vwCl [(k3, .int)] s := hK
  refine W.eq (g2 := F0 m 1077 ls [.int 1]) rfl ?_
  refine lv_istore (lv' := [(6, .int 1), (5, .int 0), (4, .ref r1), (3, .ref r0), (2, .ref h2), (1, .ref h0), (0, .ref b)]) hx hb dL_law_1077 hl (by decide) rfl (fun ls hl => ?_)
  refine lv_aload_n hx hb dL_law_1079 rfl (lv_at hl 4 rfl) ?_
  refine lv_aload_n hx hb dL_law_1080 rfl (lv_at hl 6 rfl) ?_
  refine lv_iload hx hb dL_law_1081 (lv_at hl 1 rfl) ?_
  refine lv_iconst (v := 1) hx hb dL_law_1083 (by decide) ?_
  refine lv_iadd hx hb dL_law_1084 ?_
  refine kt_ (v := 1) (by decide +kernel) ?_
  refine va_sld hx hb hX hbl hbA hS (vin_ (by decide +kernel)) dL_law_1085 ?_
  refine kt_ (v := p1) ((congrArg xs (by decide +kernel)).trans hp1) ?_
  refine lv_aload_n hx hb dL_law_1086 rfl (lv_at hl 6 rfl) ?_
  refine lv_iload hx hb dL_law_1087 (lv_at hl 1 rfl) ?_
  refine lv_iconst (v := 2) hx hb dL_law_1089 (by decide) ?_
  refine lv_iadd hx hb dL_law_1090 ?_
  refine kt_ (v := 2) (by decide +kernel) ?_
  refine va_sld hx hb hX hbl hbA hS (vin_ (by decide +kernel)) dL_law_1091 ?_
  refine kt_ (v := p2) ((congrArg xs (by decide +kernel)).trans hp2) ?_
  refine kc_ (wc := [(h2, .inr (14, [.ref h3, v18, v19, v20, v21, v22, v23, v24, v25, v26, v27, v28, v29, v30, v31, v32, v33, v34, v35, v36, v37, v38, v39, .int 0, v40])), (h3, .inl (k3, 8277, .inl (fun _ => 0)))]) (wr := []) (va_runV (As := [.int p1, .int p2]) (rest := []) ⟨hx, hb, hml, hown, hts⟩ (c_X11_next_0 l hl0 D ad H.size h2 h3 k3 (v18) (v19) (v20) (v21) (v22) (v23) (v24) (v25) (v26) (v27) (v28) (v29) (v30) (v31) (v32) (v33) (v34) (v35) (v36) (v37) (v38) (v39) (.int 0) (v40) p1 p2) (cwV 2 hts hL_law_X11_next rfl rfl rfl (by decide +kernel) ⟨Nat.le_of_ble_eq_true rfl, Nat.le_of_ble_eq_true rfl⟩) ⟨PC_.blind, va_recv hK hP (ci := 14) (q0 := 0) rfl rfl, PC_.pre hF hK hP hD hS hA [0, 1] [0] rfl (by decide) rfl⟩ rfl rfl hl.1 rfl (lv_room (Nat.le_of_ble_eq_true rfl)) dL_law_1092 ⟨Nat.le_of_ble_eq_true rfl, Nat.le_of_ble_eq_true rfl⟩) hK hP hD hS hA [0, 1] [] [] rfl rfl (by decide) (by decide) rfl (fun qa_2 ka_2 ia_2 H locs hpo hP hD hK hS => ?_)
  have hP : va_P D vwCl [(h2, .inr (14, [.ref h3, v18, v19, v20, v21, v22, v23, v24, v25, v26, v27, v28, v29, v30, v31, v32, v33, v34, v35, v36, v37, v38, v39, .int 1, v40])), (h3, .inl (k3, 8277, .inl (fun _ => 0)))] H := hP
  have hD : va_D A [(h2, .inr (14, [.ref h3, v18, v19, v20, v21, v22, v23, v24, v25, v26, v27, v28, v29, v30, v31, v32, v33, v34, v35, v36, v37, v38, v39, .int 1, v40])), (h3, .inl (k3, 8277, .inl (fun _ => 0)))] := hD
  have hK : va_K D vwCl [(k3, .int)] s := hK
  refine W.eq (g2 := F0 m 1095 ls [.int 0]) rfl ?_
  refine lv_istore (lv' := [(7, .int 0), (6, .int 1), (5, .int 0), (4, .ref r1), (3, .ref r0), (2, .ref h2), (1, .ref h0), (0, .ref b)]) hx hb dL_law_1095 hl (by decide) rfl (fun ls hl => ?_)
  refine lv_aload_n hx hb dL_law_1097 rfl (lv_at hl 5 rfl) ?_
  refine kc_ (wc := [(h2, .inr (14, [.ref h3, v18, v19, v20, v21, v22, v23, v24, v25, v26, v27, v28, v29, v30, v31, v32, v33, v34, v35, v36, v37, v38, v39, .int 1, v40]))]) (wr := [(h3, .inl (k3, 8277, .inl (fun _ => 0)))]) (va_runV (As := []) (rest := []) ⟨hx, hb, hml, hown, hts⟩ (c_X11_thrown_1 l hl0 D ad H.size h2 (.ref h3) (v18) (v19) (v20) (v21) (v22) (v23) (v24) (v25) (v26) (v27) (v28) (v29) (v30) (v31) (v32) (v33) (v34) (v35) (v36) (v37) (v38) (v39) (v40)) (cwV 0 hts hL_law_X11_thrown rfl rfl rfl (by decide +kernel) ⟨Nat.le_of_ble_eq_true rfl, Nat.le_of_ble_eq_true rfl⟩) ⟨PC_.blind, va_recv hK hP (ci := 14) (q0 := 0) rfl rfl, PC_.pre hF hK hP hD hS hA [0] [] rfl (by decide) rfl⟩ rfl rfl hl.1 rfl (lv_room (Nat.le_of_ble_eq_true rfl)) dL_law_1098 ⟨Nat.le_of_ble_eq_true rfl, Nat.le_of_ble_eq_true rfl⟩) hK hP hD hS hA [0] [1] [0] rfl rfl (by decide) (by decide) rfl (fun qa_3 ka_3 ia_3 H locs hpo hP hD hK hS => ?_)
  have hP : va_P D vwCl [(h3, .inl (k3, 8277, .inl (fun _ => 0))), (h2, .inr (14, [.ref h3, v18, v19, v20, v21, v22, v23, v24, v25, v26, v27, v28, v29, v30, v31, v32, v33, v34, v35, v36, v37, v38, v39, .int 1, v40]))] H := hP
  have hD : va_D A [(h3, .inl (k3, 8277, .inl (fun _ => 0))), (h2, .inr (14, [.ref h3, v18, v19, v20, v21, v22, v23, v24, v25, v26, v27, v28, v29, v30, v31, v32, v33, v34, v35, v36, v37, v38, v39, .int 1, v40]))] := hD
  have hK : va_K D vwCl [(k3, .int)] s := hK
  refine W.eq (g2 := F0 m 1101 ls [.int 1]) rfl ?_
  refine lv_iload hx hb dL_law_1101 (lv_at hl 1 rfl) ?_
  refine lv_icmp_eq (tgt := 1108) hx hb dL_law_1103 (by decide) (fun _ => ?_) (fun c9 => absurd (by decide +kernel) c9)
  refine lv_iload hx hb dL_law_1108 (lv_at hl 1 rfl) ?_
  refine lv_if_ne (tgt := 1125) hx hb dL_law_1110 (by decide) (fun _ => ?_) (fun c9 => absurd c9 (by decide +kernel))
  refine lv_goto (tgt := 2280) hx hb dL_law_1125 (by decide) ?_
  exact law_tail C0 hAe hS (lv_sub hl [7, 2] rfl) (Nat.le_of_ble_eq_true rfl) (Nat.le_of_ble_eq_true rfl)
set_option maxHeartbeats 4000000 in
set_option maxRecDepth 100000 in
theorem law_case_14 {p : Program} {l : Launch} {e : Env} {s : State} {m : MethodId} {below : List Frame} {meth : Method} {c : Code} {b : Nat} {xs : Nat → Int32} {cells slots : Nat} {H : Heap} {locs : List Loc} {ls : Array Slot} {D : va_G} {ad : Nat → Nat} {A : Nat → Prop} (hl0 : l.stackTraces = false) (C0 : lw_At p s m meth c b 4 xs) (hAe : A = fun q : Nat => s.heap.size ≤ q) (hF : FX_ ad A s s.heap) (hS : va_S A s.heap H locs) (h0 : Nat) (h1 : Nat) (h2 : Nat) (h3 : Nat) (k3 : ClassId) (r0 : Nat) (r1 : Nat) (v0 : Value) (v1 : Value) (v2 : Value) (v3 : Value) (v4 : Value) (v5 : Value) (v6 : Value) (v7 : Value) (v8 : Value) (v9 : Value) (v10 : Value) (v11 : Value) (v12 : Value) (v13 : Value) (v14 : Value) (v15 : Value) (v16 : Value) (v17 : Value) (v18 : Value) (v19 : Value) (v20 : Value) (v21 : Value) (v22 : Value) (v23 : Value) (v24 : Value) (v25 : Value) (v26 : Value) (v27 : Value) (v28 : Value) (v29 : Value) (v30 : Value) (v31 : Value) (v32 : Value) (v33 : Value) (v34 : Value) (v35 : Value) (v36 : Value) (v37 : Value) (v38 : Value) (v39 : Value) (v40 : Value) (p1 p2 p3 : Int32) (hp1 : xs 1 = p1) (hp2 : xs 2 = p2) (hp3 : xs 3 = p3) (hP : va_P D vwCl [(h0, .inr (13, [.ref h1, v0, v1, v2, v3, v4, v5, v6, v7, v8])), (h1, .inr (11, [v9, v10, v11, v12, v13, .int 0, v14, v15, v16, v17])), (h2, .inr (14, [.ref h3, v18, v19, v20, v21, v22, v23, v24, v25, v26, v27, v28, v29, v30, v31, v32, v33, v34, v35, v36, v37, v38, v39, .int 0, v40])), (h3, .inl (k3, 8277, .inl (fun _ => 0)))] H) (hD : va_D A [(h0, .inr (13, [.ref h1, v0, v1, v2, v3, v4, v5, v6, v7, v8])), (h1, .inr (11, [v9, v10, v11, v12, v13, .int 0, v14, v15, v16, v17])), (h2, .inr (14, [.ref h3, v18, v19, v20, v21, v22, v23, v24, v25, v26, v27, v28, v29, v30, v31, v32, v33, v34, v35, v36, v37, v38, v39, .int 0, v40])), (h3, .inl (k3, 8277, .inl (fun _ => 0)))]) (hK : va_K D vwCl [(k3, .int)] s) (hl : lv_has ls 9 [(5, .int 0), (4, .ref r1), (3, .ref r0), (2, .ref h2), (1, .ref h0), (0, .ref b)]) (hcc : cells ≤ 2200) (hss : slots ≤ 260000) : W p l e room_1 s m #[Value.ref b] below meth c H locs cells slots (lw_Z below #[Value.ref b] s) (F0 m 1128 ls []) := by
  obtain ⟨hx, hb, hr, hml, hown, hts, hX, hbl, hlocks, hgv⟩ := id C0
  have hA : ∀ q : Nat, s.heap.size ≤ q → A q := fun q h => by rw [hAe]; exact h
  have hbA : ¬ A b := by rw [hAe]; exact Nat.not_le.mpr hbl
  refine W.widen (k := 2200) (n := 260000) hcc hss ?_
  have hi_X10 : ∀ w ∈ wsX100, w ∈ lw_tbl := inX10
  have hi_X11 : ∀ w ∈ wsX110, w ∈ lw_tbl := inX11
  have hi_X8 : ∀ w ∈ wsX80, w ∈ lw_tbl := inX8
  refine lv_aload_n hx hb dL_law_1128 rfl (lv_at hl 4 rfl) ?_
  refine lv_aload_n hx hb dL_law_1129 rfl (lv_at hl 5 rfl) ?_
  refine lv_iload hx hb dL_law_1130 (lv_at hl 0 rfl) ?_
  refine lv_iconst (v := 1) hx hb dL_law_1132 (by decide) ?_
  refine lv_iadd hx hb dL_law_1133 ?_
  refine kt_ (v := 1) (by decide +kernel) ?_
  refine va_sld hx hb hX hbl hbA hS (vin_ (by decide +kernel)) dL_law_1134 ?_
  refine kt_ (v := p1) ((congrArg xs (by decide +kernel)).trans hp1) ?_
  refine lv_aload_n hx hb dL_law_1135 rfl (lv_at hl 2 rfl) ?_
  refine kc_ (wc := [(h0, .inr (13, [.ref h1, v0, v1, v2, v3, v4, v5, v6, v7, v8])), (h1, .inr (11, [v9, v10, v11, v12, v13, .int 0, v14, v15, v16, v17]))]) (wr := [(h2, .inr (14, [.ref h3, v18, v19, v20, v21, v22, v23, v24, v25, v26, v27, v28, v29, v30, v31, v32, v33, v34, v35, v36, v37, v38, v39, .int 0, v40])), (h3, .inl (k3, 8277, .inl (fun _ => 0)))]) (vx_runSW (As := [.ref h0, .int p1, .ref r0]) (rest := []) ⟨hx, hb, hml, hown, hts⟩ (c_L_reached_0 l hl0 D ad H.size h0 h1 r0 (v0) (v1) (v2) (v3) (v4) (v5) (v6) (v7) (v8) (v9) (v10) (v11) (v12) (v13) (v14) (v15) (v16) (v17) p1) (vx_cwSW 3 hts hL_law_L_reached rfl rfl rfl (by decide +kernel) ⟨Nat.le_of_ble_eq_true rfl, Nat.le_of_ble_eq_true rfl⟩) ⟨PC_.blind, PC_.pre hF hK hP hD hS hA [0, 1] [] rfl (by decide) rfl⟩ rfl rfl hl.1 rfl (lv_room (Nat.le_of_ble_eq_true rfl)) dL_law_1136 ⟨Nat.le_of_ble_eq_true rfl, Nat.le_of_ble_eq_true rfl⟩) hK hP hD hS hA [0, 1] [2, 3] [0] rfl rfl (by decide) (by decide) rfl (fun qa_1 ka_1 ia_1 H locs hpo hP hD hK hS => ?_)
  have hP : va_P D vwCl [(h2, .inr (14, [.ref h3, v18, v19, v20, v21, v22, v23, v24, v25, v26, v27, v28, v29, v30, v31, v32, v33, v34, v35, v36, v37, v38, v39, .int 0, v40])), (h3, .inl (k3, 8277, .inl (fun _ => 0)))] H := hP
  have hD : va_D A [(h2, .inr (14, [.ref h3, v18, v19, v20, v21, v22, v23, v24, v25, v26, v27, v28, v29, v30, v31, v32, v33, v34, v35, v36, v37, v38, v39, .int 0, v40])), (h3, .inl (k3, 8277, .inl (fun _ => 0)))] := hD
  have hK : va_K D vwCl [(k3, .int)] s := hK
  refine W.eq (g2 := F0 m 1139 ls [.int 1]) rfl ?_
  refine lv_istore (lv' := [(6, .int 1), (5, .int 0), (4, .ref r1), (3, .ref r0), (2, .ref h2), (1, .ref h0), (0, .ref b)]) hx hb dL_law_1139 hl (by decide) rfl (fun ls hl => ?_)
  refine lv_aload_n hx hb dL_law_1141 rfl (lv_at hl 4 rfl) ?_
  refine lv_aload_n hx hb dL_law_1142 rfl (lv_at hl 6 rfl) ?_
  refine lv_iload hx hb dL_law_1143 (lv_at hl 1 rfl) ?_
  refine lv_iconst (v := 1) hx hb dL_law_1145 (by decide) ?_
  refine lv_iadd hx hb dL_law_1146 ?_
  refine kt_ (v := 1) (by decide +kernel) ?_
  refine va_sld hx hb hX hbl hbA hS (vin_ (by decide +kernel)) dL_law_1147 ?_
  refine kt_ (v := p1) ((congrArg xs (by decide +kernel)).trans hp1) ?_
  refine kc_ (wc := [(h2, .inr (14, [.ref h3, v18, v19, v20, v21, v22, v23, v24, v25, v26, v27, v28, v29, v30, v31, v32, v33, v34, v35, v36, v37, v38, v39, .int 0, v40])), (h3, .inl (k3, 8277, .inl (fun _ => 0)))]) (wr := []) (va_runV (As := [.int p1]) (rest := []) ⟨hx, hb, hml, hown, hts⟩ (c_X11_reached_0 l hl0 D ad H.size h2 h3 k3 (v18) (v19) (v20) (v21) (v22) (v23) (v24) (v25) (v26) (v27) (v28) (v29) (v30) (v31) (v32) (v33) (v34) (v35) (v36) (v37) (v38) (v39) (.int 0) (v40) p1) (cwV 1 hts hL_law_X11_reached rfl rfl rfl (by decide +kernel) ⟨Nat.le_of_ble_eq_true rfl, Nat.le_of_ble_eq_true rfl⟩) ⟨PC_.blind, va_recv hK hP (ci := 14) (q0 := 0) rfl rfl, PC_.pre hF hK hP hD hS hA [0, 1] [0] rfl (by decide) rfl⟩ rfl rfl hl.1 rfl (lv_room (Nat.le_of_ble_eq_true rfl)) dL_law_1148 ⟨Nat.le_of_ble_eq_true rfl, Nat.le_of_ble_eq_true rfl⟩) hK hP hD hS hA [0, 1] [] [] rfl rfl (by decide) (by decide) rfl (fun qa_2 ka_2 ia_2 H locs hpo hP hD hK hS => ?_)
  have hP : va_P D vwCl [(h2, .inr (14, [.ref h3, v18, v19, v20, v21, v22, v23, v24, v25, v26, v27, v28, v29, v30, v31, v32, v33, v34, v35, v36, v37, v38, v39, .int 1, v40])), (h3, .inl (k3, 8277, .inl (fun _ => 0)))] H := hP
  have hD : va_D A [(h2, .inr (14, [.ref h3, v18, v19, v20, v21, v22, v23, v24, v25, v26, v27, v28, v29, v30, v31, v32, v33, v34, v35, v36, v37, v38, v39, .int 1, v40])), (h3, .inl (k3, 8277, .inl (fun _ => 0)))] := hD
  have hK : va_K D vwCl [(k3, .int)] s := hK
  refine W.eq (g2 := F0 m 1151 ls [.int 0]) rfl ?_
  refine lv_istore (lv' := [(7, .int 0), (6, .int 1), (5, .int 0), (4, .ref r1), (3, .ref r0), (2, .ref h2), (1, .ref h0), (0, .ref b)]) hx hb dL_law_1151 hl (by decide) rfl (fun ls hl => ?_)
  refine lv_aload_n hx hb dL_law_1153 rfl (lv_at hl 5 rfl) ?_
  refine kc_ (wc := [(h2, .inr (14, [.ref h3, v18, v19, v20, v21, v22, v23, v24, v25, v26, v27, v28, v29, v30, v31, v32, v33, v34, v35, v36, v37, v38, v39, .int 1, v40]))]) (wr := [(h3, .inl (k3, 8277, .inl (fun _ => 0)))]) (va_runV (As := []) (rest := []) ⟨hx, hb, hml, hown, hts⟩ (c_X11_thrown_1 l hl0 D ad H.size h2 (.ref h3) (v18) (v19) (v20) (v21) (v22) (v23) (v24) (v25) (v26) (v27) (v28) (v29) (v30) (v31) (v32) (v33) (v34) (v35) (v36) (v37) (v38) (v39) (v40)) (cwV 0 hts hL_law_X11_thrown rfl rfl rfl (by decide +kernel) ⟨Nat.le_of_ble_eq_true rfl, Nat.le_of_ble_eq_true rfl⟩) ⟨PC_.blind, va_recv hK hP (ci := 14) (q0 := 0) rfl rfl, PC_.pre hF hK hP hD hS hA [0] [] rfl (by decide) rfl⟩ rfl rfl hl.1 rfl (lv_room (Nat.le_of_ble_eq_true rfl)) dL_law_1154 ⟨Nat.le_of_ble_eq_true rfl, Nat.le_of_ble_eq_true rfl⟩) hK hP hD hS hA [0] [1] [0] rfl rfl (by decide) (by decide) rfl (fun qa_3 ka_3 ia_3 H locs hpo hP hD hK hS => ?_)
  have hP : va_P D vwCl [(h3, .inl (k3, 8277, .inl (fun _ => 0))), (h2, .inr (14, [.ref h3, v18, v19, v20, v21, v22, v23, v24, v25, v26, v27, v28, v29, v30, v31, v32, v33, v34, v35, v36, v37, v38, v39, .int 1, v40]))] H := hP
  have hD : va_D A [(h3, .inl (k3, 8277, .inl (fun _ => 0))), (h2, .inr (14, [.ref h3, v18, v19, v20, v21, v22, v23, v24, v25, v26, v27, v28, v29, v30, v31, v32, v33, v34, v35, v36, v37, v38, v39, .int 1, v40]))] := hD
  have hK : va_K D vwCl [(k3, .int)] s := hK
  refine W.eq (g2 := F0 m 1157 ls [.int 1]) rfl ?_
  refine lv_iload hx hb dL_law_1157 (lv_at hl 1 rfl) ?_
  refine lv_icmp_eq (tgt := 1164) hx hb dL_law_1159 (by decide) (fun _ => ?_) (fun c9 => absurd (by decide +kernel) c9)
  refine lv_iload hx hb dL_law_1164 (lv_at hl 1 rfl) ?_
  refine lv_if_ne (tgt := 1181) hx hb dL_law_1166 (by decide) (fun _ => ?_) (fun c9 => absurd c9 (by decide +kernel))
  refine lv_goto (tgt := 2280) hx hb dL_law_1181 (by decide) ?_
  exact law_tail C0 hAe hS (lv_sub hl [7, 2] rfl) (Nat.le_of_ble_eq_true rfl) (Nat.le_of_ble_eq_true rfl)
set_option maxHeartbeats 4000000 in
set_option maxRecDepth 100000 in
theorem law_case_15 {p : Program} {l : Launch} {e : Env} {s : State} {m : MethodId} {below : List Frame} {meth : Method} {c : Code} {b : Nat} {xs : Nat → Int32} {cells slots : Nat} {H : Heap} {locs : List Loc} {ls : Array Slot} {D : va_G} {ad : Nat → Nat} {A : Nat → Prop} (hl0 : l.stackTraces = false) (C0 : lw_At p s m meth c b 4 xs) (hAe : A = fun q : Nat => s.heap.size ≤ q) (hF : FX_ ad A s s.heap) (hS : va_S A s.heap H locs) (h0 : Nat) (h1 : Nat) (h2 : Nat) (h3 : Nat) (k3 : ClassId) (r0 : Nat) (r1 : Nat) (v0 : Value) (v1 : Value) (v2 : Value) (v3 : Value) (v4 : Value) (v5 : Value) (v6 : Value) (v7 : Value) (v8 : Value) (v9 : Value) (v10 : Value) (v11 : Value) (v12 : Value) (v13 : Value) (v14 : Value) (v15 : Value) (v16 : Value) (v17 : Value) (v18 : Value) (v19 : Value) (v20 : Value) (v21 : Value) (v22 : Value) (v23 : Value) (v24 : Value) (v25 : Value) (v26 : Value) (v27 : Value) (v28 : Value) (v29 : Value) (v30 : Value) (v31 : Value) (v32 : Value) (v33 : Value) (v34 : Value) (v35 : Value) (v36 : Value) (v37 : Value) (v38 : Value) (v39 : Value) (v40 : Value) (p1 p2 p3 : Int32) (hp1 : xs 1 = p1) (hp2 : xs 2 = p2) (hp3 : xs 3 = p3) (hP : va_P D vwCl [(h0, .inr (13, [.ref h1, v0, v1, v2, v3, v4, v5, v6, v7, v8])), (h1, .inr (11, [v9, v10, v11, v12, v13, .int 0, v14, v15, v16, v17])), (h2, .inr (14, [.ref h3, v18, v19, v20, v21, v22, v23, v24, v25, v26, v27, v28, v29, v30, v31, v32, v33, v34, v35, v36, v37, v38, v39, .int 0, v40])), (h3, .inl (k3, 8277, .inl (fun _ => 0)))] H) (hD : va_D A [(h0, .inr (13, [.ref h1, v0, v1, v2, v3, v4, v5, v6, v7, v8])), (h1, .inr (11, [v9, v10, v11, v12, v13, .int 0, v14, v15, v16, v17])), (h2, .inr (14, [.ref h3, v18, v19, v20, v21, v22, v23, v24, v25, v26, v27, v28, v29, v30, v31, v32, v33, v34, v35, v36, v37, v38, v39, .int 0, v40])), (h3, .inl (k3, 8277, .inl (fun _ => 0)))]) (hK : va_K D vwCl [(k3, .int)] s) (hl : lv_has ls 9 [(5, .int 0), (4, .ref r1), (3, .ref r0), (2, .ref h2), (1, .ref h0), (0, .ref b)]) (hcc : cells ≤ 2200) (hss : slots ≤ 260000) : W p l e room_1 s m #[Value.ref b] below meth c H locs cells slots (lw_Z below #[Value.ref b] s) (F0 m 1184 ls []) := by
  obtain ⟨hx, hb, hr, hml, hown, hts, hX, hbl, hlocks, hgv⟩ := id C0
  have hA : ∀ q : Nat, s.heap.size ≤ q → A q := fun q h => by rw [hAe]; exact h
  have hbA : ¬ A b := by rw [hAe]; exact Nat.not_le.mpr hbl
  refine W.widen (k := 2200) (n := 260000) hcc hss ?_
  have hi_X10 : ∀ w ∈ wsX100, w ∈ lw_tbl := inX10
  have hi_X11 : ∀ w ∈ wsX110, w ∈ lw_tbl := inX11
  have hi_X8 : ∀ w ∈ wsX80, w ∈ lw_tbl := inX8
  refine lv_aload_n hx hb dL_law_1184 rfl (lv_at hl 4 rfl) ?_
  refine lv_aload_n hx hb dL_law_1185 rfl (lv_at hl 5 rfl) ?_
  refine lv_iload hx hb dL_law_1186 (lv_at hl 0 rfl) ?_
  refine lv_iconst (v := 1) hx hb dL_law_1188 (by decide) ?_
  refine lv_iadd hx hb dL_law_1189 ?_
  refine kt_ (v := 1) (by decide +kernel) ?_
  refine va_sld hx hb hX hbl hbA hS (vin_ (by decide +kernel)) dL_law_1190 ?_
  refine kt_ (v := p1) ((congrArg xs (by decide +kernel)).trans hp1) ?_
  refine lv_aload_n hx hb dL_law_1191 rfl (lv_at hl 5 rfl) ?_
  refine lv_iload hx hb dL_law_1192 (lv_at hl 0 rfl) ?_
  refine lv_iconst (v := 2) hx hb dL_law_1194 (by decide) ?_
  refine lv_iadd hx hb dL_law_1195 ?_
  refine kt_ (v := 2) (by decide +kernel) ?_
  refine va_sld hx hb hX hbl hbA hS (vin_ (by decide +kernel)) dL_law_1196 ?_
  refine kt_ (v := p2) ((congrArg xs (by decide +kernel)).trans hp2) ?_
  refine lv_aload_n hx hb dL_law_1197 rfl (lv_at hl 2 rfl) ?_
  refine kc_ (wc := [(h0, .inr (13, [.ref h1, v0, v1, v2, v3, v4, v5, v6, v7, v8])), (h1, .inr (11, [v9, v10, v11, v12, v13, .int 0, v14, v15, v16, v17]))]) (wr := [(h2, .inr (14, [.ref h3, v18, v19, v20, v21, v22, v23, v24, v25, v26, v27, v28, v29, v30, v31, v32, v33, v34, v35, v36, v37, v38, v39, .int 0, v40])), (h3, .inl (k3, 8277, .inl (fun _ => 0)))]) (vx_runSW (As := [.ref h0, .int p1, .int p2, .ref r0]) (rest := []) ⟨hx, hb, hml, hown, hts⟩ (c_L_follow_0 l hl0 D ad H.size h0 h1 r0 (v0) (v1) (v2) (v3) (v4) (v5) (v6) (v7) (v8) (v9) (v10) (v11) (v12) (v13) (v14) (v15) (v16) (v17) p1 p2) (vx_cwSW 4 hts hL_law_L_follow rfl rfl rfl (by decide +kernel) ⟨Nat.le_of_ble_eq_true rfl, Nat.le_of_ble_eq_true rfl⟩) ⟨PC_.blind, PC_.pre hF hK hP hD hS hA [0, 1] [] rfl (by decide) rfl⟩ rfl rfl hl.1 rfl (lv_room (Nat.le_of_ble_eq_true rfl)) dL_law_1198 ⟨Nat.le_of_ble_eq_true rfl, Nat.le_of_ble_eq_true rfl⟩) hK hP hD hS hA [0, 1] [2, 3] [0] rfl rfl (by decide) (by decide) rfl (fun qa_1 ka_1 ia_1 H locs hpo hP hD hK hS => ?_)
  have hP : va_P D vwCl [(h2, .inr (14, [.ref h3, v18, v19, v20, v21, v22, v23, v24, v25, v26, v27, v28, v29, v30, v31, v32, v33, v34, v35, v36, v37, v38, v39, .int 0, v40])), (h3, .inl (k3, 8277, .inl (fun _ => 0)))] H := hP
  have hD : va_D A [(h2, .inr (14, [.ref h3, v18, v19, v20, v21, v22, v23, v24, v25, v26, v27, v28, v29, v30, v31, v32, v33, v34, v35, v36, v37, v38, v39, .int 0, v40])), (h3, .inl (k3, 8277, .inl (fun _ => 0)))] := hD
  have hK : va_K D vwCl [(k3, .int)] s := hK
  refine W.eq (g2 := F0 m 1201 ls [.int 1]) rfl ?_
  refine lv_istore (lv' := [(6, .int 1), (5, .int 0), (4, .ref r1), (3, .ref r0), (2, .ref h2), (1, .ref h0), (0, .ref b)]) hx hb dL_law_1201 hl (by decide) rfl (fun ls hl => ?_)
  refine lv_aload_n hx hb dL_law_1203 rfl (lv_at hl 4 rfl) ?_
  refine lv_aload_n hx hb dL_law_1204 rfl (lv_at hl 6 rfl) ?_
  refine lv_iload hx hb dL_law_1205 (lv_at hl 1 rfl) ?_
  refine lv_iconst (v := 1) hx hb dL_law_1207 (by decide) ?_
  refine lv_iadd hx hb dL_law_1208 ?_
  refine kt_ (v := 1) (by decide +kernel) ?_
  refine va_sld hx hb hX hbl hbA hS (vin_ (by decide +kernel)) dL_law_1209 ?_
  refine kt_ (v := p1) ((congrArg xs (by decide +kernel)).trans hp1) ?_
  refine lv_aload_n hx hb dL_law_1210 rfl (lv_at hl 6 rfl) ?_
  refine lv_iload hx hb dL_law_1211 (lv_at hl 1 rfl) ?_
  refine lv_iconst (v := 2) hx hb dL_law_1213 (by decide) ?_
  refine lv_iadd hx hb dL_law_1214 ?_
  refine kt_ (v := 2) (by decide +kernel) ?_
  refine va_sld hx hb hX hbl hbA hS (vin_ (by decide +kernel)) dL_law_1215 ?_
  refine kt_ (v := p2) ((congrArg xs (by decide +kernel)).trans hp2) ?_
  refine kc_ (wc := [(h2, .inr (14, [.ref h3, v18, v19, v20, v21, v22, v23, v24, v25, v26, v27, v28, v29, v30, v31, v32, v33, v34, v35, v36, v37, v38, v39, .int 0, v40])), (h3, .inl (k3, 8277, .inl (fun _ => 0)))]) (wr := []) (va_runV (As := [.int p1, .int p2]) (rest := []) ⟨hx, hb, hml, hown, hts⟩ (c_X11_follow_0 l hl0 D ad H.size h2 h3 k3 (v18) (v19) (v20) (v21) (v22) (v23) (v24) (v25) (v26) (v27) (v28) (v29) (v30) (v31) (v32) (v33) (v34) (v35) (v36) (v37) (v38) (v39) (.int 0) (v40) p1 p2) (cwV 2 hts hL_law_X11_follow rfl rfl rfl (by decide +kernel) ⟨Nat.le_of_ble_eq_true rfl, Nat.le_of_ble_eq_true rfl⟩) ⟨PC_.blind, va_recv hK hP (ci := 14) (q0 := 0) rfl rfl, PC_.pre hF hK hP hD hS hA [0, 1] [0] rfl (by decide) rfl⟩ rfl rfl hl.1 rfl (lv_room (Nat.le_of_ble_eq_true rfl)) dL_law_1216 ⟨Nat.le_of_ble_eq_true rfl, Nat.le_of_ble_eq_true rfl⟩) hK hP hD hS hA [0, 1] [] [] rfl rfl (by decide) (by decide) rfl (fun qa_2 ka_2 ia_2 H locs hpo hP hD hK hS => ?_)
  have hP : va_P D vwCl [(h2, .inr (14, [.ref h3, v18, v19, v20, v21, v22, v23, v24, v25, v26, v27, v28, v29, v30, v31, v32, v33, v34, v35, v36, v37, v38, v39, .int 1, v40])), (h3, .inl (k3, 8277, .inl (fun _ => 0)))] H := hP
  have hD : va_D A [(h2, .inr (14, [.ref h3, v18, v19, v20, v21, v22, v23, v24, v25, v26, v27, v28, v29, v30, v31, v32, v33, v34, v35, v36, v37, v38, v39, .int 1, v40])), (h3, .inl (k3, 8277, .inl (fun _ => 0)))] := hD
  have hK : va_K D vwCl [(k3, .int)] s := hK
  refine W.eq (g2 := F0 m 1219 ls [.int 0]) rfl ?_
  refine lv_istore (lv' := [(7, .int 0), (6, .int 1), (5, .int 0), (4, .ref r1), (3, .ref r0), (2, .ref h2), (1, .ref h0), (0, .ref b)]) hx hb dL_law_1219 hl (by decide) rfl (fun ls hl => ?_)
  refine lv_aload_n hx hb dL_law_1221 rfl (lv_at hl 5 rfl) ?_
  refine kc_ (wc := [(h2, .inr (14, [.ref h3, v18, v19, v20, v21, v22, v23, v24, v25, v26, v27, v28, v29, v30, v31, v32, v33, v34, v35, v36, v37, v38, v39, .int 1, v40]))]) (wr := [(h3, .inl (k3, 8277, .inl (fun _ => 0)))]) (va_runV (As := []) (rest := []) ⟨hx, hb, hml, hown, hts⟩ (c_X11_thrown_1 l hl0 D ad H.size h2 (.ref h3) (v18) (v19) (v20) (v21) (v22) (v23) (v24) (v25) (v26) (v27) (v28) (v29) (v30) (v31) (v32) (v33) (v34) (v35) (v36) (v37) (v38) (v39) (v40)) (cwV 0 hts hL_law_X11_thrown rfl rfl rfl (by decide +kernel) ⟨Nat.le_of_ble_eq_true rfl, Nat.le_of_ble_eq_true rfl⟩) ⟨PC_.blind, va_recv hK hP (ci := 14) (q0 := 0) rfl rfl, PC_.pre hF hK hP hD hS hA [0] [] rfl (by decide) rfl⟩ rfl rfl hl.1 rfl (lv_room (Nat.le_of_ble_eq_true rfl)) dL_law_1222 ⟨Nat.le_of_ble_eq_true rfl, Nat.le_of_ble_eq_true rfl⟩) hK hP hD hS hA [0] [1] [0] rfl rfl (by decide) (by decide) rfl (fun qa_3 ka_3 ia_3 H locs hpo hP hD hK hS => ?_)
  have hP : va_P D vwCl [(h3, .inl (k3, 8277, .inl (fun _ => 0))), (h2, .inr (14, [.ref h3, v18, v19, v20, v21, v22, v23, v24, v25, v26, v27, v28, v29, v30, v31, v32, v33, v34, v35, v36, v37, v38, v39, .int 1, v40]))] H := hP
  have hD : va_D A [(h3, .inl (k3, 8277, .inl (fun _ => 0))), (h2, .inr (14, [.ref h3, v18, v19, v20, v21, v22, v23, v24, v25, v26, v27, v28, v29, v30, v31, v32, v33, v34, v35, v36, v37, v38, v39, .int 1, v40]))] := hD
  have hK : va_K D vwCl [(k3, .int)] s := hK
  refine W.eq (g2 := F0 m 1225 ls [.int 1]) rfl ?_
  refine lv_iload hx hb dL_law_1225 (lv_at hl 1 rfl) ?_
  refine lv_icmp_eq (tgt := 1232) hx hb dL_law_1227 (by decide) (fun _ => ?_) (fun c9 => absurd (by decide +kernel) c9)
  refine lv_iload hx hb dL_law_1232 (lv_at hl 1 rfl) ?_
  refine lv_if_ne (tgt := 1249) hx hb dL_law_1234 (by decide) (fun _ => ?_) (fun c9 => absurd c9 (by decide +kernel))
  refine lv_goto (tgt := 2280) hx hb dL_law_1249 (by decide) ?_
  exact law_tail C0 hAe hS (lv_sub hl [7, 2] rfl) (Nat.le_of_ble_eq_true rfl) (Nat.le_of_ble_eq_true rfl)
set_option maxHeartbeats 4000000 in
set_option maxRecDepth 100000 in
theorem law_case_16 {p : Program} {l : Launch} {e : Env} {s : State} {m : MethodId} {below : List Frame} {meth : Method} {c : Code} {b : Nat} {xs : Nat → Int32} {cells slots : Nat} {H : Heap} {locs : List Loc} {ls : Array Slot} {D : va_G} {ad : Nat → Nat} {A : Nat → Prop} (hl0 : l.stackTraces = false) (C0 : lw_At p s m meth c b 4 xs) (hAe : A = fun q : Nat => s.heap.size ≤ q) (hF : FX_ ad A s s.heap) (hS : va_S A s.heap H locs) (h0 : Nat) (h1 : Nat) (h2 : Nat) (h3 : Nat) (k3 : ClassId) (r0 : Nat) (r1 : Nat) (v0 : Value) (v1 : Value) (v2 : Value) (v3 : Value) (v4 : Value) (v5 : Value) (v6 : Value) (v7 : Value) (v8 : Value) (v9 : Value) (v10 : Value) (v11 : Value) (v12 : Value) (v13 : Value) (v14 : Value) (v15 : Value) (v16 : Value) (v17 : Value) (v18 : Value) (v19 : Value) (v20 : Value) (v21 : Value) (v22 : Value) (v23 : Value) (v24 : Value) (v25 : Value) (v26 : Value) (v27 : Value) (v28 : Value) (v29 : Value) (v30 : Value) (v31 : Value) (v32 : Value) (v33 : Value) (v34 : Value) (v35 : Value) (v36 : Value) (v37 : Value) (v38 : Value) (v39 : Value) (v40 : Value) (p1 p2 p3 : Int32) (hp1 : xs 1 = p1) (hp2 : xs 2 = p2) (hp3 : xs 3 = p3) (hP : va_P D vwCl [(h0, .inr (13, [.ref h1, v0, v1, v2, v3, v4, v5, v6, v7, v8])), (h1, .inr (11, [v9, v10, v11, v12, v13, .int 0, v14, v15, v16, v17])), (h2, .inr (14, [.ref h3, v18, v19, v20, v21, v22, v23, v24, v25, v26, v27, v28, v29, v30, v31, v32, v33, v34, v35, v36, v37, v38, v39, .int 0, v40])), (h3, .inl (k3, 8277, .inl (fun _ => 0)))] H) (hD : va_D A [(h0, .inr (13, [.ref h1, v0, v1, v2, v3, v4, v5, v6, v7, v8])), (h1, .inr (11, [v9, v10, v11, v12, v13, .int 0, v14, v15, v16, v17])), (h2, .inr (14, [.ref h3, v18, v19, v20, v21, v22, v23, v24, v25, v26, v27, v28, v29, v30, v31, v32, v33, v34, v35, v36, v37, v38, v39, .int 0, v40])), (h3, .inl (k3, 8277, .inl (fun _ => 0)))]) (hK : va_K D vwCl [(k3, .int)] s) (hl : lv_has ls 9 [(5, .int 0), (4, .ref r1), (3, .ref r0), (2, .ref h2), (1, .ref h0), (0, .ref b)]) (hcc : cells ≤ 2200) (hss : slots ≤ 260000) : W p l e room_1 s m #[Value.ref b] below meth c H locs cells slots (lw_Z below #[Value.ref b] s) (F0 m 1252 ls []) := by
  obtain ⟨hx, hb, hr, hml, hown, hts, hX, hbl, hlocks, hgv⟩ := id C0
  have hA : ∀ q : Nat, s.heap.size ≤ q → A q := fun q h => by rw [hAe]; exact h
  have hbA : ¬ A b := by rw [hAe]; exact Nat.not_le.mpr hbl
  refine W.widen (k := 2200) (n := 260000) hcc hss ?_
  have hi_X10 : ∀ w ∈ wsX100, w ∈ lw_tbl := inX10
  have hi_X11 : ∀ w ∈ wsX110, w ∈ lw_tbl := inX11
  have hi_X8 : ∀ w ∈ wsX80, w ∈ lw_tbl := inX8
  refine lv_aload_n hx hb dL_law_1252 rfl (lv_at hl 4 rfl) ?_
  refine lv_aload_n hx hb dL_law_1253 rfl (lv_at hl 5 rfl) ?_
  refine lv_iload hx hb dL_law_1254 (lv_at hl 0 rfl) ?_
  refine lv_iconst (v := 1) hx hb dL_law_1256 (by decide) ?_
  refine lv_iadd hx hb dL_law_1257 ?_
  refine kt_ (v := 1) (by decide +kernel) ?_
  refine va_sld hx hb hX hbl hbA hS (vin_ (by decide +kernel)) dL_law_1258 ?_
  refine kt_ (v := p1) ((congrArg xs (by decide +kernel)).trans hp1) ?_
  refine lv_aload_n hx hb dL_law_1259 rfl (lv_at hl 5 rfl) ?_
  refine lv_iload hx hb dL_law_1260 (lv_at hl 0 rfl) ?_
  refine lv_iconst (v := 2) hx hb dL_law_1262 (by decide) ?_
  refine lv_iadd hx hb dL_law_1263 ?_
  refine kt_ (v := 2) (by decide +kernel) ?_
  refine va_sld hx hb hX hbl hbA hS (vin_ (by decide +kernel)) dL_law_1264 ?_
  refine kt_ (v := p2) ((congrArg xs (by decide +kernel)).trans hp2) ?_
  refine lv_aload_n hx hb dL_law_1265 rfl (lv_at hl 2 rfl) ?_
  refine kc_ (wc := [(h0, .inr (13, [.ref h1, v0, v1, v2, v3, v4, v5, v6, v7, v8])), (h1, .inr (11, [v9, v10, v11, v12, v13, .int 0, v14, v15, v16, v17]))]) (wr := [(h2, .inr (14, [.ref h3, v18, v19, v20, v21, v22, v23, v24, v25, v26, v27, v28, v29, v30, v31, v32, v33, v34, v35, v36, v37, v38, v39, .int 0, v40])), (h3, .inl (k3, 8277, .inl (fun _ => 0)))]) (vx_runSW (As := [.ref h0, .int p1, .int p2, .ref r0]) (rest := []) ⟨hx, hb, hml, hown, hts⟩ (c_L_real_0 l hl0 D ad H.size h0 h1 r0 (v0) (v1) (v2) (v3) (v4) (v5) (v6) (v7) (v8) (v9) (v10) (v11) (v12) (v13) (v14) (v15) (v16) (v17) p1 p2) (vx_cwSW 4 hts hL_law_L_real rfl rfl rfl (by decide +kernel) ⟨Nat.le_of_ble_eq_true rfl, Nat.le_of_ble_eq_true rfl⟩) ⟨PC_.blind, PC_.pre hF hK hP hD hS hA [0, 1] [] rfl (by decide) rfl⟩ rfl rfl hl.1 rfl (lv_room (Nat.le_of_ble_eq_true rfl)) dL_law_1266 ⟨Nat.le_of_ble_eq_true rfl, Nat.le_of_ble_eq_true rfl⟩) hK hP hD hS hA [0, 1] [2, 3] [0] rfl rfl (by decide) (by decide) rfl (fun qa_1 ka_1 ia_1 H locs hpo hP hD hK hS => ?_)
  have hP : va_P D vwCl [(h2, .inr (14, [.ref h3, v18, v19, v20, v21, v22, v23, v24, v25, v26, v27, v28, v29, v30, v31, v32, v33, v34, v35, v36, v37, v38, v39, .int 0, v40])), (h3, .inl (k3, 8277, .inl (fun _ => 0)))] H := hP
  have hD : va_D A [(h2, .inr (14, [.ref h3, v18, v19, v20, v21, v22, v23, v24, v25, v26, v27, v28, v29, v30, v31, v32, v33, v34, v35, v36, v37, v38, v39, .int 0, v40])), (h3, .inl (k3, 8277, .inl (fun _ => 0)))] := hD
  have hK : va_K D vwCl [(k3, .int)] s := hK
  refine W.eq (g2 := F0 m 1269 ls [.int 1]) rfl ?_
  refine lv_istore (lv' := [(6, .int 1), (5, .int 0), (4, .ref r1), (3, .ref r0), (2, .ref h2), (1, .ref h0), (0, .ref b)]) hx hb dL_law_1269 hl (by decide) rfl (fun ls hl => ?_)
  refine lv_aload_n hx hb dL_law_1271 rfl (lv_at hl 4 rfl) ?_
  refine lv_aload_n hx hb dL_law_1272 rfl (lv_at hl 6 rfl) ?_
  refine lv_iload hx hb dL_law_1273 (lv_at hl 1 rfl) ?_
  refine lv_iconst (v := 1) hx hb dL_law_1275 (by decide) ?_
  refine lv_iadd hx hb dL_law_1276 ?_
  refine kt_ (v := 1) (by decide +kernel) ?_
  refine va_sld hx hb hX hbl hbA hS (vin_ (by decide +kernel)) dL_law_1277 ?_
  refine kt_ (v := p1) ((congrArg xs (by decide +kernel)).trans hp1) ?_
  refine lv_aload_n hx hb dL_law_1278 rfl (lv_at hl 6 rfl) ?_
  refine lv_iload hx hb dL_law_1279 (lv_at hl 1 rfl) ?_
  refine lv_iconst (v := 2) hx hb dL_law_1281 (by decide) ?_
  refine lv_iadd hx hb dL_law_1282 ?_
  refine kt_ (v := 2) (by decide +kernel) ?_
  refine va_sld hx hb hX hbl hbA hS (vin_ (by decide +kernel)) dL_law_1283 ?_
  refine kt_ (v := p2) ((congrArg xs (by decide +kernel)).trans hp2) ?_
  refine kc_ (wc := [(h2, .inr (14, [.ref h3, v18, v19, v20, v21, v22, v23, v24, v25, v26, v27, v28, v29, v30, v31, v32, v33, v34, v35, v36, v37, v38, v39, .int 0, v40])), (h3, .inl (k3, 8277, .inl (fun _ => 0)))]) (wr := []) (va_runV (As := [.int p1, .int p2]) (rest := []) ⟨hx, hb, hml, hown, hts⟩ (c_X11_real_0 l hl0 D ad H.size h2 h3 k3 (v18) (v19) (v20) (v21) (v22) (v23) (v24) (v25) (v26) (v27) (v28) (v29) (v30) (v31) (v32) (v33) (v34) (v35) (v36) (v37) (v38) (v39) (.int 0) (v40) p1 p2) (cwV 2 hts hL_law_X11_real rfl rfl rfl (by decide +kernel) ⟨Nat.le_of_ble_eq_true rfl, Nat.le_of_ble_eq_true rfl⟩) ⟨PC_.blind, va_recv hK hP (ci := 14) (q0 := 0) rfl rfl, PC_.pre hF hK hP hD hS hA [0, 1] [0] rfl (by decide) rfl⟩ rfl rfl hl.1 rfl (lv_room (Nat.le_of_ble_eq_true rfl)) dL_law_1284 ⟨Nat.le_of_ble_eq_true rfl, Nat.le_of_ble_eq_true rfl⟩) hK hP hD hS hA [0, 1] [] [] rfl rfl (by decide) (by decide) rfl (fun qa_2 ka_2 ia_2 H locs hpo hP hD hK hS => ?_)
  have hP : va_P D vwCl [(h2, .inr (14, [.ref h3, v18, v19, v20, v21, v22, v23, v24, v25, v26, v27, v28, v29, v30, v31, v32, v33, v34, v35, v36, v37, v38, v39, .int 1, v40])), (h3, .inl (k3, 8277, .inl (fun _ => 0)))] H := hP
  have hD : va_D A [(h2, .inr (14, [.ref h3, v18, v19, v20, v21, v22, v23, v24, v25, v26, v27, v28, v29, v30, v31, v32, v33, v34, v35, v36, v37, v38, v39, .int 1, v40])), (h3, .inl (k3, 8277, .inl (fun _ => 0)))] := hD
  have hK : va_K D vwCl [(k3, .int)] s := hK
  refine W.eq (g2 := F0 m 1287 ls [.int 0]) rfl ?_
  refine lv_istore (lv' := [(7, .int 0), (6, .int 1), (5, .int 0), (4, .ref r1), (3, .ref r0), (2, .ref h2), (1, .ref h0), (0, .ref b)]) hx hb dL_law_1287 hl (by decide) rfl (fun ls hl => ?_)
  refine lv_aload_n hx hb dL_law_1289 rfl (lv_at hl 5 rfl) ?_
  refine kc_ (wc := [(h2, .inr (14, [.ref h3, v18, v19, v20, v21, v22, v23, v24, v25, v26, v27, v28, v29, v30, v31, v32, v33, v34, v35, v36, v37, v38, v39, .int 1, v40]))]) (wr := [(h3, .inl (k3, 8277, .inl (fun _ => 0)))]) (va_runV (As := []) (rest := []) ⟨hx, hb, hml, hown, hts⟩ (c_X11_thrown_1 l hl0 D ad H.size h2 (.ref h3) (v18) (v19) (v20) (v21) (v22) (v23) (v24) (v25) (v26) (v27) (v28) (v29) (v30) (v31) (v32) (v33) (v34) (v35) (v36) (v37) (v38) (v39) (v40)) (cwV 0 hts hL_law_X11_thrown rfl rfl rfl (by decide +kernel) ⟨Nat.le_of_ble_eq_true rfl, Nat.le_of_ble_eq_true rfl⟩) ⟨PC_.blind, va_recv hK hP (ci := 14) (q0 := 0) rfl rfl, PC_.pre hF hK hP hD hS hA [0] [] rfl (by decide) rfl⟩ rfl rfl hl.1 rfl (lv_room (Nat.le_of_ble_eq_true rfl)) dL_law_1290 ⟨Nat.le_of_ble_eq_true rfl, Nat.le_of_ble_eq_true rfl⟩) hK hP hD hS hA [0] [1] [0] rfl rfl (by decide) (by decide) rfl (fun qa_3 ka_3 ia_3 H locs hpo hP hD hK hS => ?_)
  have hP : va_P D vwCl [(h3, .inl (k3, 8277, .inl (fun _ => 0))), (h2, .inr (14, [.ref h3, v18, v19, v20, v21, v22, v23, v24, v25, v26, v27, v28, v29, v30, v31, v32, v33, v34, v35, v36, v37, v38, v39, .int 1, v40]))] H := hP
  have hD : va_D A [(h3, .inl (k3, 8277, .inl (fun _ => 0))), (h2, .inr (14, [.ref h3, v18, v19, v20, v21, v22, v23, v24, v25, v26, v27, v28, v29, v30, v31, v32, v33, v34, v35, v36, v37, v38, v39, .int 1, v40]))] := hD
  have hK : va_K D vwCl [(k3, .int)] s := hK
  refine W.eq (g2 := F0 m 1293 ls [.int 1]) rfl ?_
  refine lv_iload hx hb dL_law_1293 (lv_at hl 1 rfl) ?_
  refine lv_icmp_eq (tgt := 1300) hx hb dL_law_1295 (by decide) (fun _ => ?_) (fun c9 => absurd (by decide +kernel) c9)
  refine lv_iload hx hb dL_law_1300 (lv_at hl 1 rfl) ?_
  refine lv_if_ne (tgt := 1317) hx hb dL_law_1302 (by decide) (fun _ => ?_) (fun c9 => absurd c9 (by decide +kernel))
  refine lv_goto (tgt := 2280) hx hb dL_law_1317 (by decide) ?_
  exact law_tail C0 hAe hS (lv_sub hl [7, 2] rfl) (Nat.le_of_ble_eq_true rfl) (Nat.le_of_ble_eq_true rfl)
set_option maxHeartbeats 4000000 in
set_option maxRecDepth 100000 in
theorem law_case_17 {p : Program} {l : Launch} {e : Env} {s : State} {m : MethodId} {below : List Frame} {meth : Method} {c : Code} {b : Nat} {xs : Nat → Int32} {cells slots : Nat} {H : Heap} {locs : List Loc} {ls : Array Slot} {D : va_G} {ad : Nat → Nat} {A : Nat → Prop} (hl0 : l.stackTraces = false) (C0 : lw_At p s m meth c b 4 xs) (hAe : A = fun q : Nat => s.heap.size ≤ q) (hF : FX_ ad A s s.heap) (hS : va_S A s.heap H locs) (h0 : Nat) (h1 : Nat) (h2 : Nat) (h3 : Nat) (k3 : ClassId) (r0 : Nat) (r1 : Nat) (v0 : Value) (v1 : Value) (v2 : Value) (v3 : Value) (v4 : Value) (v5 : Value) (v6 : Value) (v7 : Value) (v8 : Value) (v9 : Value) (v10 : Value) (v11 : Value) (v12 : Value) (v13 : Value) (v14 : Value) (v15 : Value) (v16 : Value) (v17 : Value) (v18 : Value) (v19 : Value) (v20 : Value) (v21 : Value) (v22 : Value) (v23 : Value) (v24 : Value) (v25 : Value) (v26 : Value) (v27 : Value) (v28 : Value) (v29 : Value) (v30 : Value) (v31 : Value) (v32 : Value) (v33 : Value) (v34 : Value) (v35 : Value) (v36 : Value) (v37 : Value) (v38 : Value) (v39 : Value) (v40 : Value) (p1 p2 p3 : Int32) (hp1 : xs 1 = p1) (hp2 : xs 2 = p2) (hp3 : xs 3 = p3) (hP : va_P D vwCl [(h0, .inr (13, [.ref h1, v0, v1, v2, v3, v4, v5, v6, v7, v8])), (h1, .inr (11, [v9, v10, v11, v12, v13, .int 0, v14, v15, v16, v17])), (h2, .inr (14, [.ref h3, v18, v19, v20, v21, v22, v23, v24, v25, v26, v27, v28, v29, v30, v31, v32, v33, v34, v35, v36, v37, v38, v39, .int 0, v40])), (h3, .inl (k3, 8277, .inl (fun _ => 0)))] H) (hD : va_D A [(h0, .inr (13, [.ref h1, v0, v1, v2, v3, v4, v5, v6, v7, v8])), (h1, .inr (11, [v9, v10, v11, v12, v13, .int 0, v14, v15, v16, v17])), (h2, .inr (14, [.ref h3, v18, v19, v20, v21, v22, v23, v24, v25, v26, v27, v28, v29, v30, v31, v32, v33, v34, v35, v36, v37, v38, v39, .int 0, v40])), (h3, .inl (k3, 8277, .inl (fun _ => 0)))]) (hK : va_K D vwCl [(k3, .int)] s) (hl : lv_has ls 9 [(5, .int 0), (4, .ref r1), (3, .ref r0), (2, .ref h2), (1, .ref h0), (0, .ref b)]) (hcc : cells ≤ 2200) (hss : slots ≤ 260000) : W p l e room_1 s m #[Value.ref b] below meth c H locs cells slots (lw_Z below #[Value.ref b] s) (F0 m 1320 ls []) := by
  obtain ⟨hx, hb, hr, hml, hown, hts, hX, hbl, hlocks, hgv⟩ := id C0
  have hA : ∀ q : Nat, s.heap.size ≤ q → A q := fun q h => by rw [hAe]; exact h
  have hbA : ¬ A b := by rw [hAe]; exact Nat.not_le.mpr hbl
  refine W.widen (k := 2200) (n := 260000) hcc hss ?_
  have hi_X10 : ∀ w ∈ wsX100, w ∈ lw_tbl := inX10
  have hi_X11 : ∀ w ∈ wsX110, w ∈ lw_tbl := inX11
  have hi_X8 : ∀ w ∈ wsX80, w ∈ lw_tbl := inX8
  refine lv_aload_n hx hb dL_law_1320 rfl (lv_at hl 4 rfl) ?_
  refine lv_aload_n hx hb dL_law_1321 rfl (lv_at hl 5 rfl) ?_
  refine lv_iload hx hb dL_law_1322 (lv_at hl 0 rfl) ?_
  refine lv_iconst (v := 1) hx hb dL_law_1324 (by decide) ?_
  refine lv_iadd hx hb dL_law_1325 ?_
  refine kt_ (v := 1) (by decide +kernel) ?_
  refine va_sld hx hb hX hbl hbA hS (vin_ (by decide +kernel)) dL_law_1326 ?_
  refine kt_ (v := p1) ((congrArg xs (by decide +kernel)).trans hp1) ?_
  refine lv_aload_n hx hb dL_law_1327 rfl (lv_at hl 2 rfl) ?_
  refine kc_ (wc := [(h0, .inr (13, [.ref h1, v0, v1, v2, v3, v4, v5, v6, v7, v8])), (h1, .inr (11, [v9, v10, v11, v12, v13, .int 0, v14, v15, v16, v17]))]) (wr := [(h2, .inr (14, [.ref h3, v18, v19, v20, v21, v22, v23, v24, v25, v26, v27, v28, v29, v30, v31, v32, v33, v34, v35, v36, v37, v38, v39, .int 0, v40])), (h3, .inl (k3, 8277, .inl (fun _ => 0)))]) (vx_runSW (As := [.ref h0, .int p1, .ref r0]) (rest := []) ⟨hx, hb, hml, hown, hts⟩ (c_L_isRight_0 l hl0 D ad H.size h0 h1 r0 (v0) (v1) (v2) (v3) (v4) (v5) (v6) (v7) (v8) (v9) (v10) (v11) (v12) (v13) (v14) (v15) (v16) (v17) p1) (vx_cwSW 3 hts hL_law_L_isRight rfl rfl rfl (by decide +kernel) ⟨Nat.le_of_ble_eq_true rfl, Nat.le_of_ble_eq_true rfl⟩) ⟨PC_.blind, PC_.pre hF hK hP hD hS hA [0, 1] [] rfl (by decide) rfl⟩ rfl rfl hl.1 rfl (lv_room (Nat.le_of_ble_eq_true rfl)) dL_law_1328 ⟨Nat.le_of_ble_eq_true rfl, Nat.le_of_ble_eq_true rfl⟩) hK hP hD hS hA [0, 1] [2, 3] [0] rfl rfl (by decide) (by decide) rfl (fun qa_1 ka_1 ia_1 H locs hpo hP hD hK hS => ?_)
  have hP : va_P D vwCl [(h2, .inr (14, [.ref h3, v18, v19, v20, v21, v22, v23, v24, v25, v26, v27, v28, v29, v30, v31, v32, v33, v34, v35, v36, v37, v38, v39, .int 0, v40])), (h3, .inl (k3, 8277, .inl (fun _ => 0)))] H := hP
  have hD : va_D A [(h2, .inr (14, [.ref h3, v18, v19, v20, v21, v22, v23, v24, v25, v26, v27, v28, v29, v30, v31, v32, v33, v34, v35, v36, v37, v38, v39, .int 0, v40])), (h3, .inl (k3, 8277, .inl (fun _ => 0)))] := hD
  have hK : va_K D vwCl [(k3, .int)] s := hK
  refine W.eq (g2 := F0 m 1331 ls [.int 1]) rfl ?_
  refine lv_istore (lv' := [(6, .int 1), (5, .int 0), (4, .ref r1), (3, .ref r0), (2, .ref h2), (1, .ref h0), (0, .ref b)]) hx hb dL_law_1331 hl (by decide) rfl (fun ls hl => ?_)
  refine lv_aload_n hx hb dL_law_1333 rfl (lv_at hl 4 rfl) ?_
  refine lv_aload_n hx hb dL_law_1334 rfl (lv_at hl 6 rfl) ?_
  refine lv_iload hx hb dL_law_1335 (lv_at hl 1 rfl) ?_
  refine lv_iconst (v := 1) hx hb dL_law_1337 (by decide) ?_
  refine lv_iadd hx hb dL_law_1338 ?_
  refine kt_ (v := 1) (by decide +kernel) ?_
  refine va_sld hx hb hX hbl hbA hS (vin_ (by decide +kernel)) dL_law_1339 ?_
  refine kt_ (v := p1) ((congrArg xs (by decide +kernel)).trans hp1) ?_
  refine kc_ (wc := [(h2, .inr (14, [.ref h3, v18, v19, v20, v21, v22, v23, v24, v25, v26, v27, v28, v29, v30, v31, v32, v33, v34, v35, v36, v37, v38, v39, .int 0, v40])), (h3, .inl (k3, 8277, .inl (fun _ => 0)))]) (wr := []) (va_runV (As := [.int p1]) (rest := []) ⟨hx, hb, hml, hown, hts⟩ (c_X11_isRight_0 l hl0 D ad H.size h2 h3 k3 (v18) (v19) (v20) (v21) (v22) (v23) (v24) (v25) (v26) (v27) (v28) (v29) (v30) (v31) (v32) (v33) (v34) (v35) (v36) (v37) (v38) (v39) (v40) p1) (cwV 1 hts hL_law_X11_isRight rfl rfl rfl (by decide +kernel) ⟨Nat.le_of_ble_eq_true rfl, Nat.le_of_ble_eq_true rfl⟩) ⟨PC_.blind, va_recv hK hP (ci := 14) (q0 := 0) rfl rfl, PC_.pre hF hK hP hD hS hA [0, 1] [0] rfl (by decide) rfl⟩ rfl rfl hl.1 rfl (lv_room (Nat.le_of_ble_eq_true rfl)) dL_law_1340 ⟨Nat.le_of_ble_eq_true rfl, Nat.le_of_ble_eq_true rfl⟩) hK hP hD hS hA [0, 1] [] [] rfl rfl (by decide) (by decide) rfl (fun qa_2 ka_2 ia_2 H locs hpo hP hD hK hS => ?_)
  have hP : va_P D vwCl [(h2, .inr (14, [.ref h3, v18, v19, v20, v21, v22, v23, v24, v25, v26, v27, v28, v29, v30, v31, v32, v33, v34, v35, v36, v37, v38, v39, .int 1, v40])), (h3, .inl (k3, 8277, .inl (fun _ => 0)))] H := hP
  have hD : va_D A [(h2, .inr (14, [.ref h3, v18, v19, v20, v21, v22, v23, v24, v25, v26, v27, v28, v29, v30, v31, v32, v33, v34, v35, v36, v37, v38, v39, .int 1, v40])), (h3, .inl (k3, 8277, .inl (fun _ => 0)))] := hD
  have hK : va_K D vwCl [(k3, .int)] s := hK
  refine W.eq (g2 := F0 m 1343 ls [.int 0]) rfl ?_
  refine lv_istore (lv' := [(7, .int 0), (6, .int 1), (5, .int 0), (4, .ref r1), (3, .ref r0), (2, .ref h2), (1, .ref h0), (0, .ref b)]) hx hb dL_law_1343 hl (by decide) rfl (fun ls hl => ?_)
  refine lv_aload_n hx hb dL_law_1345 rfl (lv_at hl 5 rfl) ?_
  refine kc_ (wc := [(h2, .inr (14, [.ref h3, v18, v19, v20, v21, v22, v23, v24, v25, v26, v27, v28, v29, v30, v31, v32, v33, v34, v35, v36, v37, v38, v39, .int 1, v40]))]) (wr := [(h3, .inl (k3, 8277, .inl (fun _ => 0)))]) (va_runV (As := []) (rest := []) ⟨hx, hb, hml, hown, hts⟩ (c_X11_thrown_1 l hl0 D ad H.size h2 (.ref h3) (v18) (v19) (v20) (v21) (v22) (v23) (v24) (v25) (v26) (v27) (v28) (v29) (v30) (v31) (v32) (v33) (v34) (v35) (v36) (v37) (v38) (v39) (v40)) (cwV 0 hts hL_law_X11_thrown rfl rfl rfl (by decide +kernel) ⟨Nat.le_of_ble_eq_true rfl, Nat.le_of_ble_eq_true rfl⟩) ⟨PC_.blind, va_recv hK hP (ci := 14) (q0 := 0) rfl rfl, PC_.pre hF hK hP hD hS hA [0] [] rfl (by decide) rfl⟩ rfl rfl hl.1 rfl (lv_room (Nat.le_of_ble_eq_true rfl)) dL_law_1346 ⟨Nat.le_of_ble_eq_true rfl, Nat.le_of_ble_eq_true rfl⟩) hK hP hD hS hA [0] [1] [0] rfl rfl (by decide) (by decide) rfl (fun qa_3 ka_3 ia_3 H locs hpo hP hD hK hS => ?_)
  have hP : va_P D vwCl [(h3, .inl (k3, 8277, .inl (fun _ => 0))), (h2, .inr (14, [.ref h3, v18, v19, v20, v21, v22, v23, v24, v25, v26, v27, v28, v29, v30, v31, v32, v33, v34, v35, v36, v37, v38, v39, .int 1, v40]))] H := hP
  have hD : va_D A [(h3, .inl (k3, 8277, .inl (fun _ => 0))), (h2, .inr (14, [.ref h3, v18, v19, v20, v21, v22, v23, v24, v25, v26, v27, v28, v29, v30, v31, v32, v33, v34, v35, v36, v37, v38, v39, .int 1, v40]))] := hD
  have hK : va_K D vwCl [(k3, .int)] s := hK
  refine W.eq (g2 := F0 m 1349 ls [.int 1]) rfl ?_
  refine lv_iload hx hb dL_law_1349 (lv_at hl 1 rfl) ?_
  refine lv_icmp_eq (tgt := 1356) hx hb dL_law_1351 (by decide) (fun _ => ?_) (fun c9 => absurd (by decide +kernel) c9)
  refine lv_iload hx hb dL_law_1356 (lv_at hl 1 rfl) ?_
  refine lv_if_ne (tgt := 1380) hx hb dL_law_1358 (by decide) (fun _ => ?_) (fun c9 => absurd c9 (by decide +kernel))
  refine lv_goto (tgt := 2280) hx hb dL_law_1380 (by decide) ?_
  exact law_tail C0 hAe hS (lv_sub hl [7, 2] rfl) (Nat.le_of_ble_eq_true rfl) (Nat.le_of_ble_eq_true rfl)
set_option maxHeartbeats 4000000 in
set_option maxRecDepth 100000 in
theorem law_case_18 {p : Program} {l : Launch} {e : Env} {s : State} {m : MethodId} {below : List Frame} {meth : Method} {c : Code} {b : Nat} {xs : Nat → Int32} {cells slots : Nat} {H : Heap} {locs : List Loc} {ls : Array Slot} {D : va_G} {ad : Nat → Nat} {A : Nat → Prop} (hl0 : l.stackTraces = false) (C0 : lw_At p s m meth c b 4 xs) (hAe : A = fun q : Nat => s.heap.size ≤ q) (hF : FX_ ad A s s.heap) (hS : va_S A s.heap H locs) (h0 : Nat) (h1 : Nat) (h2 : Nat) (h3 : Nat) (h4 : Nat) (k3 : ClassId) (k4 : ClassId) (r0 : Nat) (v0 : Value) (v1 : Value) (v2 : Value) (v3 : Value) (v4 : Value) (v5 : Value) (v6 : Value) (v7 : Value) (v8 : Value) (v9 : Value) (v10 : Value) (v11 : Value) (v12 : Value) (v13 : Value) (v14 : Value) (v15 : Value) (v16 : Value) (v17 : Value) (v18 : Value) (v19 : Value) (v20 : Value) (v21 : Value) (v22 : Value) (v23 : Value) (v24 : Value) (v25 : Value) (v26 : Value) (v27 : Value) (v28 : Value) (v29 : Value) (v30 : Value) (v31 : Value) (v32 : Value) (v33 : Value) (v34 : Value) (v35 : Value) (v36 : Value) (v37 : Value) (v38 : Value) (v39 : Value) (v40 : Value) (p1 p2 p3 : Int32) (hp1 : xs 1 = p1) (hp2 : xs 2 = p2) (hp3 : xs 3 = p3) (hP : va_P D vwCl [(h0, .inr (13, [.ref h2, v0, v1, v2, v3, v4, v5, v6, v7, v8])), (h1, .inr (14, [.ref h4, v9, v10, v11, v12, v13, v14, v15, v16, v17, v18, v19, v20, v21, v22, v23, v24, v25, v26, v27, v28, v29, v30, .int 0, v31])), (h2, .inr (11, [v32, v33, v34, v35, v36, .int 0, v37, v38, v39, v40])), (h3, .inl (k3, 1, .inr (.inl (fun _ => 0)))), (h4, .inl (k4, 8277, .inl (fun _ => 0)))] H) (hD : va_D A [(h0, .inr (13, [.ref h2, v0, v1, v2, v3, v4, v5, v6, v7, v8])), (h1, .inr (14, [.ref h4, v9, v10, v11, v12, v13, v14, v15, v16, v17, v18, v19, v20, v21, v22, v23, v24, v25, v26, v27, v28, v29, v30, .int 0, v31])), (h2, .inr (11, [v32, v33, v34, v35, v36, .int 0, v37, v38, v39, v40])), (h3, .inl (k3, 1, .inr (.inl (fun _ => 0)))), (h4, .inl (k4, 8277, .inl (fun _ => 0)))]) (hK : va_K D vwCl [(k3, .long), (k4, .int)] s) (hl : lv_has ls 9 [(5, .int 0), (4, .ref r0), (3, .ref h3), (2, .ref h1), (1, .ref h0), (0, .ref b)]) (hcc : cells ≤ 2200) (hss : slots ≤ 260000) : W p l e room_1 s m #[Value.ref b] below meth c H locs cells slots (lw_Z below #[Value.ref b] s) (F0 m 1383 ls []) := by
  obtain ⟨hx, hb, hr, hml, hown, hts, hX, hbl, hlocks, hgv⟩ := id C0
  have hA : ∀ q : Nat, s.heap.size ≤ q → A q := fun q h => by rw [hAe]; exact h
  have hbA : ¬ A b := by rw [hAe]; exact Nat.not_le.mpr hbl
  refine W.widen (k := 2200) (n := 260000) hcc hss ?_
  have hi_X10 : ∀ w ∈ wsX100, w ∈ lw_tbl := inX10
  have hi_X11 : ∀ w ∈ wsX110, w ∈ lw_tbl := inX11
  have hi_X8 : ∀ w ∈ wsX80, w ∈ lw_tbl := inX8
  by_cases c_1 : p1 < 0
  · refine lv_aload_n hx hb dL_law_1383 rfl (lv_at hl 4 rfl) ?_
    refine lv_aload_n hx hb dL_law_1384 rfl (lv_at hl 5 rfl) ?_
    refine lv_iload hx hb dL_law_1385 (lv_at hl 0 rfl) ?_
    refine lv_iconst (v := 1) hx hb dL_law_1387 (by decide) ?_
    refine lv_iadd hx hb dL_law_1388 ?_
    refine kt_ (v := 1) (by decide +kernel) ?_
    refine va_sld hx hb hX hbl hbA hS (vin_ (by decide +kernel)) dL_law_1389 ?_
    refine kt_ (v := p1) ((congrArg xs (by decide +kernel)).trans hp1) ?_
    refine lv_aload_n hx hb dL_law_1390 rfl (lv_at hl 2 rfl) ?_
    refine kc_ (wc := [(h0, .inr (13, [.ref h2, v0, v1, v2, v3, v4, v5, v6, v7, v8]))]) (wr := [(h1, .inr (14, [.ref h4, v9, v10, v11, v12, v13, v14, v15, v16, v17, v18, v19, v20, v21, v22, v23, v24, v25, v26, v27, v28, v29, v30, .int 0, v31])), (h2, .inr (11, [v32, v33, v34, v35, v36, .int 0, v37, v38, v39, v40])), (h3, .inl (k3, 1, .inr (.inl (fun _ => 0)))), (h4, .inl (k4, 8277, .inl (fun _ => 0)))]) (vx_runSW (As := [.ref h0, .int p1, .ref h3]) (rest := []) ⟨hx, hb, hml, hown, hts⟩ (c_L_agree_0 l hl0 D ad H.size h0 h3 (.ref h2) (v0) (v1) (v2) (v3) (v4) (v5) (v6) (v7) (v8) p1 c_1) (vx_cwSW 3 hts hL_law_L_agree rfl rfl rfl (by decide +kernel) ⟨Nat.le_of_ble_eq_true rfl, Nat.le_of_ble_eq_true rfl⟩) ⟨PC_.blind, PC_.pre hF hK hP hD hS hA [0] [] rfl (by decide) rfl⟩ rfl rfl hl.1 rfl (lv_room (Nat.le_of_ble_eq_true rfl)) dL_law_1391 ⟨Nat.le_of_ble_eq_true rfl, Nat.le_of_ble_eq_true rfl⟩) hK hP hD hS hA [0] [1, 2, 3, 4] [0, 1] rfl rfl (by decide) (by decide) rfl (fun qa_2 ka_2 ia_2 H locs hpo hP hD hK hS => ?_)
    have hP : va_P D vwCl [(h1, .inr (14, [.ref h4, v9, v10, v11, v12, v13, v14, v15, v16, v17, v18, v19, v20, v21, v22, v23, v24, v25, v26, v27, v28, v29, v30, .int 0, v31])), (h2, .inr (11, [v32, v33, v34, v35, v36, .int 0, v37, v38, v39, v40])), (h3, .inl (k3, 1, .inr (.inl (fun _ => 0)))), (h4, .inl (k4, 8277, .inl (fun _ => 0)))] H := hP
    have hD : va_D A [(h1, .inr (14, [.ref h4, v9, v10, v11, v12, v13, v14, v15, v16, v17, v18, v19, v20, v21, v22, v23, v24, v25, v26, v27, v28, v29, v30, .int 0, v31])), (h2, .inr (11, [v32, v33, v34, v35, v36, .int 0, v37, v38, v39, v40])), (h3, .inl (k3, 1, .inr (.inl (fun _ => 0)))), (h4, .inl (k4, 8277, .inl (fun _ => 0)))] := hD
    have hK : va_K D vwCl [(k3, .long), (k4, .int)] s := hK
    refine W.eq (g2 := F0 m 1394 ls [.int 1]) rfl ?_
    refine lv_istore (lv' := [(6, .int 1), (5, .int 0), (4, .ref r0), (3, .ref h3), (2, .ref h1), (1, .ref h0), (0, .ref b)]) hx hb dL_law_1394 hl (by decide) rfl (fun ls hl => ?_)
    refine lv_aload_n hx hb dL_law_1396 rfl (lv_at hl 4 rfl) ?_
    refine lv_aload_n hx hb dL_law_1397 rfl (lv_at hl 6 rfl) ?_
    refine lv_iload hx hb dL_law_1398 (lv_at hl 1 rfl) ?_
    refine lv_iconst (v := 1) hx hb dL_law_1400 (by decide) ?_
    refine lv_iadd hx hb dL_law_1401 ?_
    refine kt_ (v := 1) (by decide +kernel) ?_
    refine va_sld hx hb hX hbl hbA hS (vin_ (by decide +kernel)) dL_law_1402 ?_
    refine kt_ (v := p1) ((congrArg xs (by decide +kernel)).trans hp1) ?_
    refine kc_ (wc := [(h1, .inr (14, [.ref h4, v9, v10, v11, v12, v13, v14, v15, v16, v17, v18, v19, v20, v21, v22, v23, v24, v25, v26, v27, v28, v29, v30, .int 0, v31]))]) (wr := [(h2, .inr (11, [v32, v33, v34, v35, v36, .int 0, v37, v38, v39, v40])), (h3, .inl (k3, 1, .inr (.inl (fun _ => 0)))), (h4, .inl (k4, 8277, .inl (fun _ => 0)))]) (va_runV (As := [.int p1]) (rest := []) ⟨hx, hb, hml, hown, hts⟩ (c_X11_agree_0 l hl0 D ad H.size h1 (.ref h4) (v9) (v10) (v11) (v12) (v13) (v14) (v15) (v16) (v17) (v18) (v19) (v20) (v21) (v22) (v23) (v24) (v25) (v26) (v27) (v28) (v29) (v30) (v31) p1 c_1) (cwV 1 hts hL_law_X11_agree rfl rfl rfl (by decide +kernel) ⟨Nat.le_of_ble_eq_true rfl, Nat.le_of_ble_eq_true rfl⟩) ⟨PC_.blind, va_recv hK hP (ci := 14) (q0 := 0) rfl rfl, PC_.pre hF hK hP hD hS hA [0] [] rfl (by decide) rfl⟩ rfl rfl hl.1 rfl (lv_room (Nat.le_of_ble_eq_true rfl)) dL_law_1403 ⟨Nat.le_of_ble_eq_true rfl, Nat.le_of_ble_eq_true rfl⟩) hK hP hD hS hA [0] [1, 2, 3] [0, 1] rfl rfl (by decide) (by decide) rfl (fun qa_3 ka_3 ia_3 H locs hpo hP hD hK hS => ?_)
    have hP : va_P D vwCl [(h2, .inr (11, [v32, v33, v34, v35, v36, .int 0, v37, v38, v39, v40])), (h3, .inl (k3, 1, .inr (.inl (fun _ => 0)))), (h4, .inl (k4, 8277, .inl (fun _ => 0))), (h1, .inr (14, [.ref h4, v9, v10, v11, v12, v13, v14, v15, v16, v17, v18, v19, v20, v21, v22, v23, v24, v25, v26, v27, v28, v29, v30, .int 1, v31]))] H := hP
    have hD : va_D A [(h2, .inr (11, [v32, v33, v34, v35, v36, .int 0, v37, v38, v39, v40])), (h3, .inl (k3, 1, .inr (.inl (fun _ => 0)))), (h4, .inl (k4, 8277, .inl (fun _ => 0))), (h1, .inr (14, [.ref h4, v9, v10, v11, v12, v13, v14, v15, v16, v17, v18, v19, v20, v21, v22, v23, v24, v25, v26, v27, v28, v29, v30, .int 1, v31]))] := hD
    have hK : va_K D vwCl [(k3, .long), (k4, .int)] s := hK
    refine W.eq (g2 := F0 m 1406 ls [.int 0]) rfl ?_
    refine lv_istore (lv' := [(7, .int 0), (6, .int 1), (5, .int 0), (4, .ref r0), (3, .ref h3), (2, .ref h1), (1, .ref h0), (0, .ref b)]) hx hb dL_law_1406 hl (by decide) rfl (fun ls hl => ?_)
    refine lv_aload_n hx hb dL_law_1408 rfl (lv_at hl 5 rfl) ?_
    refine kc_ (wc := [(h1, .inr (14, [.ref h4, v9, v10, v11, v12, v13, v14, v15, v16, v17, v18, v19, v20, v21, v22, v23, v24, v25, v26, v27, v28, v29, v30, .int 1, v31]))]) (wr := [(h2, .inr (11, [v32, v33, v34, v35, v36, .int 0, v37, v38, v39, v40])), (h3, .inl (k3, 1, .inr (.inl (fun _ => 0)))), (h4, .inl (k4, 8277, .inl (fun _ => 0)))]) (va_runV (As := []) (rest := []) ⟨hx, hb, hml, hown, hts⟩ (c_X11_thrown_1 l hl0 D ad H.size h1 (.ref h4) (v9) (v10) (v11) (v12) (v13) (v14) (v15) (v16) (v17) (v18) (v19) (v20) (v21) (v22) (v23) (v24) (v25) (v26) (v27) (v28) (v29) (v30) (v31)) (cwV 0 hts hL_law_X11_thrown rfl rfl rfl (by decide +kernel) ⟨Nat.le_of_ble_eq_true rfl, Nat.le_of_ble_eq_true rfl⟩) ⟨PC_.blind, va_recv hK hP (ci := 14) (q0 := 3) rfl rfl, PC_.pre hF hK hP hD hS hA [3] [] rfl (by decide) rfl⟩ rfl rfl hl.1 rfl (lv_room (Nat.le_of_ble_eq_true rfl)) dL_law_1409 ⟨Nat.le_of_ble_eq_true rfl, Nat.le_of_ble_eq_true rfl⟩) hK hP hD hS hA [3] [0, 1, 2] [0, 1] rfl rfl (by decide) (by decide) rfl (fun qa_4 ka_4 ia_4 H locs hpo hP hD hK hS => ?_)
    have hP : va_P D vwCl [(h2, .inr (11, [v32, v33, v34, v35, v36, .int 0, v37, v38, v39, v40])), (h3, .inl (k3, 1, .inr (.inl (fun _ => 0)))), (h4, .inl (k4, 8277, .inl (fun _ => 0))), (h1, .inr (14, [.ref h4, v9, v10, v11, v12, v13, v14, v15, v16, v17, v18, v19, v20, v21, v22, v23, v24, v25, v26, v27, v28, v29, v30, .int 1, v31]))] H := hP
    have hD : va_D A [(h2, .inr (11, [v32, v33, v34, v35, v36, .int 0, v37, v38, v39, v40])), (h3, .inl (k3, 1, .inr (.inl (fun _ => 0)))), (h4, .inl (k4, 8277, .inl (fun _ => 0))), (h1, .inr (14, [.ref h4, v9, v10, v11, v12, v13, v14, v15, v16, v17, v18, v19, v20, v21, v22, v23, v24, v25, v26, v27, v28, v29, v30, .int 1, v31]))] := hD
    have hK : va_K D vwCl [(k3, .long), (k4, .int)] s := hK
    refine W.eq (g2 := F0 m 1412 ls [.int 1]) rfl ?_
    refine lv_iload hx hb dL_law_1412 (lv_at hl 1 rfl) ?_
    refine lv_icmp_eq (tgt := 1419) hx hb dL_law_1414 (by decide) (fun _ => ?_) (fun c9 => absurd (by decide +kernel) c9)
    refine lv_iload hx hb dL_law_1419 (lv_at hl 1 rfl) ?_
    refine lv_if_ne (tgt := 1443) hx hb dL_law_1421 (by decide) (fun _ => ?_) (fun c9 => absurd c9 (by decide +kernel))
    refine lv_goto (tgt := 2280) hx hb dL_law_1443 (by decide) ?_
    exact law_tail C0 hAe hS (lv_sub hl [7, 2] rfl) (Nat.le_of_ble_eq_true rfl) (Nat.le_of_ble_eq_true rfl)
  · by_cases c_5 : 3 ≤ p1
    · refine lv_aload_n hx hb dL_law_1383 rfl (lv_at hl 4 rfl) ?_
      refine lv_aload_n hx hb dL_law_1384 rfl (lv_at hl 5 rfl) ?_
      refine lv_iload hx hb dL_law_1385 (lv_at hl 0 rfl) ?_
      refine lv_iconst (v := 1) hx hb dL_law_1387 (by decide) ?_
      refine lv_iadd hx hb dL_law_1388 ?_
      refine kt_ (v := 1) (by decide +kernel) ?_
      refine va_sld hx hb hX hbl hbA hS (vin_ (by decide +kernel)) dL_law_1389 ?_
      refine kt_ (v := p1) ((congrArg xs (by decide +kernel)).trans hp1) ?_
      refine lv_aload_n hx hb dL_law_1390 rfl (lv_at hl 2 rfl) ?_
      refine kc_ (wc := [(h0, .inr (13, [.ref h2, v0, v1, v2, v3, v4, v5, v6, v7, v8]))]) (wr := [(h1, .inr (14, [.ref h4, v9, v10, v11, v12, v13, v14, v15, v16, v17, v18, v19, v20, v21, v22, v23, v24, v25, v26, v27, v28, v29, v30, .int 0, v31])), (h2, .inr (11, [v32, v33, v34, v35, v36, .int 0, v37, v38, v39, v40])), (h3, .inl (k3, 1, .inr (.inl (fun _ => 0)))), (h4, .inl (k4, 8277, .inl (fun _ => 0)))]) (vx_runSW (As := [.ref h0, .int p1, .ref h3]) (rest := []) ⟨hx, hb, hml, hown, hts⟩ (c_L_agree_1 l hl0 D ad H.size h0 h3 (.ref h2) (v0) (v1) (v2) (v3) (v4) (v5) (v6) (v7) (v8) p1 c_5 c_1) (vx_cwSW 3 hts hL_law_L_agree rfl rfl rfl (by decide +kernel) ⟨Nat.le_of_ble_eq_true rfl, Nat.le_of_ble_eq_true rfl⟩) ⟨PC_.blind, PC_.pre hF hK hP hD hS hA [0] [] rfl (by decide) rfl⟩ rfl rfl hl.1 rfl (lv_room (Nat.le_of_ble_eq_true rfl)) dL_law_1391 ⟨Nat.le_of_ble_eq_true rfl, Nat.le_of_ble_eq_true rfl⟩) hK hP hD hS hA [0] [1, 2, 3, 4] [0, 1] rfl rfl (by decide) (by decide) rfl (fun qa_6 ka_6 ia_6 H locs hpo hP hD hK hS => ?_)
      have hP : va_P D vwCl [(h1, .inr (14, [.ref h4, v9, v10, v11, v12, v13, v14, v15, v16, v17, v18, v19, v20, v21, v22, v23, v24, v25, v26, v27, v28, v29, v30, .int 0, v31])), (h2, .inr (11, [v32, v33, v34, v35, v36, .int 0, v37, v38, v39, v40])), (h3, .inl (k3, 1, .inr (.inl (fun _ => 0)))), (h4, .inl (k4, 8277, .inl (fun _ => 0)))] H := hP
      have hD : va_D A [(h1, .inr (14, [.ref h4, v9, v10, v11, v12, v13, v14, v15, v16, v17, v18, v19, v20, v21, v22, v23, v24, v25, v26, v27, v28, v29, v30, .int 0, v31])), (h2, .inr (11, [v32, v33, v34, v35, v36, .int 0, v37, v38, v39, v40])), (h3, .inl (k3, 1, .inr (.inl (fun _ => 0)))), (h4, .inl (k4, 8277, .inl (fun _ => 0)))] := hD
      have hK : va_K D vwCl [(k3, .long), (k4, .int)] s := hK
      refine W.eq (g2 := F0 m 1394 ls [.int 1]) rfl ?_
      refine lv_istore (lv' := [(6, .int 1), (5, .int 0), (4, .ref r0), (3, .ref h3), (2, .ref h1), (1, .ref h0), (0, .ref b)]) hx hb dL_law_1394 hl (by decide) rfl (fun ls hl => ?_)
      refine lv_aload_n hx hb dL_law_1396 rfl (lv_at hl 4 rfl) ?_
      refine lv_aload_n hx hb dL_law_1397 rfl (lv_at hl 6 rfl) ?_
      refine lv_iload hx hb dL_law_1398 (lv_at hl 1 rfl) ?_
      refine lv_iconst (v := 1) hx hb dL_law_1400 (by decide) ?_
      refine lv_iadd hx hb dL_law_1401 ?_
      refine kt_ (v := 1) (by decide +kernel) ?_
      refine va_sld hx hb hX hbl hbA hS (vin_ (by decide +kernel)) dL_law_1402 ?_
      refine kt_ (v := p1) ((congrArg xs (by decide +kernel)).trans hp1) ?_
      refine kc_ (wc := [(h1, .inr (14, [.ref h4, v9, v10, v11, v12, v13, v14, v15, v16, v17, v18, v19, v20, v21, v22, v23, v24, v25, v26, v27, v28, v29, v30, .int 0, v31]))]) (wr := [(h2, .inr (11, [v32, v33, v34, v35, v36, .int 0, v37, v38, v39, v40])), (h3, .inl (k3, 1, .inr (.inl (fun _ => 0)))), (h4, .inl (k4, 8277, .inl (fun _ => 0)))]) (va_runV (As := [.int p1]) (rest := []) ⟨hx, hb, hml, hown, hts⟩ (c_X11_agree_1 l hl0 D ad H.size h1 (.ref h4) (v9) (v10) (v11) (v12) (v13) (v14) (v15) (v16) (v17) (v18) (v19) (v20) (v21) (v22) (v23) (v24) (v25) (v26) (v27) (v28) (v29) (v30) (v31) p1 c_5 c_1) (cwV 1 hts hL_law_X11_agree rfl rfl rfl (by decide +kernel) ⟨Nat.le_of_ble_eq_true rfl, Nat.le_of_ble_eq_true rfl⟩) ⟨PC_.blind, va_recv hK hP (ci := 14) (q0 := 0) rfl rfl, PC_.pre hF hK hP hD hS hA [0] [] rfl (by decide) rfl⟩ rfl rfl hl.1 rfl (lv_room (Nat.le_of_ble_eq_true rfl)) dL_law_1403 ⟨Nat.le_of_ble_eq_true rfl, Nat.le_of_ble_eq_true rfl⟩) hK hP hD hS hA [0] [1, 2, 3] [0, 1] rfl rfl (by decide) (by decide) rfl (fun qa_7 ka_7 ia_7 H locs hpo hP hD hK hS => ?_)
      have hP : va_P D vwCl [(h2, .inr (11, [v32, v33, v34, v35, v36, .int 0, v37, v38, v39, v40])), (h3, .inl (k3, 1, .inr (.inl (fun _ => 0)))), (h4, .inl (k4, 8277, .inl (fun _ => 0))), (h1, .inr (14, [.ref h4, v9, v10, v11, v12, v13, v14, v15, v16, v17, v18, v19, v20, v21, v22, v23, v24, v25, v26, v27, v28, v29, v30, .int 1, v31]))] H := hP
      have hD : va_D A [(h2, .inr (11, [v32, v33, v34, v35, v36, .int 0, v37, v38, v39, v40])), (h3, .inl (k3, 1, .inr (.inl (fun _ => 0)))), (h4, .inl (k4, 8277, .inl (fun _ => 0))), (h1, .inr (14, [.ref h4, v9, v10, v11, v12, v13, v14, v15, v16, v17, v18, v19, v20, v21, v22, v23, v24, v25, v26, v27, v28, v29, v30, .int 1, v31]))] := hD
      have hK : va_K D vwCl [(k3, .long), (k4, .int)] s := hK
      refine W.eq (g2 := F0 m 1406 ls [.int 0]) rfl ?_
      refine lv_istore (lv' := [(7, .int 0), (6, .int 1), (5, .int 0), (4, .ref r0), (3, .ref h3), (2, .ref h1), (1, .ref h0), (0, .ref b)]) hx hb dL_law_1406 hl (by decide) rfl (fun ls hl => ?_)
      refine lv_aload_n hx hb dL_law_1408 rfl (lv_at hl 5 rfl) ?_
      refine kc_ (wc := [(h1, .inr (14, [.ref h4, v9, v10, v11, v12, v13, v14, v15, v16, v17, v18, v19, v20, v21, v22, v23, v24, v25, v26, v27, v28, v29, v30, .int 1, v31]))]) (wr := [(h2, .inr (11, [v32, v33, v34, v35, v36, .int 0, v37, v38, v39, v40])), (h3, .inl (k3, 1, .inr (.inl (fun _ => 0)))), (h4, .inl (k4, 8277, .inl (fun _ => 0)))]) (va_runV (As := []) (rest := []) ⟨hx, hb, hml, hown, hts⟩ (c_X11_thrown_1 l hl0 D ad H.size h1 (.ref h4) (v9) (v10) (v11) (v12) (v13) (v14) (v15) (v16) (v17) (v18) (v19) (v20) (v21) (v22) (v23) (v24) (v25) (v26) (v27) (v28) (v29) (v30) (v31)) (cwV 0 hts hL_law_X11_thrown rfl rfl rfl (by decide +kernel) ⟨Nat.le_of_ble_eq_true rfl, Nat.le_of_ble_eq_true rfl⟩) ⟨PC_.blind, va_recv hK hP (ci := 14) (q0 := 3) rfl rfl, PC_.pre hF hK hP hD hS hA [3] [] rfl (by decide) rfl⟩ rfl rfl hl.1 rfl (lv_room (Nat.le_of_ble_eq_true rfl)) dL_law_1409 ⟨Nat.le_of_ble_eq_true rfl, Nat.le_of_ble_eq_true rfl⟩) hK hP hD hS hA [3] [0, 1, 2] [0, 1] rfl rfl (by decide) (by decide) rfl (fun qa_8 ka_8 ia_8 H locs hpo hP hD hK hS => ?_)
      have hP : va_P D vwCl [(h2, .inr (11, [v32, v33, v34, v35, v36, .int 0, v37, v38, v39, v40])), (h3, .inl (k3, 1, .inr (.inl (fun _ => 0)))), (h4, .inl (k4, 8277, .inl (fun _ => 0))), (h1, .inr (14, [.ref h4, v9, v10, v11, v12, v13, v14, v15, v16, v17, v18, v19, v20, v21, v22, v23, v24, v25, v26, v27, v28, v29, v30, .int 1, v31]))] H := hP
      have hD : va_D A [(h2, .inr (11, [v32, v33, v34, v35, v36, .int 0, v37, v38, v39, v40])), (h3, .inl (k3, 1, .inr (.inl (fun _ => 0)))), (h4, .inl (k4, 8277, .inl (fun _ => 0))), (h1, .inr (14, [.ref h4, v9, v10, v11, v12, v13, v14, v15, v16, v17, v18, v19, v20, v21, v22, v23, v24, v25, v26, v27, v28, v29, v30, .int 1, v31]))] := hD
      have hK : va_K D vwCl [(k3, .long), (k4, .int)] s := hK
      refine W.eq (g2 := F0 m 1412 ls [.int 1]) rfl ?_
      refine lv_iload hx hb dL_law_1412 (lv_at hl 1 rfl) ?_
      refine lv_icmp_eq (tgt := 1419) hx hb dL_law_1414 (by decide) (fun _ => ?_) (fun c9 => absurd (by decide +kernel) c9)
      refine lv_iload hx hb dL_law_1419 (lv_at hl 1 rfl) ?_
      refine lv_if_ne (tgt := 1443) hx hb dL_law_1421 (by decide) (fun _ => ?_) (fun c9 => absurd c9 (by decide +kernel))
      refine lv_goto (tgt := 2280) hx hb dL_law_1443 (by decide) ?_
      exact law_tail C0 hAe hS (lv_sub hl [7, 2] rfl) (Nat.le_of_ble_eq_true rfl) (Nat.le_of_ble_eq_true rfl)
    · refine lv_aload_n hx hb dL_law_1383 rfl (lv_at hl 4 rfl) ?_
      refine lv_aload_n hx hb dL_law_1384 rfl (lv_at hl 5 rfl) ?_
      refine lv_iload hx hb dL_law_1385 (lv_at hl 0 rfl) ?_
      refine lv_iconst (v := 1) hx hb dL_law_1387 (by decide) ?_
      refine lv_iadd hx hb dL_law_1388 ?_
      refine kt_ (v := 1) (by decide +kernel) ?_
      refine va_sld hx hb hX hbl hbA hS (vin_ (by decide +kernel)) dL_law_1389 ?_
      refine kt_ (v := p1) ((congrArg xs (by decide +kernel)).trans hp1) ?_
      refine lv_aload_n hx hb dL_law_1390 rfl (lv_at hl 2 rfl) ?_
      refine kc_ (wc := [(h0, .inr (13, [.ref h2, v0, v1, v2, v3, v4, v5, v6, v7, v8])), (h2, .inr (11, [v32, v33, v34, v35, v36, .int 0, v37, v38, v39, v40])), (h3, .inl (k3, 1, .inr (.inl (fun _ => 0))))]) (wr := [(h1, .inr (14, [.ref h4, v9, v10, v11, v12, v13, v14, v15, v16, v17, v18, v19, v20, v21, v22, v23, v24, v25, v26, v27, v28, v29, v30, .int 0, v31])), (h4, .inl (k4, 8277, .inl (fun _ => 0)))]) (vx_runSW (As := [.ref h0, .int p1, .ref h3]) (rest := []) ⟨hx, hb, hml, hown, hts⟩ (c_L_agree_2 l hl0 D ad H.size h0 h2 h3 k3 (v0) (v1) (v2) (v3) (v4) (v5) (v6) (v7) (v8) (v32) (v33) (v34) (v35) (v36) (v37) (v38) (v39) (v40) (fun _ => 0) p1 c_5 c_1) (vx_cwSW 3 hts hL_law_L_agree rfl rfl rfl (by decide +kernel) ⟨Nat.le_of_ble_eq_true rfl, Nat.le_of_ble_eq_true rfl⟩) ⟨PC_.blind, PC_.pre hF hK hP hD hS hA [0, 2, 3] [0] rfl (by decide) rfl⟩ rfl rfl hl.1 rfl (lv_room (Nat.le_of_ble_eq_true rfl)) dL_law_1391 ⟨Nat.le_of_ble_eq_true rfl, Nat.le_of_ble_eq_true rfl⟩) hK hP hD hS hA [0, 2, 3] [1, 4] [1] rfl rfl (by decide) (by decide) rfl (fun qa_9 ka_9 ia_9 H locs hpo hP hD hK hS => ?_)
      have hP : va_P D vwCl [(h1, .inr (14, [.ref h4, v9, v10, v11, v12, v13, v14, v15, v16, v17, v18, v19, v20, v21, v22, v23, v24, v25, v26, v27, v28, v29, v30, .int 0, v31])), (h4, .inl (k4, 8277, .inl (fun _ => 0))), (h0, .inr (13, [.ref h2, v0, v1, v2, v3, v4, v5, v6, v7, v8])), (h2, .inr (11, [v32, v33, v34, v35, v36, .int 0, v37, v38, v39, v40])), (h3, .inl (k3, 1, .inr (.inl (vp_updL (fun _ => 0) 0 1))))] H := hP
      have hD : va_D A [(h1, .inr (14, [.ref h4, v9, v10, v11, v12, v13, v14, v15, v16, v17, v18, v19, v20, v21, v22, v23, v24, v25, v26, v27, v28, v29, v30, .int 0, v31])), (h4, .inl (k4, 8277, .inl (fun _ => 0))), (h0, .inr (13, [.ref h2, v0, v1, v2, v3, v4, v5, v6, v7, v8])), (h2, .inr (11, [v32, v33, v34, v35, v36, .int 0, v37, v38, v39, v40])), (h3, .inl (k3, 1, .inr (.inl (vp_updL (fun _ => 0) 0 1))))] := hD
      have hK : va_K D vwCl [(k4, .int), (k3, .long)] s := hK
      refine W.eq (g2 := F0 m 1394 ls [.int 0]) rfl ?_
      refine lv_istore (lv' := [(6, .int 0), (5, .int 0), (4, .ref r0), (3, .ref h3), (2, .ref h1), (1, .ref h0), (0, .ref b)]) hx hb dL_law_1394 hl (by decide) rfl (fun ls hl => ?_)
      refine lv_aload_n hx hb dL_law_1396 rfl (lv_at hl 4 rfl) ?_
      refine lv_aload_n hx hb dL_law_1397 rfl (lv_at hl 6 rfl) ?_
      refine lv_iload hx hb dL_law_1398 (lv_at hl 1 rfl) ?_
      refine lv_iconst (v := 1) hx hb dL_law_1400 (by decide) ?_
      refine lv_iadd hx hb dL_law_1401 ?_
      refine kt_ (v := 1) (by decide +kernel) ?_
      refine va_sld hx hb hX hbl hbA hS (vin_ (by decide +kernel)) dL_law_1402 ?_
      refine kt_ (v := p1) ((congrArg xs (by decide +kernel)).trans hp1) ?_
      refine kc_ (wc := [(h1, .inr (14, [.ref h4, v9, v10, v11, v12, v13, v14, v15, v16, v17, v18, v19, v20, v21, v22, v23, v24, v25, v26, v27, v28, v29, v30, .int 0, v31])), (h4, .inl (k4, 8277, .inl (fun _ => 0)))]) (wr := [(h0, .inr (13, [.ref h2, v0, v1, v2, v3, v4, v5, v6, v7, v8])), (h2, .inr (11, [v32, v33, v34, v35, v36, .int 0, v37, v38, v39, v40])), (h3, .inl (k3, 1, .inr (.inl (vp_updL (fun _ => 0) 0 1))))]) (va_runV (As := [.int p1]) (rest := []) ⟨hx, hb, hml, hown, hts⟩ (c_X11_agree_2 l hl0 D ad H.size h1 h4 k4 (v9) (v10) (v11) (v12) (v13) (v14) (v15) (v16) (v17) (v18) (v19) (v20) (v21) (v22) (v23) (v24) (v25) (v26) (v27) (v28) (v29) (v30) (v31) p1 c_5 c_1) (cwV 1 hts hL_law_X11_agree rfl rfl rfl (by decide +kernel) ⟨Nat.le_of_ble_eq_true rfl, Nat.le_of_ble_eq_true rfl⟩) ⟨PC_.blind, va_recv hK hP (ci := 14) (q0 := 0) rfl rfl, PC_.pre hF hK hP hD hS hA [0, 1] [0] rfl (by decide) rfl⟩ rfl rfl hl.1 rfl (lv_room (Nat.le_of_ble_eq_true rfl)) dL_law_1403 ⟨Nat.le_of_ble_eq_true rfl, Nat.le_of_ble_eq_true rfl⟩) hK hP hD hS hA [0, 1] [2, 3, 4] [1] rfl rfl (by decide) (by decide) rfl (fun qa_10 ka_10 ia_10 H locs hpo hP hD hK hS => ?_)
      have hP : va_P D vwCl [(h0, .inr (13, [.ref h2, v0, v1, v2, v3, v4, v5, v6, v7, v8])), (h2, .inr (11, [v32, v33, v34, v35, v36, .int 0, v37, v38, v39, v40])), (h3, .inl (k3, 1, .inr (.inl (vp_updL (fun _ => 0) 0 1)))), (h1, .inr (14, [.ref h4, v9, v10, v11, v12, v13, v14, v15, v16, v17, v18, v19, v20, v21, v22, v23, v24, v25, v26, v27, v28, v29, v30, .int 0, v31])), (h4, .inl (k4, 8277, .inl (fun _ => 0)))] H := hP
      have hD : va_D A [(h0, .inr (13, [.ref h2, v0, v1, v2, v3, v4, v5, v6, v7, v8])), (h2, .inr (11, [v32, v33, v34, v35, v36, .int 0, v37, v38, v39, v40])), (h3, .inl (k3, 1, .inr (.inl (vp_updL (fun _ => 0) 0 1)))), (h1, .inr (14, [.ref h4, v9, v10, v11, v12, v13, v14, v15, v16, v17, v18, v19, v20, v21, v22, v23, v24, v25, v26, v27, v28, v29, v30, .int 0, v31])), (h4, .inl (k4, 8277, .inl (fun _ => 0)))] := hD
      have hK : va_K D vwCl [(k3, .long), (k4, .int)] s := hK
      refine W.eq (g2 := F0 m 1406 ls [.int 1]) rfl ?_
      refine lv_istore (lv' := [(7, .int 1), (6, .int 0), (5, .int 0), (4, .ref r0), (3, .ref h3), (2, .ref h1), (1, .ref h0), (0, .ref b)]) hx hb dL_law_1406 hl (by decide) rfl (fun ls hl => ?_)
      refine lv_aload_n hx hb dL_law_1408 rfl (lv_at hl 5 rfl) ?_
      refine kc_ (wc := [(h1, .inr (14, [.ref h4, v9, v10, v11, v12, v13, v14, v15, v16, v17, v18, v19, v20, v21, v22, v23, v24, v25, v26, v27, v28, v29, v30, .int 0, v31]))]) (wr := [(h0, .inr (13, [.ref h2, v0, v1, v2, v3, v4, v5, v6, v7, v8])), (h2, .inr (11, [v32, v33, v34, v35, v36, .int 0, v37, v38, v39, v40])), (h3, .inl (k3, 1, .inr (.inl (vp_updL (fun _ => 0) 0 1)))), (h4, .inl (k4, 8277, .inl (fun _ => 0)))]) (va_runV (As := []) (rest := []) ⟨hx, hb, hml, hown, hts⟩ (c_X11_thrown_0 l hl0 D ad H.size h1 (.ref h4) (v9) (v10) (v11) (v12) (v13) (v14) (v15) (v16) (v17) (v18) (v19) (v20) (v21) (v22) (v23) (v24) (v25) (v26) (v27) (v28) (v29) (v30) (v31)) (cwV 0 hts hL_law_X11_thrown rfl rfl rfl (by decide +kernel) ⟨Nat.le_of_ble_eq_true rfl, Nat.le_of_ble_eq_true rfl⟩) ⟨PC_.blind, va_recv hK hP (ci := 14) (q0 := 3) rfl rfl, PC_.pre hF hK hP hD hS hA [3] [] rfl (by decide) rfl⟩ rfl rfl hl.1 rfl (lv_room (Nat.le_of_ble_eq_true rfl)) dL_law_1409 ⟨Nat.le_of_ble_eq_true rfl, Nat.le_of_ble_eq_true rfl⟩) hK hP hD hS hA [3] [0, 1, 2, 4] [0, 1] rfl rfl (by decide) (by decide) rfl (fun qa_11 ka_11 ia_11 H locs hpo hP hD hK hS => ?_)
      have hP : va_P D vwCl [(h0, .inr (13, [.ref h2, v0, v1, v2, v3, v4, v5, v6, v7, v8])), (h2, .inr (11, [v32, v33, v34, v35, v36, .int 0, v37, v38, v39, v40])), (h3, .inl (k3, 1, .inr (.inl (vp_updL (fun _ => 0) 0 1)))), (h4, .inl (k4, 8277, .inl (fun _ => 0))), (h1, .inr (14, [.ref h4, v9, v10, v11, v12, v13, v14, v15, v16, v17, v18, v19, v20, v21, v22, v23, v24, v25, v26, v27, v28, v29, v30, .int 0, v31]))] H := hP
      have hD : va_D A [(h0, .inr (13, [.ref h2, v0, v1, v2, v3, v4, v5, v6, v7, v8])), (h2, .inr (11, [v32, v33, v34, v35, v36, .int 0, v37, v38, v39, v40])), (h3, .inl (k3, 1, .inr (.inl (vp_updL (fun _ => 0) 0 1)))), (h4, .inl (k4, 8277, .inl (fun _ => 0))), (h1, .inr (14, [.ref h4, v9, v10, v11, v12, v13, v14, v15, v16, v17, v18, v19, v20, v21, v22, v23, v24, v25, v26, v27, v28, v29, v30, .int 0, v31]))] := hD
      have hK : va_K D vwCl [(k3, .long), (k4, .int)] s := hK
      refine W.eq (g2 := F0 m 1412 ls [.int 0]) rfl ?_
      refine lv_iload hx hb dL_law_1412 (lv_at hl 1 rfl) ?_
      refine lv_icmp_eq (tgt := 1419) hx hb dL_law_1414 (by decide) (fun _ => ?_) (fun c9 => absurd (by decide +kernel) c9)
      refine lv_iload hx hb dL_law_1419 (lv_at hl 1 rfl) ?_
      refine lv_if_ne (tgt := 1443) hx hb dL_law_1421 (by decide) (fun c9 => absurd (by decide +kernel) c9) (fun _ => ?_)
      refine lv_aload_n hx hb dL_law_1424 rfl (lv_at hl 4 rfl) ?_
      refine lv_iconst (v := 0) hx hb dL_law_1425 (by decide) ?_
      refine va_lald hx hb hK hP 2 0 rfl rfl (vin_ (by decide +kernel)) dL_law_1426 ?_
      refine ktl_ (v := 1) (by decide +kernel) ?_
      refine lv_iload hx hb dL_law_1427 (lv_at hl 0 rfl) ?_
      refine lv_if_eq (tgt := 1436) hx hb dL_law_1429 (by decide) (fun c9 => absurd c9 (by decide +kernel)) (fun _ => ?_)
      refine lv_lconst (v := 1) hx hb dL_law_1432 (by decide) ?_
      refine lv_goto (tgt := 1437) hx hb dL_law_1433 (by decide) ?_
      refine W.lcmp hx hb dL_law_1437 ?_
      refine kt_ (v := 0) (by decide +kernel) ?_
      refine lv_if_eq (tgt := 1443) hx hb dL_law_1438 (by decide) (fun _ => ?_) (fun c9 => absurd (by decide +kernel) c9)
      refine lv_goto (tgt := 2280) hx hb dL_law_1443 (by decide) ?_
      exact law_tail C0 hAe hS (lv_sub hl [7, 2] rfl) (Nat.le_of_ble_eq_true rfl) (Nat.le_of_ble_eq_true rfl)
