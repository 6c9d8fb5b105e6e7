set_option maxHeartbeats 4000000 in
set_option maxRecDepth 100000 in
theorem c_L_next_0 (l : Launch) (hl0 : l.stackTraces = false) (D : va_G) (ad : Nat → Nat) (sz : Nat) (h0 : Nat) (h1 : Nat) (r0 : Nat) (v0 : Value) (v1 : Value) (v2 : Value) (v3 : Value) (v4 : Value) (v5 : Value) (v6 : Value) (v7 : Value) (v8 : Value) (v9 : Value) (v10 : Value) (v11 : Value) (v12 : Value) (v13 : Value) (v14 : Value) (v15 : Value) (v16 : Value) (v17 : Value) (p0 : Int32) (p1 : Int32) : Met l yL_next wsL_next ({ frames := 8, cells := 1, slots := 6, locals := 148 }) (PC_ D ad [(h0, .inr (13, [.ref h1, v0, v1, v2, v3, v4, v5, v6, v7, v8])), (h1, .inr (11, [v9, v10, v11, v12, v13, .int 0, v14, v15, v16, v17]))] [] sz [.ref h0, .int p0, .int p1, .ref r0]) (QG_ D (fun q i => some (.int 1)) (fun q i => True) (fun q k i => []) (fun q k i => []) (va_A [(h0, .inr (13, [.ref h1, v0, v1, v2, v3, v4, v5, v6, v7, v8])), (h1, .inr (11, [v9, v10, v11, v12, v13, .int 0, v14, v15, v16, v17]))] sz)) 1 6 (va_A [(h0, .inr (13, [.ref h1, v0, v1, v2, v3, v4, v5, v6, v7, v8])), (h1, .inr (11, [v9, v10, v11, v12, v13, .int 0, v14, v15, v16, v17]))] sz) := by
  refine va_MetW (cc := cL_next) (maxL := 5) (ret := (some .int)) (by decide) rfl ?_
  intro p e s m args below meth c s₁ B hml hv
  obtain ⟨rfl, hsz, hP, hK, hD0, hF⟩ := hv
  have hx := B.exec
  have hb := B.bytes
  have hr := B.returns
  have hts := atoms_spec (ws := wsL_next) B.pre
  have hown : s.vm.findClass RL = some m.cls := findClass_of_methodNamed B.named
  have hlocks := B.notSynchronized
  have htb := vx_table B (hts _ (List.mem_cons_self))
  subst hsz
  have hD := hD0.self (sz := s.heap.size)
  generalize hAe : va_A [(h0, .inr (13, [.ref h1, v0, v1, v2, v3, v4, v5, v6, v7, v8])), (h1, .inr (11, [v9, v10, v11, v12, v13, .int 0, v14, v15, v16, v17]))] s.heap.size = A at hD hF ⊢
  have hA : ∀ q : Nat, s.heap.size ≤ q → A q := fun q h => by rw [← hAe]; exact Or.inr h
  obtain ⟨H, hHe⟩ : ∃ H : Heap, H = s.heap := ⟨_, rfl⟩
  have hS : va_S A s.heap H [] := by rw [hHe]; exact va_S.rf
  have hP : va_P D vwCl [(h0, .inr (13, [.ref h1, v0, v1, v2, v3, v4, v5, v6, v7, v8])), (h1, .inr (11, [v9, v10, v11, v12, v13, .int 0, v14, v15, v16, v17]))] H := by rw [hHe]; exact hP
  rw [← hHe]
  have hi_X10 : ∀ w ∈ wsX100, w ∈ wsL_next := by decide +kernel
  have hi_X8 : ∀ w ∈ wsX80, w ∈ wsL_next := by decide +kernel
  have hl := lv_entry [.ref h0, .int p0, .int p1, .ref r0] (n := 5) (Nat.le_of_ble_eq_true rfl)
  rw [lg_entry_eq]
  generalize (lg_sl [.ref h0, .int p0, .int p1, .ref r0] ++ List.replicate (5 - (lg_sl [.ref h0, .int p0, .int p1, .ref r0]).length) Slot.unset).toArray = ls at hl ⊢
  have hl : lv_has ls 5 [(0, .ref h0), (1, .int p0), (2, .int p1), (3, .ref r0)] := hl
  refine lv_aload_n hx hb dL_next_0 rfl (lv_at hl 3 rfl) ?_
  refine lv_iconst (v := 0) hx hb dL_next_1 (by decide) ?_
  refine lv_aload_n hx hb dL_next_2 rfl (lv_at hl 0 rfl) ?_
  refine lv_iload_n hx hb dL_next_3 rfl (lv_at hl 1 rfl) ?_
  refine lv_iload_n hx hb dL_next_4 rfl (lv_at hl 2 rfl) ?_
  refine kx_ (E0 := "java/lang/IndexOutOfBoundsException") (wc := [(h0, .inr (13, [.ref h1, v0, v1, v2, v3, v4, v5, v6, v7, v8])), (h1, .inr (11, [v9, v10, v11, v12, v13, .int 0, v14, v15, v16, v17]))]) (vx_runV (As := [.int p0, .int p1]) (rest := [.int 0, .ref r0]) ⟨hx, hb, hml, hown, hts⟩ (c_X10_next_0 l hl0 D ad H.size h0 h1 (v0) (v1) (v2) (v3) (v4) (v5) (v6) (v7) (v8) (v9) (v10) (v11) (v12) (v13) (v14) (v15) (v16) (v17) p0 p1) (cwV 2 hts gL_next_X10_next rfl rfl rfl (by decide +kernel) ⟨Nat.le_of_ble_eq_true rfl, Nat.le_of_ble_eq_true rfl⟩) ⟨PC_.blind, va_recv hK hP (ci := 13) (q0 := 0) rfl rfl, PC_.pre hF hK hP hD hS hA [0, 1] [] rfl (by decide) rfl⟩ rfl rfl hl.1 rfl (lv_room (Nat.le_of_ble_eq_true rfl)) dL_next_5 ⟨Nat.le_of_ble_eq_true rfl, Nat.le_of_ble_eq_true rfl⟩) hD hS hA [0, 1] rfl (fun ce q9 H locs hS hce hvm hcl => ?_)
  refine vx_catch (own := RL) (name := "java/lang/IndexOutOfBoundsException") (E := "java/lang/IndexOutOfBoundsException") hown [] (⟨0, 10, 13, 36⟩ : ExceptionTableEntry) [(⟨0, 10, 17, 43⟩ : ExceptionTableEntry)] (htb.trans rfl) (fun z hz => by cases hz) (by decide) (by decide) (hts (.classLink RL 36 "java/lang/IndexOutOfBoundsException") (List.mem_of_getElem? (i := 1) (by decide +kernel))) (fxk_ hF "java/lang/IndexOutOfBoundsException" "java/lang/IndexOutOfBoundsException") hce hvm hcl ?_
  have hP : va_P D vwCl [] H := fun k q h => by simp at h
  have hD : va_D A [] := ⟨fun i j p q h => by simp at h, fun k q h => by simp at h⟩
  have hK : va_K D vwCl [] s := ⟨hK.1, fun k q h => by simp at h⟩
  refine W.eq (g2 := F0 m 13 ls [.ref q9]) rfl ?_
  refine lv_astore (lv' := [(4, .ref q9), (0, .ref h0), (1, .int p0), (2, .int p1), (3, .ref r0)]) hx hb dL_next_13 hl (by decide) rfl (fun ls hl => ?_)
  refine lv_iconst (v := 1) hx hb dL_next_15 (by decide) ?_
  refine W.widen (k := 1) (n := 6) (Nat.le_of_ble_eq_true rfl) (Nat.le_of_ble_eq_true rfl) ?_
  exact W.iret (v := 1) hx hb hr (QG_.mk (fun _ => 0) (fun _ => 0) (fun _ => 0) [] [] hP hD hK hS rfl trivial rfl (by decide) rfl) hS.2.2 dL_next_16
set_option maxHeartbeats 4000000 in
set_option maxRecDepth 100000 in
theorem c_X11_next_0 (l : Launch) (hl0 : l.stackTraces = false) (D : va_G) (ad : Nat → Nat) (sz : Nat) (h0 : Nat) (h1 : Nat) (k1 : ClassId) (v0 : Value) (v1 : Value) (v2 : Value) (v3 : Value) (v4 : Value) (v5 : Value) (v6 : Value) (v7 : Value) (v8 : Value) (v9 : Value) (v10 : Value) (v11 : Value) (v12 : Value) (v13 : Value) (v14 : Value) (v15 : Value) (v16 : Value) (v17 : Value) (v18 : Value) (v19 : Value) (v20 : Value) (v21 : Value) (v22 : Value) (v23 : Value) (p0 : Int32) (p1 : Int32) : Met l yX11_next wsX11_next ({ frames := 2, cells := 0, slots := 0, locals := 47 }) (PC_ D ad [(h0, .inr (14, [.ref h1, v0, v1, v2, v3, v4, v5, v6, v7, v8, v9, v10, v11, v12, v13, v14, v15, v16, v17, v18, v19, v20, v21, v22, v23])), (h1, .inl (k1, 8277, .inl (fun _ => 0)))] [(k1, .int)] sz [.ref h0, .int p0, .int p1]) (QG_ D (fun q i => some (.int 0)) (fun q i => True) (fun q k i => [(h0, .inr (14, [.ref h1, v0, v1, v2, v3, v4, v5, v6, v7, v8, v9, v10, v11, v12, v13, v14, v15, v16, v17, v18, v19, v20, v21, .int 1, v23])), (h1, .inl (k1, 8277, .inl (fun _ => 0)))]) (fun q k i => [(k1, .int)]) (va_A [(h0, .inr (14, [.ref h1, v0, v1, v2, v3, v4, v5, v6, v7, v8, v9, v10, v11, v12, v13, v14, v15, v16, v17, v18, v19, v20, v21, v22, v23])), (h1, .inl (k1, 8277, .inl (fun _ => 0)))] sz)) 0 0 (va_A [(h0, .inr (14, [.ref h1, v0, v1, v2, v3, v4, v5, v6, v7, v8, v9, v10, v11, v12, v13, v14, v15, v16, v17, v18, v19, v20, v21, v22, v23])), (h1, .inl (k1, 8277, .inl (fun _ => 0)))] sz) := by
  refine Met.ofW (cc := cX11_next) (maxL := 4) (ret := (some .int)) (by decide) rfl ?_
  intro p e s m args below meth c s₁ B hml hv
  obtain ⟨rfl, hsz, hP, hK, hD0, hF⟩ := hv
  have hx := B.exec
  have hb := B.bytes
  have hr := B.returns
  have hts := atoms_spec (ws := wsX11_next) B.pre
  have hown : s.vm.findClass RX11 = some m.cls := findClass_of_methodNamed B.named
  have hlocks := B.notSynchronized
  subst hsz
  have hD := hD0.self (sz := s.heap.size)
  generalize hAe : va_A [(h0, .inr (14, [.ref h1, v0, v1, v2, v3, v4, v5, v6, v7, v8, v9, v10, v11, v12, v13, v14, v15, v16, v17, v18, v19, v20, v21, v22, v23])), (h1, .inl (k1, 8277, .inl (fun _ => 0)))] s.heap.size = A at hD hF ⊢
  have hA : ∀ q : Nat, s.heap.size ≤ q → A q := fun q h => by rw [← hAe]; exact Or.inr h
  obtain ⟨H, hHe⟩ : ∃ H : Heap, H = s.heap := ⟨_, rfl⟩
  have hS : va_S A s.heap H [] := by rw [hHe]; exact va_S.rf
  have hP : va_P D vwCl [(h0, .inr (14, [.ref h1, v0, v1, v2, v3, v4, v5, v6, v7, v8, v9, v10, v11, v12, v13, v14, v15, v16, v17, v18, v19, v20, v21, v22, v23])), (h1, .inl (k1, 8277, .inl (fun _ => 0)))] H := by rw [hHe]; exact hP
  rw [← hHe]
  have hi_X11 : ∀ w ∈ wsX110, w ∈ wsX11_next := by decide +kernel
  have hl := lv_entry [.ref h0, .int p0, .int p1] (n := 4) (Nat.le_of_ble_eq_true rfl)
  rw [lg_entry_eq]
  generalize (lg_sl [.ref h0, .int p0, .int p1] ++ List.replicate (4 - (lg_sl [.ref h0, .int p0, .int p1]).length) Slot.unset).toArray = ls at hl ⊢
  have hl : lv_has ls 4 [(0, .ref h0), (1, .int p0), (2, .int p1)] := hl
  refine lv_aload_n hx hb dX11_next_0 rfl (lv_at hl 0 rfl) ?_
  refine lv_iconst (v := 0) hx hb dX11_next_1 (by decide) ?_
  refine va_put (D := D) (ci := 14) (v := .int 0) (ty := .int) (own := RX11) (C := RX11) (T := TX11) (N := 25) hx hb hts hi_X11 tyX11 tyX11_ok nmX11 hown hK hP hD hS 0 rfl rfl 23 (by decide) (hts (.fieldLink RX11 47 "CanalMapsModel" "thrown" "I") (List.mem_of_getElem? (i := 1) (by decide +kernel))) (fun _ h9 => h9) rfl (by decide +kernel) rfl rfl (Nat.le_of_ble_eq_true rfl) dX11_next_2 (fun H locs hP hD hS => ?_)
  have hP : va_P D vwCl [(h0, .inr (14, [.ref h1, v0, v1, v2, v3, v4, v5, v6, v7, v8, v9, v10, v11, v12, v13, v14, v15, v16, v17, v18, v19, v20, v21, .int 0, v23])), (h1, .inl (k1, 8277, .inl (fun _ => 0)))] H := hP
  have hD : va_D A [(h0, .inr (14, [.ref h1, v0, v1, v2, v3, v4, v5, v6, v7, v8, v9, v10, v11, v12, v13, v14, v15, v16, v17, v18, v19, v20, v21, .int 0, v23])), (h1, .inl (k1, 8277, .inl (fun _ => 0)))] := hD
  refine lv_aload_n hx hb dX11_next_5 rfl (lv_at hl 0 rfl) ?_
  refine lv_iload_n hx hb dX11_next_6 rfl (lv_at hl 1 rfl) ?_
  refine kc_ (wc := [(h0, .inr (14, [.ref h1, v0, v1, v2, v3, v4, v5, v6, v7, v8, v9, v10, v11, v12, v13, v14, v15, v16, v17, v18, v19, v20, v21, .int 0, v23])), (h1, .inl (k1, 8277, .inl (fun _ => 0)))]) (wr := []) (va_runV (As := [.int p0]) (rest := []) ⟨hx, hb, hml, hown, hts⟩ (c_X11_isOne_0 l hl0 D ad H.size h0 h1 k1 (v0) (v1) (v2) (v3) (v4) (v5) (v6) (v7) (v8) (v9) (v10) (v11) (v12) (v13) (v14) (v15) (v16) (v17) (v18) (v19) (v20) (v21) (.int 0) (v23) p0) (cwV 1 hts gX11_next_X11_isOne rfl rfl rfl (by decide +kernel) ⟨Nat.le_of_ble_eq_true rfl, Nat.le_of_ble_eq_true rfl⟩) ⟨PC_.blind, va_recv hK hP (ci := 14) (q0 := 0) rfl rfl, PC_.pre hF hK hP hD hS hA [0, 1] [0] rfl (by decide) rfl⟩ rfl rfl hl.1 rfl (lv_room (Nat.le_of_ble_eq_true rfl)) dX11_next_7 ⟨Nat.le_of_ble_eq_true rfl, Nat.le_of_ble_eq_true rfl⟩) hK hP hD hS hA [0, 1] [] [] rfl rfl (by decide) (by decide) rfl (fun qa_1 ka_1 ia_1 H locs hpo hP hD hK hS => ?_)
  have hP : va_P D vwCl [(h0, .inr (14, [.ref h1, v0, v1, v2, v3, v4, v5, v6, v7, v8, v9, v10, v11, v12, v13, v14, v15, v16, v17, v18, v19, v20, v21, .int 0, v23])), (h1, .inl (k1, 8277, .inl (fun _ => 0)))] H := hP
  have hD : va_D A [(h0, .inr (14, [.ref h1, v0, v1, v2, v3, v4, v5, v6, v7, v8, v9, v10, v11, v12, v13, v14, v15, v16, v17, v18, v19, v20, v21, .int 0, v23])), (h1, .inl (k1, 8277, .inl (fun _ => 0)))] := hD
  have hK : va_K D vwCl [(k1, .int)] s := hK
  refine W.eq (g2 := F0 m 10 ls [.int 0]) rfl ?_
  refine lv_if_eq (tgt := 21) hx hb dX11_next_10 (by decide) (fun _ => ?_) (fun c9 => absurd (by decide +kernel) c9)
  refine lv_aload_n hx hb dX11_next_21 rfl (lv_at hl 0 rfl) ?_
  refine lv_iconst (v := 1) hx hb dX11_next_22 (by decide) ?_
  refine kc_ (wc := [(h0, .inr (14, [.ref h1, v0, v1, v2, v3, v4, v5, v6, v7, v8, v9, v10, v11, v12, v13, v14, v15, v16, v17, v18, v19, v20, v21, .int 0, v23]))]) (wr := [(h1, .inl (k1, 8277, .inl (fun _ => 0)))]) (va_runV (As := [.int 1]) (rest := []) ⟨hx, hb, hml, hown, hts⟩ (c_X11_raises_0 l hl0 D ad H.size h0 (.ref h1) (v0) (v1) (v2) (v3) (v4) (v5) (v6) (v7) (v8) (v9) (v10) (v11) (v12) (v13) (v14) (v15) (v16) (v17) (v18) (v19) (v20) (v21) (.int 0) (v23)) (cwV 1 hts gX11_next_X11_raises rfl rfl rfl (by decide +kernel) ⟨Nat.le_of_ble_eq_true rfl, Nat.le_of_ble_eq_true rfl⟩) ⟨PC_.blind, va_recv hK hP (ci := 14) (q0 := 0) rfl rfl, PC_.pre hF hK hP hD hS hA [0] [] rfl (by decide) rfl⟩ rfl rfl hl.1 rfl (lv_room (Nat.le_of_ble_eq_true rfl)) dX11_next_23 ⟨Nat.le_of_ble_eq_true rfl, Nat.le_of_ble_eq_true rfl⟩) hK hP hD hS hA [0] [1] [0] rfl rfl (by decide) (by decide) rfl (fun qa_2 ka_2 ia_2 H locs hpo hP hD hK hS => ?_)
  have hP : va_P D vwCl [(h1, .inl (k1, 8277, .inl (fun _ => 0))), (h0, .inr (14, [.ref h1, v0, v1, v2, v3, v4, v5, v6, v7, v8, v9, v10, v11, v12, v13, v14, v15, v16, v17, v18, v19, v20, v21, .int 1, v23]))] H := hP
  have hD : va_D A [(h1, .inl (k1, 8277, .inl (fun _ => 0))), (h0, .inr (14, [.ref h1, v0, v1, v2, v3, v4, v5, v6, v7, v8, v9, v10, v11, v12, v13, v14, v15, v16, v17, v18, v19, v20, v21, .int 1, v23]))] := hD
  have hK : va_K D vwCl [(k1, .int)] s := hK
  refine W.eq (g2 := F0 m 26 ls [.int 0]) rfl ?_
  refine W.widen (k := 0) (n := 0) (Nat.le_of_ble_eq_true rfl) (Nat.le_of_ble_eq_true rfl) ?_
  exact W.iret (v := 0) hx hb hr (QG_.mk (fun _ => 0) (fun _ => 0) (fun _ => 0) [1, 0] [0] hP hD hK hS rfl trivial rfl (by decide) rfl) hS.2.2 dX11_next_26
set_option maxHeartbeats 4000000 in
set_option maxRecDepth 100000 in
theorem c_X10_reached_0 (l : Launch) (hl0 : l.stackTraces = false) (D : va_G) (ad : Nat → Nat) (sz : Nat) (h0 : Nat) (h1 : Nat) (v0 : Value) (v1 : Value) (v2 : Value) (v3 : Value) (v4 : Value) (v5 : Value) (v6 : Value) (v7 : Value) (v8 : Value) (v9 : Value) (v10 : Value) (v11 : Value) (v12 : Value) (v13 : Value) (v14 : Value) (v15 : Value) (v16 : Value) (v17 : Value) (p0 : Int32) : vx_Met l yX10_reached wsX10_reached ({ frames := 7, cells := 1, slots := 6, locals := 123 }) (PC_ D ad [(h0, .inr (13, [.ref h1, v0, v1, v2, v3, v4, v5, v6, v7, v8])), (h1, .inr (11, [v9, v10, v11, v12, v13, .int 0, v14, v15, v16, v17]))] [] sz [.ref h0, .int p0]) QN_ (XT_ "java/lang/IndexOutOfBoundsException" (va_A [(h0, .inr (13, [.ref h1, v0, v1, v2, v3, v4, v5, v6, v7, v8])), (h1, .inr (11, [v9, v10, v11, v12, v13, .int 0, v14, v15, v16, v17]))] sz)) 1 6 (va_A [(h0, .inr (13, [.ref h1, v0, v1, v2, v3, v4, v5, v6, v7, v8])), (h1, .inr (11, [v9, v10, v11, v12, v13, .int 0, v14, v15, v16, v17]))] sz) := by
  refine vx_ofW (cc := cX10_reached) (maxL := 4) (ret := (some .int)) (by decide) rfl ?_
  intro p e s m args below meth c s₁ B hml htab hv
  obtain ⟨rfl, hsz, hP, hK, hD0, hF⟩ := hv
  have hx := B.exec
  have hb := B.bytes
  have hr := B.returns
  have hts := atoms_spec (ws := wsX10_reached) B.pre
  have hown : s.vm.findClass RX10 = some m.cls := findClass_of_methodNamed B.named
  have hlocks := B.notSynchronized
  subst hsz
  have hD := hD0.self (sz := s.heap.size)
  generalize hAe : va_A [(h0, .inr (13, [.ref h1, v0, v1, v2, v3, v4, v5, v6, v7, v8])), (h1, .inr (11, [v9, v10, v11, v12, v13, .int 0, v14, v15, v16, v17]))] s.heap.size = A at hD hF ⊢
  have hA : ∀ q : Nat, s.heap.size ≤ q → A q := fun q h => by rw [← hAe]; exact Or.inr h
  obtain ⟨H, hHe⟩ : ∃ H : Heap, H = s.heap := ⟨_, rfl⟩
  have hS : va_S A s.heap H [] := by rw [hHe]; exact va_S.rf
  have hP : va_P D vwCl [(h0, .inr (13, [.ref h1, v0, v1, v2, v3, v4, v5, v6, v7, v8])), (h1, .inr (11, [v9, v10, v11, v12, v13, .int 0, v14, v15, v16, v17]))] H := by rw [hHe]; exact hP
  rw [← hHe]
  have hi_X10 : ∀ w ∈ wsX100, w ∈ wsX10_reached := by decide +kernel
  have hi_X8 : ∀ w ∈ wsX80, w ∈ wsX10_reached := by decide +kernel
  have hl := lv_entry [.ref h0, .int p0] (n := 4) (Nat.le_of_ble_eq_true rfl)
  rw [lg_entry_eq]
  generalize (lg_sl [.ref h0, .int p0] ++ List.replicate (4 - (lg_sl [.ref h0, .int p0]).length) Slot.unset).toArray = ls at hl ⊢
  have hl : lv_has ls 4 [(0, .ref h0), (1, .int p0)] := hl
  refine lv_aload_n hx hb dX10_reached_0 rfl (lv_at hl 0 rfl) ?_
  refine lv_iload_n hx hb dX10_reached_1 rfl (lv_at hl 1 rfl) ?_
  refine kx_ (E0 := "java/lang/IndexOutOfBoundsException") (wc := [(h0, .inr (13, [.ref h1, v0, v1, v2, v3, v4, v5, v6, v7, v8])), (h1, .inr (11, [v9, v10, v11, v12, v13, .int 0, v14, v15, v16, v17]))]) (vx_runV (As := [.int p0]) (rest := []) ⟨hx, hb, hml, hown, hts⟩ (c_X10_needSurveyor_0 l hl0 D ad H.size h0 h1 (v0) (v1) (v2) (v3) (v4) (v5) (v6) (v7) (v8) (v9) (v10) (v11) (v12) (v13) (v14) (v15) (v16) (v17) p0) (cwV 1 hts gX10_reached_X10_needSurveyor rfl rfl rfl (by decide +kernel) ⟨Nat.le_of_ble_eq_true rfl, Nat.le_of_ble_eq_true rfl⟩) ⟨PC_.blind, va_recv hK hP (ci := 13) (q0 := 0) rfl rfl, PC_.pre hF hK hP hD hS hA [0, 1] [] rfl (by decide) rfl⟩ rfl rfl hl.1 rfl (lv_room (Nat.le_of_ble_eq_true rfl)) dX10_reached_2 ⟨Nat.le_of_ble_eq_true rfl, Nat.le_of_ble_eq_true rfl⟩) hD hS hA [0, 1] rfl (fun ce q9 H locs hS hce hvm hcl => ?_)
  exact vx_out (E := "java/lang/IndexOutOfBoundsException") (fun x9 hx9 => (htab x9 hx9).elim) hlocks hce hvm hcl (fun t9 ht9 _ => ⟨rfl, hS.F ht9⟩) hS.2.2 (Nat.le_of_ble_eq_true rfl) (Nat.le_of_ble_eq_true rfl)
set_option maxHeartbeats 4000000 in
set_option maxRecDepth 100000 in
theorem c_L_reached_0 (l : Launch) (hl0 : l.stackTraces = false) (D : va_G) (ad : Nat → Nat) (sz : Nat) (h0 : Nat) (h1 : Nat) (r0 : Nat) (v0 : Value) (v1 : Value) (v2 : Value) (v3 : Value) (v4 : Value) (v5 : Value) (v6 : Value) (v7 : Value) (v8 : Value) (v9 : Value) (v10 : Value) (v11 : Value) (v12 : Value) (v13 : Value) (v14 : Value) (v15 : Value) (v16 : Value) (v17 : Value) (p0 : Int32) : Met l yL_reached wsL_reached ({ frames := 8, cells := 1, slots := 6, locals := 148 }) (PC_ D ad [(h0, .inr (13, [.ref h1, v0, v1, v2, v3, v4, v5, v6, v7, v8])), (h1, .inr (11, [v9, v10, v11, v12, v13, .int 0, v14, v15, v16, v17]))] [] sz [.ref h0, .int p0, .ref r0]) (QG_ D (fun q i => some (.int 1)) (fun q i => True) (fun q k i => []) (fun q k i => []) (va_A [(h0, .inr (13, [.ref h1, v0, v1, v2, v3, v4, v5, v6, v7, v8])), (h1, .inr (11, [v9, v10, v11, v12, v13, .int 0, v14, v15, v16, v17]))] sz)) 1 6 (va_A [(h0, .inr (13, [.ref h1, v0, v1, v2, v3, v4, v5, v6, v7, v8])), (h1, .inr (11, [v9, v10, v11, v12, v13, .int 0, v14, v15, v16, v17]))] sz) := by
  refine va_MetW (cc := cL_reached) (maxL := 4) (ret := (some .int)) (by decide) rfl ?_
  intro p e s m args below meth c s₁ B hml hv
  obtain ⟨rfl, hsz, hP, hK, hD0, hF⟩ := hv
  have hx := B.exec
  have hb := B.bytes
  have hr := B.returns
  have hts := atoms_spec (ws := wsL_reached) B.pre
  have hown : s.vm.findClass RL = some m.cls := findClass_of_methodNamed B.named
  have hlocks := B.notSynchronized
  have htb := vx_table B (hts _ (List.mem_cons_self))
  subst hsz
  have hD := hD0.self (sz := s.heap.size)
  generalize hAe : va_A [(h0, .inr (13, [.ref h1, v0, v1, v2, v3, v4, v5, v6, v7, v8])), (h1, .inr (11, [v9, v10, v11, v12, v13, .int 0, v14, v15, v16, v17]))] s.heap.size = A at hD hF ⊢
  have hA : ∀ q : Nat, s.heap.size ≤ q → A q := fun q h => by rw [← hAe]; exact Or.inr h
  obtain ⟨H, hHe⟩ : ∃ H : Heap, H = s.heap := ⟨_, rfl⟩
  have hS : va_S A s.heap H [] := by rw [hHe]; exact va_S.rf
  have hP : va_P D vwCl [(h0, .inr (13, [.ref h1, v0, v1, v2, v3, v4, v5, v6, v7, v8])), (h1, .inr (11, [v9, v10, v11, v12, v13, .int 0, v14, v15, v16, v17]))] H := by rw [hHe]; exact hP
  rw [← hHe]
  have hi_X10 : ∀ w ∈ wsX100, w ∈ wsL_reached := by decide +kernel
  have hi_X8 : ∀ w ∈ wsX80, w ∈ wsL_reached := by decide +kernel
  have hl := lv_entry [.ref h0, .int p0, .ref r0] (n := 4) (Nat.le_of_ble_eq_true rfl)
  rw [lg_entry_eq]
  generalize (lg_sl [.ref h0, .int p0, .ref r0] ++ List.replicate (4 - (lg_sl [.ref h0, .int p0, .ref r0]).length) Slot.unset).toArray = ls at hl ⊢
  have hl : lv_has ls 4 [(0, .ref h0), (1, .int p0), (2, .ref r0)] := hl
  refine lv_aload_n hx hb dL_reached_0 rfl (lv_at hl 2 rfl) ?_
  refine lv_iconst (v := 0) hx hb dL_reached_1 (by decide) ?_
  refine lv_aload_n hx hb dL_reached_2 rfl (lv_at hl 0 rfl) ?_
  refine lv_iload_n hx hb dL_reached_3 rfl (lv_at hl 1 rfl) ?_
  refine kx_ (E0 := "java/lang/IndexOutOfBoundsException") (wc := [(h0, .inr (13, [.ref h1, v0, v1, v2, v3, v4, v5, v6, v7, v8])), (h1, .inr (11, [v9, v10, v11, v12, v13, .int 0, v14, v15, v16, v17]))]) (vx_runV (As := [.int p0]) (rest := [.int 0, .ref r0]) ⟨hx, hb, hml, hown, hts⟩ (c_X10_reached_0 l hl0 D ad H.size h0 h1 (v0) (v1) (v2) (v3) (v4) (v5) (v6) (v7) (v8) (v9) (v10) (v11) (v12) (v13) (v14) (v15) (v16) (v17) p0) (cwV 1 hts gL_reached_X10_reached rfl rfl rfl (by decide +kernel) ⟨Nat.le_of_ble_eq_true rfl, Nat.le_of_ble_eq_true rfl⟩) ⟨PC_.blind, va_recv hK hP (ci := 13) (q0 := 0) rfl rfl, PC_.pre hF hK hP hD hS hA [0, 1] [] rfl (by decide) rfl⟩ rfl rfl hl.1 rfl (lv_room (Nat.le_of_ble_eq_true rfl)) dL_reached_4 ⟨Nat.le_of_ble_eq_true rfl, Nat.le_of_ble_eq_true rfl⟩) hD hS hA [0, 1] rfl (fun ce q9 H locs hS hce hvm hcl => ?_)
  refine vx_catch (own := RL) (name := "java/lang/IndexOutOfBoundsException") (E := "java/lang/IndexOutOfBoundsException") hown [] (⟨0, 9, 12, 36⟩ : ExceptionTableEntry) [] (htb.trans rfl) (fun z hz => by cases hz) (by decide) (by decide) (hts (.classLink RL 36 "java/lang/IndexOutOfBoundsException") (List.mem_of_getElem? (i := 1) (by decide +kernel))) (fxk_ hF "java/lang/IndexOutOfBoundsException" "java/lang/IndexOutOfBoundsException") hce hvm hcl ?_
  have hP : va_P D vwCl [] H := fun k q h => by simp at h
  have hD : va_D A [] := ⟨fun i j p q h => by simp at h, fun k q h => by simp at h⟩
  have hK : va_K D vwCl [] s := ⟨hK.1, fun k q h => by simp at h⟩
  refine W.eq (g2 := F0 m 12 ls [.ref q9]) rfl ?_
  refine lv_astore_n (lv' := [(3, .ref q9), (0, .ref h0), (1, .int p0), (2, .ref r0)]) hx hb dL_reached_12 rfl hl (by decide) rfl (fun ls hl => ?_)
  refine lv_iconst (v := 1) hx hb dL_reached_13 (by decide) ?_
  refine W.widen (k := 1) (n := 6) (Nat.le_of_ble_eq_true rfl) (Nat.le_of_ble_eq_true rfl) ?_
  exact W.iret (v := 1) hx hb hr (QG_.mk (fun _ => 0) (fun _ => 0) (fun _ => 0) [] [] hP hD hK hS rfl trivial rfl (by decide) rfl) hS.2.2 dL_reached_14
set_option maxHeartbeats 4000000 in
set_option maxRecDepth 100000 in
theorem c_X11_reached_0 (l : Launch) (hl0 : l.stackTraces = false) (D : va_G) (ad : Nat → Nat) (sz : Nat) (h0 : Nat) (h1 : Nat) (k1 : ClassId) (v0 : Value) (v1 : Value) (v2 : Value) (v3 : Value) (v4 : Value) (v5 : Value) (v6 : Value) (v7 : Value) (v8 : Value) (v9 : Value) (v10 : Value) (v11 : Value) (v12 : Value) (v13 : Value) (v14 : Value) (v15 : Value) (v16 : Value) (v17 : Value) (v18 : Value) (v19 : Value) (v20 : Value) (v21 : Value) (v22 : Value) (v23 : Value) (p0 : Int32) : Met l yX11_reached wsX11_reached ({ frames := 2, cells := 0, slots := 0, locals := 47 }) (PC_ D ad [(h0, .inr (14, [.ref h1, v0, v1, v2, v3, v4, v5, v6, v7, v8, v9, v10, v11, v12, v13, v14, v15, v16, v17, v18, v19, v20, v21, v22, v23])), (h1, .inl (k1, 8277, .inl (fun _ => 0)))] [(k1, .int)] sz [.ref h0, .int p0]) (QG_ D (fun q i => some (.int 0)) (fun q i => True) (fun q k i => [(h0, .inr (14, [.ref h1, v0, v1, v2, v3, v4, v5, v6, v7, v8, v9, v10, v11, v12, v13, v14, v15, v16, v17, v18, v19, v20, v21, .int 1, v23])), (h1, .inl (k1, 8277, .inl (fun _ => 0)))]) (fun q k i => [(k1, .int)]) (va_A [(h0, .inr (14, [.ref h1, v0, v1, v2, v3, v4, v5, v6, v7, v8, v9, v10, v11, v12, v13, v14, v15, v16, v17, v18, v19, v20, v21, v22, v23])), (h1, .inl (k1, 8277, .inl (fun _ => 0)))] sz)) 0 0 (va_A [(h0, .inr (14, [.ref h1, v0, v1, v2, v3, v4, v5, v6, v7, v8, v9, v10, v11, v12, v13, v14, v15, v16, v17, v18, v19, v20, v21, v22, v23])), (h1, .inl (k1, 8277, .inl (fun _ => 0)))] sz) := by
  refine Met.ofW (cc := cX11_reached) (maxL := 4) (ret := (some .int)) (by decide) rfl ?_
  intro p e s m args below meth c s₁ B hml hv
  obtain ⟨rfl, hsz, hP, hK, hD0, hF⟩ := hv
  have hx := B.exec
  have hb := B.bytes
  have hr := B.returns
  have hts := atoms_spec (ws := wsX11_reached) B.pre
  have hown : s.vm.findClass RX11 = some m.cls := findClass_of_methodNamed B.named
  have hlocks := B.notSynchronized
  subst hsz
  have hD := hD0.self (sz := s.heap.size)
  generalize hAe : va_A [(h0, .inr (14, [.ref h1, v0, v1, v2, v3, v4, v5, v6, v7, v8, v9, v10, v11, v12, v13, v14, v15, v16, v17, v18, v19, v20, v21, v22, v23])), (h1, .inl (k1, 8277, .inl (fun _ => 0)))] s.heap.size = A at hD hF ⊢
  have hA : ∀ q : Nat, s.heap.size ≤ q → A q := fun q h => by rw [← hAe]; exact Or.inr h
  obtain ⟨H, hHe⟩ : ∃ H : Heap, H = s.heap := ⟨_, rfl⟩
  have hS : va_S A s.heap H [] := by rw [hHe]; exact va_S.rf
  have hP : va_P D vwCl [(h0, .inr (14, [.ref h1, v0, v1, v2, v3, v4, v5, v6, v7, v8, v9, v10, v11, v12, v13, v14, v15, v16, v17, v18, v19, v20, v21, v22, v23])), (h1, .inl (k1, 8277, .inl (fun _ => 0)))] H := by rw [hHe]; exact hP
  rw [← hHe]
  have hi_X11 : ∀ w ∈ wsX110, w ∈ wsX11_reached := by decide +kernel
  have hl := lv_entry [.ref h0, .int p0] (n := 4) (Nat.le_of_ble_eq_true rfl)
  rw [lg_entry_eq]
  generalize (lg_sl [.ref h0, .int p0] ++ List.replicate (4 - (lg_sl [.ref h0, .int p0]).length) Slot.unset).toArray = ls at hl ⊢
  have hl : lv_has ls 4 [(0, .ref h0), (1, .int p0)] := hl
  refine lv_aload_n hx hb dX11_reached_0 rfl (lv_at hl 0 rfl) ?_
  refine lv_iconst (v := 0) hx hb dX11_reached_1 (by decide) ?_
  refine va_put (D := D) (ci := 14) (v := .int 0) (ty := .int) (own := RX11) (C := RX11) (T := TX11) (N := 25) hx hb hts hi_X11 tyX11 tyX11_ok nmX11 hown hK hP hD hS 0 rfl rfl 23 (by decide) (hts (.fieldLink RX11 47 "CanalMapsModel" "thrown" "I") (List.mem_of_getElem? (i := 1) (by decide +kernel))) (fun _ h9 => h9) rfl (by decide +kernel) rfl rfl (Nat.le_of_ble_eq_true rfl) dX11_reached_2 (fun H locs hP hD hS => ?_)
  have hP : va_P D vwCl [(h0, .inr (14, [.ref h1, v0, v1, v2, v3, v4, v5, v6, v7, v8, v9, v10, v11, v12, v13, v14, v15, v16, v17, v18, v19, v20, v21, .int 0, v23])), (h1, .inl (k1, 8277, .inl (fun _ => 0)))] H := hP
  have hD : va_D A [(h0, .inr (14, [.ref h1, v0, v1, v2, v3, v4, v5, v6, v7, v8, v9, v10, v11, v12, v13, v14, v15, v16, v17, v18, v19, v20, v21, .int 0, v23])), (h1, .inl (k1, 8277, .inl (fun _ => 0)))] := hD
  refine lv_aload_n hx hb dX11_reached_5 rfl (lv_at hl 0 rfl) ?_
  refine lv_iload_n hx hb dX11_reached_6 rfl (lv_at hl 1 rfl) ?_
  refine kc_ (wc := [(h0, .inr (14, [.ref h1, v0, v1, v2, v3, v4, v5, v6, v7, v8, v9, v10, v11, v12, v13, v14, v15, v16, v17, v18, v19, v20, v21, .int 0, v23])), (h1, .inl (k1, 8277, .inl (fun _ => 0)))]) (wr := []) (va_runV (As := [.int p0]) (rest := []) ⟨hx, hb, hml, hown, hts⟩ (c_X11_isOne_0 l hl0 D ad H.size h0 h1 k1 (v0) (v1) (v2) (v3) (v4) (v5) (v6) (v7) (v8) (v9) (v10) (v11) (v12) (v13) (v14) (v15) (v16) (v17) (v18) (v19) (v20) (v21) (.int 0) (v23) p0) (cwV 1 hts gX11_reached_X11_isOne rfl rfl rfl (by decide +kernel) ⟨Nat.le_of_ble_eq_true rfl, Nat.le_of_ble_eq_true rfl⟩) ⟨PC_.blind, va_recv hK hP (ci := 14) (q0 := 0) rfl rfl, PC_.pre hF hK hP hD hS hA [0, 1] [0] rfl (by decide) rfl⟩ rfl rfl hl.1 rfl (lv_room (Nat.le_of_ble_eq_true rfl)) dX11_reached_7 ⟨Nat.le_of_ble_eq_true rfl, Nat.le_of_ble_eq_true rfl⟩) hK hP hD hS hA [0, 1] [] [] rfl rfl (by decide) (by decide) rfl (fun qa_1 ka_1 ia_1 H locs hpo hP hD hK hS => ?_)
  have hP : va_P D vwCl [(h0, .inr (14, [.ref h1, v0, v1, v2, v3, v4, v5, v6, v7, v8, v9, v10, v11, v12, v13, v14, v15, v16, v17, v18, v19, v20, v21, .int 0, v23])), (h1, .inl (k1, 8277, .inl (fun _ => 0)))] H := hP
  have hD : va_D A [(h0, .inr (14, [.ref h1, v0, v1, v2, v3, v4, v5, v6, v7, v8, v9, v10, v11, v12, v13, v14, v15, v16, v17, v18, v19, v20, v21, .int 0, v23])), (h1, .inl (k1, 8277, .inl (fun _ => 0)))] := hD
  have hK : va_K D vwCl [(k1, .int)] s := hK
  refine W.eq (g2 := F0 m 10 ls [.int 0]) rfl ?_
  refine lv_if_ne (tgt := 19) hx hb dX11_reached_10 (by decide) (fun c9 => absurd (by decide +kernel) c9) (fun _ => ?_)
  refine lv_aload_n hx hb dX11_reached_13 rfl (lv_at hl 0 rfl) ?_
  refine lv_iconst (v := 1) hx hb dX11_reached_14 (by decide) ?_
  refine kc_ (wc := [(h0, .inr (14, [.ref h1, v0, v1, v2, v3, v4, v5, v6, v7, v8, v9, v10, v11, v12, v13, v14, v15, v16, v17, v18, v19, v20, v21, .int 0, v23]))]) (wr := [(h1, .inl (k1, 8277, .inl (fun _ => 0)))]) (va_runV (As := [.int 1]) (rest := []) ⟨hx, hb, hml, hown, hts⟩ (c_X11_raises_0 l hl0 D ad H.size h0 (.ref h1) (v0) (v1) (v2) (v3) (v4) (v5) (v6) (v7) (v8) (v9) (v10) (v11) (v12) (v13) (v14) (v15) (v16) (v17) (v18) (v19) (v20) (v21) (.int 0) (v23)) (cwV 1 hts gX11_reached_X11_raises rfl rfl rfl (by decide +kernel) ⟨Nat.le_of_ble_eq_true rfl, Nat.le_of_ble_eq_true rfl⟩) ⟨PC_.blind, va_recv hK hP (ci := 14) (q0 := 0) rfl rfl, PC_.pre hF hK hP hD hS hA [0] [] rfl (by decide) rfl⟩ rfl rfl hl.1 rfl (lv_room (Nat.le_of_ble_eq_true rfl)) dX11_reached_15 ⟨Nat.le_of_ble_eq_true rfl, Nat.le_of_ble_eq_true rfl⟩) hK hP hD hS hA [0] [1] [0] rfl rfl (by decide) (by decide) rfl (fun qa_2 ka_2 ia_2 H locs hpo hP hD hK hS => ?_)
  have hP : va_P D vwCl [(h1, .inl (k1, 8277, .inl (fun _ => 0))), (h0, .inr (14, [.ref h1, v0, v1, v2, v3, v4, v5, v6, v7, v8, v9, v10, v11, v12, v13, v14, v15, v16, v17, v18, v19, v20, v21, .int 1, v23]))] H := hP
  have hD : va_D A [(h1, .inl (k1, 8277, .inl (fun _ => 0))), (h0, .inr (14, [.ref h1, v0, v1, v2, v3, v4, v5, v6, v7, v8, v9, v10, v11, v12, v13, v14, v15, v16, v17, v18, v19, v20, v21, .int 1, v23]))] := hD
  have hK : va_K D vwCl [(k1, .int)] s := hK
  refine W.eq (g2 := F0 m 18 ls [.int 0]) rfl ?_
  refine W.widen (k := 0) (n := 0) (Nat.le_of_ble_eq_true rfl) (Nat.le_of_ble_eq_true rfl) ?_
  exact W.iret (v := 0) hx hb hr (QG_.mk (fun _ => 0) (fun _ => 0) (fun _ => 0) [1, 0] [0] hP hD hK hS rfl trivial rfl (by decide) rfl) hS.2.2 dX11_reached_18
set_option maxHeartbeats 4000000 in
set_option maxRecDepth 100000 in
theorem c_X10_follow_0 (l : Launch) (hl0 : l.stackTraces = false) (D : va_G) (ad : Nat → Nat) (sz : Nat) (h0 : Nat) (h1 : Nat) (v0 : Value) (v1 : Value) (v2 : Value) (v3 : Value) (v4 : Value) (v5 : Value) (v6 : Value) (v7 : Value) (v8 : Value) (v9 : Value) (v10 : Value) (v11 : Value) (v12 : Value) (v13 : Value) (v14 : Value) (v15 : Value) (v16 : Value) (v17 : Value) (p0 : Int32) (p1 : Int32) : vx_Met l yX10_follow wsX10_follow ({ frames := 7, cells := 1, slots := 6, locals := 123 }) (PC_ D ad [(h0, .inr (13, [.ref h1, v0, v1, v2, v3, v4, v5, v6, v7, v8])), (h1, .inr (11, [v9, v10, v11, v12, v13, .int 0, v14, v15, v16, v17]))] [] sz [.ref h0, .int p0, .int p1]) QN_ (XT_ "java/lang/IndexOutOfBoundsException" (va_A [(h0, .inr (13, [.ref h1, v0, v1, v2, v3, v4, v5, v6, v7, v8])), (h1, .inr (11, [v9, v10, v11, v12, v13, .int 0, v14, v15, v16, v17]))] sz)) 1 6 (va_A [(h0, .inr (13, [.ref h1, v0, v1, v2, v3, v4, v5, v6, v7, v8])), (h1, .inr (11, [v9, v10, v11, v12, v13, .int 0, v14, v15, v16, v17]))] sz) := by
  refine vx_ofW (cc := cX10_follow) (maxL := 9) (ret := (some .int)) (by decide) rfl ?_
  intro p e s m args below meth c s₁ B hml htab hv
  obtain ⟨rfl, hsz, hP, hK, hD0, hF⟩ := hv
  have hx := B.exec
  have hb := B.bytes
  have hr := B.returns
  have hts := atoms_spec (ws := wsX10_follow) B.pre
  have hown : s.vm.findClass RX10 = some m.cls := findClass_of_methodNamed B.named
  have hlocks := B.notSynchronized
  subst hsz
  have hD := hD0.self (sz := s.heap.size)
  generalize hAe : va_A [(h0, .inr (13, [.ref h1, v0, v1, v2, v3, v4, v5, v6, v7, v8])), (h1, .inr (11, [v9, v10, v11, v12, v13, .int 0, v14, v15, v16, v17]))] s.heap.size = A at hD hF ⊢
  have hA : ∀ q : Nat, s.heap.size ≤ q → A q := fun q h => by rw [← hAe]; exact Or.inr h
  obtain ⟨H, hHe⟩ : ∃ H : Heap, H = s.heap := ⟨_, rfl⟩
  have hS : va_S A s.heap H [] := by rw [hHe]; exact va_S.rf
  have hP : va_P D vwCl [(h0, .inr (13, [.ref h1, v0, v1, v2, v3, v4, v5, v6, v7, v8])), (h1, .inr (11, [v9, v10, v11, v12, v13, .int 0, v14, v15, v16, v17]))] H := by rw [hHe]; exact hP
  rw [← hHe]
  have hi_X10 : ∀ w ∈ wsX100, w ∈ wsX10_follow := by decide +kernel
  have hi_X8 : ∀ w ∈ wsX80, w ∈ wsX10_follow := by decide +kernel
  have hl := lv_entry [.ref h0, .int p0, .int p1] (n := 9) (Nat.le_of_ble_eq_true rfl)
  rw [lg_entry_eq]
  generalize (lg_sl [.ref h0, .int p0, .int p1] ++ List.replicate (9 - (lg_sl [.ref h0, .int p0, .int p1]).length) Slot.unset).toArray = ls at hl ⊢
  have hl : lv_has ls 9 [(0, .ref h0), (1, .int p0), (2, .int p1)] := hl
  refine lv_aload_n hx hb dX10_follow_0 rfl (lv_at hl 0 rfl) ?_
  refine lv_iload_n hx hb dX10_follow_1 rfl (lv_at hl 1 rfl) ?_
  refine kx_ (E0 := "java/lang/IndexOutOfBoundsException") (wc := [(h0, .inr (13, [.ref h1, v0, v1, v2, v3, v4, v5, v6, v7, v8])), (h1, .inr (11, [v9, v10, v11, v12, v13, .int 0, v14, v15, v16, v17]))]) (vx_runV (As := [.int p0]) (rest := []) ⟨hx, hb, hml, hown, hts⟩ (c_X10_needSurveyor_0 l hl0 D ad H.size h0 h1 (v0) (v1) (v2) (v3) (v4) (v5) (v6) (v7) (v8) (v9) (v10) (v11) (v12) (v13) (v14) (v15) (v16) (v17) p0) (cwV 1 hts gX10_follow_X10_needSurveyor rfl rfl rfl (by decide +kernel) ⟨Nat.le_of_ble_eq_true rfl, Nat.le_of_ble_eq_true rfl⟩) ⟨PC_.blind, va_recv hK hP (ci := 13) (q0 := 0) rfl rfl, PC_.pre hF hK hP hD hS hA [0, 1] [] rfl (by decide) rfl⟩ rfl rfl hl.1 rfl (lv_room (Nat.le_of_ble_eq_true rfl)) dX10_follow_2 ⟨Nat.le_of_ble_eq_true rfl, Nat.le_of_ble_eq_true rfl⟩) hD hS hA [0, 1] rfl (fun ce q9 H locs hS hce hvm hcl => ?_)
  exact vx_out (E := "java/lang/IndexOutOfBoundsException") (fun x9 hx9 => (htab x9 hx9).elim) hlocks hce hvm hcl (fun t9 ht9 _ => ⟨rfl, hS.F ht9⟩) hS.2.2 (Nat.le_of_ble_eq_true rfl) (Nat.le_of_ble_eq_true rfl)
set_option maxHeartbeats 4000000 in
set_option maxRecDepth 100000 in
theorem c_L_follow_0 (l : Launch) (hl0 : l.stackTraces = false) (D : va_G) (ad : Nat → Nat) (sz : Nat) (h0 : Nat) (h1 : Nat) (r0 : Nat) (v0 : Value) (v1 : Value) (v2 : Value) (v3 : Value) (v4 : Value) (v5 : Value) (v6 : Value) (v7 : Value) (v8 : Value) (v9 : Value) (v10 : Value) (v11 : Value) (v12 : Value) (v13 : Value) (v14 : Value) (v15 : Value) (v16 : Value) (v17 : Value) (p0 : Int32) (p1 : Int32) : Met l yL_follow wsL_follow ({ frames := 8, cells := 1, slots := 6, locals := 153 }) (PC_ D ad [(h0, .inr (13, [.ref h1, v0, v1, v2, v3, v4, v5, v6, v7, v8])), (h1, .inr (11, [v9, v10, v11, v12, v13, .int 0, v14, v15, v16, v17]))] [] sz [.ref h0, .int p0, .int p1, .ref r0]) (QG_ D (fun q i => some (.int 1)) (fun q i => True) (fun q k i => []) (fun q k i => []) (va_A [(h0, .inr (13, [.ref h1, v0, v1, v2, v3, v4, v5, v6, v7, v8])), (h1, .inr (11, [v9, v10, v11, v12, v13, .int 0, v14, v15, v16, v17]))] sz)) 1 6 (va_A [(h0, .inr (13, [.ref h1, v0, v1, v2, v3, v4, v5, v6, v7, v8])), (h1, .inr (11, [v9, v10, v11, v12, v13, .int 0, v14, v15, v16, v17]))] sz) := by
  refine va_MetW (cc := cL_follow) (maxL := 5) (ret := (some .int)) (by decide) rfl ?_
  intro p e s m args below meth c s₁ B hml hv
  obtain ⟨rfl, hsz, hP, hK, hD0, hF⟩ := hv
  have hx := B.exec
  have hb := B.bytes
  have hr := B.returns
  have hts := atoms_spec (ws := wsL_follow) B.pre
  have hown : s.vm.findClass RL = some m.cls := findClass_of_methodNamed B.named
  have hlocks := B.notSynchronized
  have htb := vx_table B (hts _ (List.mem_cons_self))
  subst hsz
  have hD := hD0.self (sz := s.heap.size)
  generalize hAe : va_A [(h0, .inr (13, [.ref h1, v0, v1, v2, v3, v4, v5, v6, v7, v8])), (h1, .inr (11, [v9, v10, v11, v12, v13, .int 0, v14, v15, v16, v17]))] s.heap.size = A at hD hF ⊢
  have hA : ∀ q : Nat, s.heap.size ≤ q → A q := fun q h => by rw [← hAe]; exact Or.inr h
  obtain ⟨H, hHe⟩ : ∃ H : Heap, H = s.heap := ⟨_, rfl⟩
  have hS : va_S A s.heap H [] := by rw [hHe]; exact va_S.rf
  have hP : va_P D vwCl [(h0, .inr (13, [.ref h1, v0, v1, v2, v3, v4, v5, v6, v7, v8])), (h1, .inr (11, [v9, v10, v11, v12, v13, .int 0, v14, v15, v16, v17]))] H := by rw [hHe]; exact hP
  rw [← hHe]
  have hi_X10 : ∀ w ∈ wsX100, w ∈ wsL_follow := by decide +kernel
  have hi_X8 : ∀ w ∈ wsX80, w ∈ wsL_follow := by decide +kernel
  have hl := lv_entry [.ref h0, .int p0, .int p1, .ref r0] (n := 5) (Nat.le_of_ble_eq_true rfl)
  rw [lg_entry_eq]
  generalize (lg_sl [.ref h0, .int p0, .int p1, .ref r0] ++ List.replicate (5 - (lg_sl [.ref h0, .int p0, .int p1, .ref r0]).length) Slot.unset).toArray = ls at hl ⊢
  have hl : lv_has ls 5 [(0, .ref h0), (1, .int p0), (2, .int p1), (3, .ref r0)] := hl
  refine lv_aload_n hx hb dL_follow_0 rfl (lv_at hl 3 rfl) ?_
  refine lv_iconst (v := 0) hx hb dL_follow_1 (by decide) ?_
  refine lv_aload_n hx hb dL_follow_2 rfl (lv_at hl 0 rfl) ?_
  refine lv_iload_n hx hb dL_follow_3 rfl (lv_at hl 1 rfl) ?_
  refine lv_iload_n hx hb dL_follow_4 rfl (lv_at hl 2 rfl) ?_
  refine kx_ (E0 := "java/lang/IndexOutOfBoundsException") (wc := [(h0, .inr (13, [.ref h1, v0, v1, v2, v3, v4, v5, v6, v7, v8])), (h1, .inr (11, [v9, v10, v11, v12, v13, .int 0, v14, v15, v16, v17]))]) (vx_runV (As := [.int p0, .int p1]) (rest := [.int 0, .ref r0]) ⟨hx, hb, hml, hown, hts⟩ (c_X10_follow_0 l hl0 D ad H.size h0 h1 (v0) (v1) (v2) (v3) (v4) (v5) (v6) (v7) (v8) (v9) (v10) (v11) (v12) (v13) (v14) (v15) (v16) (v17) p0 p1) (cwV 2 hts gL_follow_X10_follow rfl rfl rfl (by decide +kernel) ⟨Nat.le_of_ble_eq_true rfl, Nat.le_of_ble_eq_true rfl⟩) ⟨PC_.blind, va_recv hK hP (ci := 13) (q0 := 0) rfl rfl, PC_.pre hF hK hP hD hS hA [0, 1] [] rfl (by decide) rfl⟩ rfl rfl hl.1 rfl (lv_room (Nat.le_of_ble_eq_true rfl)) dL_follow_5 ⟨Nat.le_of_ble_eq_true rfl, Nat.le_of_ble_eq_true rfl⟩) hD hS hA [0, 1] rfl (fun ce q9 H locs hS hce hvm hcl => ?_)
  refine vx_catch (own := RL) (name := "java/lang/IndexOutOfBoundsException") (E := "java/lang/IndexOutOfBoundsException") hown [] (⟨0, 10, 13, 36⟩ : ExceptionTableEntry) [(⟨0, 10, 17, 43⟩ : ExceptionTableEntry)] (htb.trans rfl) (fun z hz => by cases hz) (by decide) (by decide) (hts (.classLink RL 36 "java/lang/IndexOutOfBoundsException") (List.mem_of_getElem? (i := 1) (by decide +kernel))) (fxk_ hF "java/lang/IndexOutOfBoundsException" "java/lang/IndexOutOfBoundsException") hce hvm hcl ?_
  have hP : va_P D vwCl [] H := fun k q h => by simp at h
  have hD : va_D A [] := ⟨fun i j p q h => by simp at h, fun k q h => by simp at h⟩
  have hK : va_K D vwCl [] s := ⟨hK.1, fun k q h => by simp at h⟩
  refine W.eq (g2 := F0 m 13 ls [.ref q9]) rfl ?_
  refine lv_astore (lv' := [(4, .ref q9), (0, .ref h0), (1, .int p0), (2, .int p1), (3, .ref r0)]) hx hb dL_follow_13 hl (by decide) rfl (fun ls hl => ?_)
  refine lv_iconst (v := 1) hx hb dL_follow_15 (by decide) ?_
  refine W.widen (k := 1) (n := 6) (Nat.le_of_ble_eq_true rfl) (Nat.le_of_ble_eq_true rfl) ?_
  exact W.iret (v := 1) hx hb hr (QG_.mk (fun _ => 0) (fun _ => 0) (fun _ => 0) [] [] hP hD hK hS rfl trivial rfl (by decide) rfl) hS.2.2 dL_follow_16
set_option maxHeartbeats 4000000 in
set_option maxRecDepth 100000 in
theorem c_X11_follow_0 (l : Launch) (hl0 : l.stackTraces = false) (D : va_G) (ad : Nat → Nat) (sz : Nat) (h0 : Nat) (h1 : Nat) (k1 : ClassId) (v0 : Value) (v1 : Value) (v2 : Value) (v3 : Value) (v4 : Value) (v5 : Value) (v6 : Value) (v7 : Value) (v8 : Value) (v9 : Value) (v10 : Value) (v11 : Value) (v12 : Value) (v13 : Value) (v14 : Value) (v15 : Value) (v16 : Value) (v17 : Value) (v18 : Value) (v19 : Value) (v20 : Value) (v21 : Value) (v22 : Value) (v23 : Value) (p0 : Int32) (p1 : Int32) : Met l yX11_follow wsX11_follow ({ frames := 2, cells := 0, slots := 0, locals := 47 }) (PC_ D ad [(h0, .inr (14, [.ref h1, v0, v1, v2, v3, v4, v5, v6, v7, v8, v9, v10, v11, v12, v13, v14, v15, v16, v17, v18, v19, v20, v21, v22, v23])), (h1, .inl (k1, 8277, .inl (fun _ => 0)))] [(k1, .int)] sz [.ref h0, .int p0, .int p1]) (QG_ D (fun q i => some (.int 0)) (fun q i => True) (fun q k i => [(h0, .inr (14, [.ref h1, v0, v1, v2, v3, v4, v5, v6, v7, v8, v9, v10, v11, v12, v13, v14, v15, v16, v17, v18, v19, v20, v21, .int 1, v23])), (h1, .inl (k1, 8277, .inl (fun _ => 0)))]) (fun q k i => [(k1, .int)]) (va_A [(h0, .inr (14, [.ref h1, v0, v1, v2, v3, v4, v5, v6, v7, v8, v9, v10, v11, v12, v13, v14, v15, v16, v17, v18, v19, v20, v21, v22, v23])), (h1, .inl (k1, 8277, .inl (fun _ => 0)))] sz)) 0 0 (va_A [(h0, .inr (14, [.ref h1, v0, v1, v2, v3, v4, v5, v6, v7, v8, v9, v10, v11, v12, v13, v14, v15, v16, v17, v18, v19, v20, v21, v22, v23])), (h1, .inl (k1, 8277, .inl (fun _ => 0)))] sz) := by
  refine Met.ofW (cc := cX11_follow) (maxL := 7) (ret := (some .int)) (by decide) rfl ?_
  intro p e s m args below meth c s₁ B hml hv
  obtain ⟨rfl, hsz, hP, hK, hD0, hF⟩ := hv
  have hx := B.exec
  have hb := B.bytes
  have hr := B.returns
  have hts := atoms_spec (ws := wsX11_follow) B.pre
  have hown : s.vm.findClass RX11 = some m.cls := findClass_of_methodNamed B.named
  have hlocks := B.notSynchronized
  subst hsz
  have hD := hD0.self (sz := s.heap.size)
  generalize hAe : va_A [(h0, .inr (14, [.ref h1, v0, v1, v2, v3, v4, v5, v6, v7, v8, v9, v10, v11, v12, v13, v14, v15, v16, v17, v18, v19, v20, v21, v22, v23])), (h1, .inl (k1, 8277, .inl (fun _ => 0)))] s.heap.size = A at hD hF ⊢
  have hA : ∀ q : Nat, s.heap.size ≤ q → A q := fun q h => by rw [← hAe]; exact Or.inr h
  obtain ⟨H, hHe⟩ : ∃ H : Heap, H = s.heap := ⟨_, rfl⟩
  have hS : va_S A s.heap H [] := by rw [hHe]; exact va_S.rf
  have hP : va_P D vwCl [(h0, .inr (14, [.ref h1, v0, v1, v2, v3, v4, v5, v6, v7, v8, v9, v10, v11, v12, v13, v14, v15, v16, v17, v18, v19, v20, v21, v22, v23])), (h1, .inl (k1, 8277, .inl (fun _ => 0)))] H := by rw [hHe]; exact hP
  rw [← hHe]
  have hi_X11 : ∀ w ∈ wsX110, w ∈ wsX11_follow := by decide +kernel
  have hl := lv_entry [.ref h0, .int p0, .int p1] (n := 7) (Nat.le_of_ble_eq_true rfl)
  rw [lg_entry_eq]
  generalize (lg_sl [.ref h0, .int p0, .int p1] ++ List.replicate (7 - (lg_sl [.ref h0, .int p0, .int p1]).length) Slot.unset).toArray = ls at hl ⊢
  have hl : lv_has ls 7 [(0, .ref h0), (1, .int p0), (2, .int p1)] := hl
  refine lv_aload_n hx hb dX11_follow_0 rfl (lv_at hl 0 rfl) ?_
  refine lv_iconst (v := 0) hx hb dX11_follow_1 (by decide) ?_
  refine va_put (D := D) (ci := 14) (v := .int 0) (ty := .int) (own := RX11) (C := RX11) (T := TX11) (N := 25) hx hb hts hi_X11 tyX11 tyX11_ok nmX11 hown hK hP hD hS 0 rfl rfl 23 (by decide) (hts (.fieldLink RX11 47 "CanalMapsModel" "thrown" "I") (List.mem_of_getElem? (i := 1) (by decide +kernel))) (fun _ h9 => h9) rfl (by decide +kernel) rfl rfl (Nat.le_of_ble_eq_true rfl) dX11_follow_2 (fun H locs hP hD hS => ?_)
  have hP : va_P D vwCl [(h0, .inr (14, [.ref h1, v0, v1, v2, v3, v4, v5, v6, v7, v8, v9, v10, v11, v12, v13, v14, v15, v16, v17, v18, v19, v20, v21, .int 0, v23])), (h1, .inl (k1, 8277, .inl (fun _ => 0)))] H := hP
  have hD : va_D A [(h0, .inr (14, [.ref h1, v0, v1, v2, v3, v4, v5, v6, v7, v8, v9, v10, v11, v12, v13, v14, v15, v16, v17, v18, v19, v20, v21, .int 0, v23])), (h1, .inl (k1, 8277, .inl (fun _ => 0)))] := hD
  refine lv_aload_n hx hb dX11_follow_5 rfl (lv_at hl 0 rfl) ?_
  refine lv_iload_n hx hb dX11_follow_6 rfl (lv_at hl 1 rfl) ?_
  refine kc_ (wc := [(h0, .inr (14, [.ref h1, v0, v1, v2, v3, v4, v5, v6, v7, v8, v9, v10, v11, v12, v13, v14, v15, v16, v17, v18, v19, v20, v21, .int 0, v23])), (h1, .inl (k1, 8277, .inl (fun _ => 0)))]) (wr := []) (va_runV (As := [.int p0]) (rest := []) ⟨hx, hb, hml, hown, hts⟩ (c_X11_isOne_0 l hl0 D ad H.size h0 h1 k1 (v0) (v1) (v2) (v3) (v4) (v5) (v6) (v7) (v8) (v9) (v10) (v11) (v12) (v13) (v14) (v15) (v16) (v17) (v18) (v19) (v20) (v21) (.int 0) (v23) p0) (cwV 1 hts gX11_follow_X11_isOne rfl rfl rfl (by decide +kernel) ⟨Nat.le_of_ble_eq_true rfl, Nat.le_of_ble_eq_true rfl⟩) ⟨PC_.blind, va_recv hK hP (ci := 14) (q0 := 0) rfl rfl, PC_.pre hF hK hP hD hS hA [0, 1] [0] rfl (by decide) rfl⟩ rfl rfl hl.1 rfl (lv_room (Nat.le_of_ble_eq_true rfl)) dX11_follow_7 ⟨Nat.le_of_ble_eq_true rfl, Nat.le_of_ble_eq_true rfl⟩) hK hP hD hS hA [0, 1] [] [] rfl rfl (by decide) (by decide) rfl (fun qa_1 ka_1 ia_1 H locs hpo hP hD hK hS => ?_)
  have hP : va_P D vwCl [(h0, .inr (14, [.ref h1, v0, v1, v2, v3, v4, v5, v6, v7, v8, v9, v10, v11, v12, v13, v14, v15, v16, v17, v18, v19, v20, v21, .int 0, v23])), (h1, .inl (k1, 8277, .inl (fun _ => 0)))] H := hP
  have hD : va_D A [(h0, .inr (14, [.ref h1, v0, v1, v2, v3, v4, v5, v6, v7, v8, v9, v10, v11, v12, v13, v14, v15, v16, v17, v18, v19, v20, v21, .int 0, v23])), (h1, .inl (k1, 8277, .inl (fun _ => 0)))] := hD
  have hK : va_K D vwCl [(k1, .int)] s := hK
  refine W.eq (g2 := F0 m 10 ls [.int 0]) rfl ?_
  refine lv_if_eq (tgt := 21) hx hb dX11_follow_10 (by decide) (fun _ => ?_) (fun c9 => absurd (by decide +kernel) c9)
  refine lv_aload_n hx hb dX11_follow_21 rfl (lv_at hl 0 rfl) ?_
  refine lv_iconst (v := 1) hx hb dX11_follow_22 (by decide) ?_
  refine kc_ (wc := [(h0, .inr (14, [.ref h1, v0, v1, v2, v3, v4, v5, v6, v7, v8, v9, v10, v11, v12, v13, v14, v15, v16, v17, v18, v19, v20, v21, .int 0, v23]))]) (wr := [(h1, .inl (k1, 8277, .inl (fun _ => 0)))]) (va_runV (As := [.int 1]) (rest := []) ⟨hx, hb, hml, hown, hts⟩ (c_X11_raises_0 l hl0 D ad H.size h0 (.ref h1) (v0) (v1) (v2) (v3) (v4) (v5) (v6) (v7) (v8) (v9) (v10) (v11) (v12) (v13) (v14) (v15) (v16) (v17) (v18) (v19) (v20) (v21) (.int 0) (v23)) (cwV 1 hts gX11_follow_X11_raises rfl rfl rfl (by decide +kernel) ⟨Nat.le_of_ble_eq_true rfl, Nat.le_of_ble_eq_true rfl⟩) ⟨PC_.blind, va_recv hK hP (ci := 14) (q0 := 0) rfl rfl, PC_.pre hF hK hP hD hS hA [0] [] rfl (by decide) rfl⟩ rfl rfl hl.1 rfl (lv_room (Nat.le_of_ble_eq_true rfl)) dX11_follow_23 ⟨Nat.le_of_ble_eq_true rfl, Nat.le_of_ble_eq_true rfl⟩) hK hP hD hS hA [0] [1] [0] rfl rfl (by decide) (by decide) rfl (fun qa_2 ka_2 ia_2 H locs hpo hP hD hK hS => ?_)
  have hP : va_P D vwCl [(h1, .inl (k1, 8277, .inl (fun _ => 0))), (h0, .inr (14, [.ref h1, v0, v1, v2, v3, v4, v5, v6, v7, v8, v9, v10, v11, v12, v13, v14, v15, v16, v17, v18, v19, v20, v21, .int 1, v23]))] H := hP
  have hD : va_D A [(h1, .inl (k1, 8277, .inl (fun _ => 0))), (h0, .inr (14, [.ref h1, v0, v1, v2, v3, v4, v5, v6, v7, v8, v9, v10, v11, v12, v13, v14, v15, v16, v17, v18, v19, v20, v21, .int 1, v23]))] := hD
  have hK : va_K D vwCl [(k1, .int)] s := hK
  refine W.eq (g2 := F0 m 26 ls [.int 0]) rfl ?_
  refine W.widen (k := 0) (n := 0) (Nat.le_of_ble_eq_true rfl) (Nat.le_of_ble_eq_true rfl) ?_
  exact W.iret (v := 0) hx hb hr (QG_.mk (fun _ => 0) (fun _ => 0) (fun _ => 0) [1, 0] [0] hP hD hK hS rfl trivial rfl (by decide) rfl) hS.2.2 dX11_follow_26
set_option maxHeartbeats 4000000 in
set_option maxRecDepth 100000 in
theorem c_X10_real_0 (l : Launch) (hl0 : l.stackTraces = false) (D : va_G) (ad : Nat → Nat) (sz : Nat) (h0 : Nat) (h1 : Nat) (v0 : Value) (v1 : Value) (v2 : Value) (v3 : Value) (v4 : Value) (v5 : Value) (v6 : Value) (v7 : Value) (v8 : Value) (v9 : Value) (v10 : Value) (v11 : Value) (v12 : Value) (v13 : Value) (v14 : Value) (v15 : Value) (v16 : Value) (v17 : Value) (p0 : Int32) (p1 : Int32) : vx_Met l yX10_real wsX10_real ({ frames := 7, cells := 1, slots := 6, locals := 123 }) (PC_ D ad [(h0, .inr (13, [.ref h1, v0, v1, v2, v3, v4, v5, v6, v7, v8])), (h1, .inr (11, [v9, v10, v11, v12, v13, .int 0, v14, v15, v16, v17]))] [] sz [.ref h0, .int p0, .int p1]) QN_ (XT_ "java/lang/IndexOutOfBoundsException" (va_A [(h0, .inr (13, [.ref h1, v0, v1, v2, v3, v4, v5, v6, v7, v8])), (h1, .inr (11, [v9, v10, v11, v12, v13, .int 0, v14, v15, v16, v17]))] sz)) 1 6 (va_A [(h0, .inr (13, [.ref h1, v0, v1, v2, v3, v4, v5, v6, v7, v8])), (h1, .inr (11, [v9, v10, v11, v12, v13, .int 0, v14, v15, v16, v17]))] sz) := by
  refine vx_ofW (cc := cX10_real) (maxL := 3) (ret := (some .int)) (by decide) rfl ?_
  intro p e s m args below meth c s₁ B hml htab hv
  obtain ⟨rfl, hsz, hP, hK, hD0, hF⟩ := hv
  have hx := B.exec
  have hb := B.bytes
  have hr := B.returns
  have hts := atoms_spec (ws := wsX10_real) B.pre
  have hown : s.vm.findClass RX10 = some m.cls := findClass_of_methodNamed B.named
  have hlocks := B.notSynchronized
  subst hsz
  have hD := hD0.self (sz := s.heap.size)
  generalize hAe : va_A [(h0, .inr (13, [.ref h1, v0, v1, v2, v3, v4, v5, v6, v7, v8])), (h1, .inr (11, [v9, v10, v11, v12, v13, .int 0, v14, v15, v16, v17]))] s.heap.size = A at hD hF ⊢
  have hA : ∀ q : Nat, s.heap.size ≤ q → A q := fun q h => by rw [← hAe]; exact Or.inr h
  obtain ⟨H, hHe⟩ : ∃ H : Heap, H = s.heap := ⟨_, rfl⟩
  have hS : va_S A s.heap H [] := by rw [hHe]; exact va_S.rf
  have hP : va_P D vwCl [(h0, .inr (13, [.ref h1, v0, v1, v2, v3, v4, v5, v6, v7, v8])), (h1, .inr (11, [v9, v10, v11, v12, v13, .int 0, v14, v15, v16, v17]))] H := by rw [hHe]; exact hP
  rw [← hHe]
  have hi_X10 : ∀ w ∈ wsX100, w ∈ wsX10_real := by decide +kernel
  have hi_X8 : ∀ w ∈ wsX80, w ∈ wsX10_real := by decide +kernel
  have hl := lv_entry [.ref h0, .int p0, .int p1] (n := 3) (Nat.le_of_ble_eq_true rfl)
  rw [lg_entry_eq]
  generalize (lg_sl [.ref h0, .int p0, .int p1] ++ List.replicate (3 - (lg_sl [.ref h0, .int p0, .int p1]).length) Slot.unset).toArray = ls at hl ⊢
  have hl : lv_has ls 3 [(0, .ref h0), (1, .int p0), (2, .int p1)] := hl
  refine lv_aload_n hx hb dX10_real_0 rfl (lv_at hl 0 rfl) ?_
  refine lv_iload_n hx hb dX10_real_1 rfl (lv_at hl 1 rfl) ?_
  refine kx_ (E0 := "java/lang/IndexOutOfBoundsException") (wc := [(h0, .inr (13, [.ref h1, v0, v1, v2, v3, v4, v5, v6, v7, v8])), (h1, .inr (11, [v9, v10, v11, v12, v13, .int 0, v14, v15, v16, v17]))]) (vx_runV (As := [.int p0]) (rest := []) ⟨hx, hb, hml, hown, hts⟩ (c_X10_needSurveyor_0 l hl0 D ad H.size h0 h1 (v0) (v1) (v2) (v3) (v4) (v5) (v6) (v7) (v8) (v9) (v10) (v11) (v12) (v13) (v14) (v15) (v16) (v17) p0) (cwV 1 hts gX10_real_X10_needSurveyor rfl rfl rfl (by decide +kernel) ⟨Nat.le_of_ble_eq_true rfl, Nat.le_of_ble_eq_true rfl⟩) ⟨PC_.blind, va_recv hK hP (ci := 13) (q0 := 0) rfl rfl, PC_.pre hF hK hP hD hS hA [0, 1] [] rfl (by decide) rfl⟩ rfl rfl hl.1 rfl (lv_room (Nat.le_of_ble_eq_true rfl)) dX10_real_2 ⟨Nat.le_of_ble_eq_true rfl, Nat.le_of_ble_eq_true rfl⟩) hD hS hA [0, 1] rfl (fun ce q9 H locs hS hce hvm hcl => ?_)
  exact vx_out (E := "java/lang/IndexOutOfBoundsException") (fun x9 hx9 => (htab x9 hx9).elim) hlocks hce hvm hcl (fun t9 ht9 _ => ⟨rfl, hS.F ht9⟩) hS.2.2 (Nat.le_of_ble_eq_true rfl) (Nat.le_of_ble_eq_true rfl)
set_option maxHeartbeats 4000000 in
set_option maxRecDepth 100000 in
theorem c_L_real_0 (l : Launch) (hl0 : l.stackTraces = false) (D : va_G) (ad : Nat → Nat) (sz : Nat) (h0 : Nat) (h1 : Nat) (r0 : Nat) (v0 : Value) (v1 : Value) (v2 : Value) (v3 : Value) (v4 : Value) (v5 : Value) (v6 : Value) (v7 : Value) (v8 : Value) (v9 : Value) (v10 : Value) (v11 : Value) (v12 : Value) (v13 : Value) (v14 : Value) (v15 : Value) (v16 : Value) (v17 : Value) (p0 : Int32) (p1 : Int32) : Met l yL_real wsL_real ({ frames := 8, cells := 1, slots := 6, locals := 147 }) (PC_ D ad [(h0, .inr (13, [.ref h1, v0, v1, v2, v3, v4, v5, v6, v7, v8])), (h1, .inr (11, [v9, v10, v11, v12, v13, .int 0, v14, v15, v16, v17]))] [] sz [.ref h0, .int p0, .int p1, .ref r0]) (QG_ D (fun q i => some (.int 1)) (fun q i => True) (fun q k i => []) (fun q k i => []) (va_A [(h0, .inr (13, [.ref h1, v0, v1, v2, v3, v4, v5, v6, v7, v8])), (h1, .inr (11, [v9, v10, v11, v12, v13, .int 0, v14, v15, v16, v17]))] sz)) 1 6 (va_A [(h0, .inr (13, [.ref h1, v0, v1, v2, v3, v4, v5, v6, v7, v8])), (h1, .inr (11, [v9, v10, v11, v12, v13, .int 0, v14, v15, v16, v17]))] sz) := by
  refine va_MetW (cc := cL_real) (maxL := 5) (ret := (some .int)) (by decide) rfl ?_
  intro p e s m args below meth c s₁ B hml hv
  obtain ⟨rfl, hsz, hP, hK, hD0, hF⟩ := hv
  have hx := B.exec
  have hb := B.bytes
  have hr := B.returns
  have hts := atoms_spec (ws := wsL_real) B.pre
  have hown : s.vm.findClass RL = some m.cls := findClass_of_methodNamed B.named
  have hlocks := B.notSynchronized
  have htb := vx_table B (hts _ (List.mem_cons_self))
  subst hsz
  have hD := hD0.self (sz := s.heap.size)
  generalize hAe : va_A [(h0, .inr (13, [.ref h1, v0, v1, v2, v3, v4, v5, v6, v7, v8])), (h1, .inr (11, [v9, v10, v11, v12, v13, .int 0, v14, v15, v16, v17]))] s.heap.size = A at hD hF ⊢
  have hA : ∀ q : Nat, s.heap.size ≤ q → A q := fun q h => by rw [← hAe]; exact Or.inr h
  obtain ⟨H, hHe⟩ : ∃ H : Heap, H = s.heap := ⟨_, rfl⟩
  have hS : va_S A s.heap H [] := by rw [hHe]; exact va_S.rf
  have hP : va_P D vwCl [(h0, .inr (13, [.ref h1, v0, v1, v2, v3, v4, v5, v6, v7, v8])), (h1, .inr (11, [v9, v10, v11, v12, v13, .int 0, v14, v15, v16, v17]))] H := by rw [hHe]; exact hP
  rw [← hHe]
  have hi_X10 : ∀ w ∈ wsX100, w ∈ wsL_real := by decide +kernel
  have hi_X8 : ∀ w ∈ wsX80, w ∈ wsL_real := by decide +kernel
  have hl := lv_entry [.ref h0, .int p0, .int p1, .ref r0] (n := 5) (Nat.le_of_ble_eq_true rfl)
  rw [lg_entry_eq]
  generalize (lg_sl [.ref h0, .int p0, .int p1, .ref r0] ++ List.replicate (5 - (lg_sl [.ref h0, .int p0, .int p1, .ref r0]).length) Slot.unset).toArray = ls at hl ⊢
  have hl : lv_has ls 5 [(0, .ref h0), (1, .int p0), (2, .int p1), (3, .ref r0)] := hl
  refine lv_aload_n hx hb dL_real_0 rfl (lv_at hl 3 rfl) ?_
  refine lv_iconst (v := 0) hx hb dL_real_1 (by decide) ?_
  refine lv_aload_n hx hb dL_real_2 rfl (lv_at hl 0 rfl) ?_
  refine lv_iload_n hx hb dL_real_3 rfl (lv_at hl 1 rfl) ?_
  refine lv_iload_n hx hb dL_real_4 rfl (lv_at hl 2 rfl) ?_
  refine kx_ (E0 := "java/lang/IndexOutOfBoundsException") (wc := [(h0, .inr (13, [.ref h1, v0, v1, v2, v3, v4, v5, v6, v7, v8])), (h1, .inr (11, [v9, v10, v11, v12, v13, .int 0, v14, v15, v16, v17]))]) (vx_runV (As := [.int p0, .int p1]) (rest := [.int 0, .ref r0]) ⟨hx, hb, hml, hown, hts⟩ (c_X10_real_0 l hl0 D ad H.size h0 h1 (v0) (v1) (v2) (v3) (v4) (v5) (v6) (v7) (v8) (v9) (v10) (v11) (v12) (v13) (v14) (v15) (v16) (v17) p0 p1) (cwV 2 hts gL_real_X10_real rfl rfl rfl (by decide +kernel) ⟨Nat.le_of_ble_eq_true rfl, Nat.le_of_ble_eq_true rfl⟩) ⟨PC_.blind, va_recv hK hP (ci := 13) (q0 := 0) rfl rfl, PC_.pre hF hK hP hD hS hA [0, 1] [] rfl (by decide) rfl⟩ rfl rfl hl.1 rfl (lv_room (Nat.le_of_ble_eq_true rfl)) dL_real_5 ⟨Nat.le_of_ble_eq_true rfl, Nat.le_of_ble_eq_true rfl⟩) hD hS hA [0, 1] rfl (fun ce q9 H locs hS hce hvm hcl => ?_)
  refine vx_catch (own := RL) (name := "java/lang/IndexOutOfBoundsException") (E := "java/lang/IndexOutOfBoundsException") hown [] (⟨0, 10, 13, 36⟩ : ExceptionTableEntry) [(⟨0, 10, 17, 43⟩ : ExceptionTableEntry)] (htb.trans rfl) (fun z hz => by cases hz) (by decide) (by decide) (hts (.classLink RL 36 "java/lang/IndexOutOfBoundsException") (List.mem_of_getElem? (i := 1) (by decide +kernel))) (fxk_ hF "java/lang/IndexOutOfBoundsException" "java/lang/IndexOutOfBoundsException") hce hvm hcl ?_
  have hP : va_P D vwCl [] H := fun k q h => by simp at h
  have hD : va_D A [] := ⟨fun i j p q h => by simp at h, fun k q h => by simp at h⟩
  have hK : va_K D vwCl [] s := ⟨hK.1, fun k q h => by simp at h⟩
  refine W.eq (g2 := F0 m 13 ls [.ref q9]) rfl ?_
  refine lv_astore (lv' := [(4, .ref q9), (0, .ref h0), (1, .int p0), (2, .int p1), (3, .ref r0)]) hx hb dL_real_13 hl (by decide) rfl (fun ls hl => ?_)
  refine lv_iconst (v := 1) hx hb dL_real_15 (by decide) ?_
  refine W.widen (k := 1) (n := 6) (Nat.le_of_ble_eq_true rfl) (Nat.le_of_ble_eq_true rfl) ?_
  exact W.iret (v := 1) hx hb hr (QG_.mk (fun _ => 0) (fun _ => 0) (fun _ => 0) [] [] hP hD hK hS rfl trivial rfl (by decide) rfl) hS.2.2 dL_real_16
set_option maxHeartbeats 4000000 in
set_option maxRecDepth 100000 in
theorem c_X11_tellsFar_1 (l : Launch) (hl0 : l.stackTraces = false) (D : va_G) (ad : Nat → Nat) (sz : Nat) (h0 : Nat) (h1 : Nat) (k1 : ClassId) (v0 : Value) (v1 : Value) (v2 : Value) (v3 : Value) (v4 : Value) (v5 : Value) (v6 : Value) (v7 : Value) (v8 : Value) (v9 : Value) (v10 : Value) (v11 : Value) (v12 : Value) (v13 : Value) (v14 : Value) (v15 : Value) (v16 : Value) (v17 : Value) (v18 : Value) (v19 : Value) (v20 : Value) (v21 : Value) (v22 : Value) (v23 : Value) (p0 : Int32) (p1 : Int32) : Met l yX11_tellsFar wsX11_tellsFar ({ frames := 2, cells := 0, slots := 0, locals := 47 }) (PC_ D ad [(h0, .inr (14, [.ref h1, v0, v1, v2, v3, v4, v5, v6, v7, v8, v9, v10, v11, v12, v13, v14, v15, v16, v17, v18, v19, v20, v21, v22, v23])), (h1, .inl (k1, 8277, .inl (fun _ => 0)))] [(k1, .int)] sz [.ref h0, .int (-1), .int p0, .int p1]) (QG_ D (fun q i => some (.int 0)) (fun q i => True) (fun q k i => [(h0, .inr (14, [.ref h1, v0, v1, v2, v3, v4, v5, v6, v7, v8, v9, v10, v11, v12, v13, v14, v15, v16, v17, v18, v19, v20, v21, .int 1, v23])), (h1, .inl (k1, 8277, .inl (fun _ => 0)))]) (fun q k i => [(k1, .int)]) (va_A [(h0, .inr (14, [.ref h1, v0, v1, v2, v3, v4, v5, v6, v7, v8, v9, v10, v11, v12, v13, v14, v15, v16, v17, v18, v19, v20, v21, v22, v23])), (h1, .inl (k1, 8277, .inl (fun _ => 0)))] sz)) 0 0 (va_A [(h0, .inr (14, [.ref h1, v0, v1, v2, v3, v4, v5, v6, v7, v8, v9, v10, v11, v12, v13, v14, v15, v16, v17, v18, v19, v20, v21, v22, v23])), (h1, .inl (k1, 8277, .inl (fun _ => 0)))] sz) := by
  refine Met.ofW (cc := cX11_tellsFar) (maxL := 4) (ret := (some .int)) (by decide) rfl ?_
  intro p e s m args below meth c s₁ B hml hv
  obtain ⟨rfl, hsz, hP, hK, hD0, hF⟩ := hv
  have hx := B.exec
  have hb := B.bytes
  have hr := B.returns
  have hts := atoms_spec (ws := wsX11_tellsFar) B.pre
  have hown : s.vm.findClass RX11 = some m.cls := findClass_of_methodNamed B.named
  have hlocks := B.notSynchronized
  subst hsz
  have hD := hD0.self (sz := s.heap.size)
  generalize hAe : va_A [(h0, .inr (14, [.ref h1, v0, v1, v2, v3, v4, v5, v6, v7, v8, v9, v10, v11, v12, v13, v14, v15, v16, v17, v18, v19, v20, v21, v22, v23])), (h1, .inl (k1, 8277, .inl (fun _ => 0)))] s.heap.size = A at hD hF ⊢
  have hA : ∀ q : Nat, s.heap.size ≤ q → A q := fun q h => by rw [← hAe]; exact Or.inr h
  obtain ⟨H, hHe⟩ : ∃ H : Heap, H = s.heap := ⟨_, rfl⟩
  have hS : va_S A s.heap H [] := by rw [hHe]; exact va_S.rf
  have hP : va_P D vwCl [(h0, .inr (14, [.ref h1, v0, v1, v2, v3, v4, v5, v6, v7, v8, v9, v10, v11, v12, v13, v14, v15, v16, v17, v18, v19, v20, v21, v22, v23])), (h1, .inl (k1, 8277, .inl (fun _ => 0)))] H := by rw [hHe]; exact hP
  rw [← hHe]
  have hi_X11 : ∀ w ∈ wsX110, w ∈ wsX11_tellsFar := by decide +kernel
  have hl := lv_entry [.ref h0, .int (-1), .int p0, .int p1] (n := 4) (Nat.le_of_ble_eq_true rfl)
  rw [lg_entry_eq]
  generalize (lg_sl [.ref h0, .int (-1), .int p0, .int p1] ++ List.replicate (4 - (lg_sl [.ref h0, .int (-1), .int p0, .int p1]).length) Slot.unset).toArray = ls at hl ⊢
  have hl : lv_has ls 4 [(0, .ref h0), (1, .int (-1)), (2, .int p0), (3, .int p1)] := hl
  refine lv_aload_n hx hb dX11_tellsFar_0 rfl (lv_at hl 0 rfl) ?_
  refine lv_iconst (v := 0) hx hb dX11_tellsFar_1 (by decide) ?_
  refine va_put (D := D) (ci := 14) (v := .int 0) (ty := .int) (own := RX11) (C := RX11) (T := TX11) (N := 25) hx hb hts hi_X11 tyX11 tyX11_ok nmX11 hown hK hP hD hS 0 rfl rfl 23 (by decide) (hts (.fieldLink RX11 47 "CanalMapsModel" "thrown" "I") (List.mem_of_getElem? (i := 1) (by decide +kernel))) (fun _ h9 => h9) rfl (by decide +kernel) rfl rfl (Nat.le_of_ble_eq_true rfl) dX11_tellsFar_2 (fun H locs hP hD hS => ?_)
  have hP : va_P D vwCl [(h0, .inr (14, [.ref h1, v0, v1, v2, v3, v4, v5, v6, v7, v8, v9, v10, v11, v12, v13, v14, v15, v16, v17, v18, v19, v20, v21, .int 0, v23])), (h1, .inl (k1, 8277, .inl (fun _ => 0)))] H := hP
  have hD : va_D A [(h0, .inr (14, [.ref h1, v0, v1, v2, v3, v4, v5, v6, v7, v8, v9, v10, v11, v12, v13, v14, v15, v16, v17, v18, v19, v20, v21, .int 0, v23])), (h1, .inl (k1, 8277, .inl (fun _ => 0)))] := hD
  refine lv_aload_n hx hb dX11_tellsFar_5 rfl (lv_at hl 0 rfl) ?_
  refine lv_iload_n hx hb dX11_tellsFar_6 rfl (lv_at hl 2 rfl) ?_
  refine kc_ (wc := [(h0, .inr (14, [.ref h1, v0, v1, v2, v3, v4, v5, v6, v7, v8, v9, v10, v11, v12, v13, v14, v15, v16, v17, v18, v19, v20, v21, .int 0, v23])), (h1, .inl (k1, 8277, .inl (fun _ => 0)))]) (wr := []) (va_runV (As := [.int p0]) (rest := []) ⟨hx, hb, hml, hown, hts⟩ (c_X11_isOne_0 l hl0 D ad H.size h0 h1 k1 (v0) (v1) (v2) (v3) (v4) (v5) (v6) (v7) (v8) (v9) (v10) (v11) (v12) (v13) (v14) (v15) (v16) (v17) (v18) (v19) (v20) (v21) (.int 0) (v23) p0) (cwV 1 hts gX11_tellsFar_X11_isOne rfl rfl rfl (by decide +kernel) ⟨Nat.le_of_ble_eq_true rfl, Nat.le_of_ble_eq_true rfl⟩) ⟨PC_.blind, va_recv hK hP (ci := 14) (q0 := 0) rfl rfl, PC_.pre hF hK hP hD hS hA [0, 1] [0] rfl (by decide) rfl⟩ rfl rfl hl.1 rfl (lv_room (Nat.le_of_ble_eq_true rfl)) dX11_tellsFar_7 ⟨Nat.le_of_ble_eq_true rfl, Nat.le_of_ble_eq_true rfl⟩) hK hP hD hS hA [0, 1] [] [] rfl rfl (by decide) (by decide) rfl (fun qa_1 ka_1 ia_1 H locs hpo hP hD hK hS => ?_)
  have hP : va_P D vwCl [(h0, .inr (14, [.ref h1, v0, v1, v2, v3, v4, v5, v6, v7, v8, v9, v10, v11, v12, v13, v14, v15, v16, v17, v18, v19, v20, v21, .int 0, v23])), (h1, .inl (k1, 8277, .inl (fun _ => 0)))] H := hP
  have hD : va_D A [(h0, .inr (14, [.ref h1, v0, v1, v2, v3, v4, v5, v6, v7, v8, v9, v10, v11, v12, v13, v14, v15, v16, v17, v18, v19, v20, v21, .int 0, v23])), (h1, .inl (k1, 8277, .inl (fun _ => 0)))] := hD
  have hK : va_K D vwCl [(k1, .int)] s := hK
  refine W.eq (g2 := F0 m 10 ls [.int 0]) rfl ?_
  refine lv_if_eq (tgt := 21) hx hb dX11_tellsFar_10 (by decide) (fun _ => ?_) (fun c9 => absurd (by decide +kernel) c9)
  refine lv_aload_n hx hb dX11_tellsFar_21 rfl (lv_at hl 0 rfl) ?_
  refine lv_iconst (v := 1) hx hb dX11_tellsFar_22 (by decide) ?_
  refine kc_ (wc := [(h0, .inr (14, [.ref h1, v0, v1, v2, v3, v4, v5, v6, v7, v8, v9, v10, v11, v12, v13, v14, v15, v16, v17, v18, v19, v20, v21, .int 0, v23]))]) (wr := [(h1, .inl (k1, 8277, .inl (fun _ => 0)))]) (va_runV (As := [.int 1]) (rest := []) ⟨hx, hb, hml, hown, hts⟩ (c_X11_raises_0 l hl0 D ad H.size h0 (.ref h1) (v0) (v1) (v2) (v3) (v4) (v5) (v6) (v7) (v8) (v9) (v10) (v11) (v12) (v13) (v14) (v15) (v16) (v17) (v18) (v19) (v20) (v21) (.int 0) (v23)) (cwV 1 hts gX11_tellsFar_X11_raises rfl rfl rfl (by decide +kernel) ⟨Nat.le_of_ble_eq_true rfl, Nat.le_of_ble_eq_true rfl⟩) ⟨PC_.blind, va_recv hK hP (ci := 14) (q0 := 0) rfl rfl, PC_.pre hF hK hP hD hS hA [0] [] rfl (by decide) rfl⟩ rfl rfl hl.1 rfl (lv_room (Nat.le_of_ble_eq_true rfl)) dX11_tellsFar_23 ⟨Nat.le_of_ble_eq_true rfl, Nat.le_of_ble_eq_true rfl⟩) hK hP hD hS hA [0] [1] [0] rfl rfl (by decide) (by decide) rfl (fun qa_2 ka_2 ia_2 H locs hpo hP hD hK hS => ?_)
  have hP : va_P D vwCl [(h1, .inl (k1, 8277, .inl (fun _ => 0))), (h0, .inr (14, [.ref h1, v0, v1, v2, v3, v4, v5, v6, v7, v8, v9, v10, v11, v12, v13, v14, v15, v16, v17, v18, v19, v20, v21, .int 1, v23]))] H := hP
  have hD : va_D A [(h1, .inl (k1, 8277, .inl (fun _ => 0))), (h0, .inr (14, [.ref h1, v0, v1, v2, v3, v4, v5, v6, v7, v8, v9, v10, v11, v12, v13, v14, v15, v16, v17, v18, v19, v20, v21, .int 1, v23]))] := hD
  have hK : va_K D vwCl [(k1, .int)] s := hK
  refine W.eq (g2 := F0 m 26 ls [.int 0]) rfl ?_
  refine W.widen (k := 0) (n := 0) (Nat.le_of_ble_eq_true rfl) (Nat.le_of_ble_eq_true rfl) ?_
  exact W.iret (v := 0) hx hb hr (QG_.mk (fun _ => 0) (fun _ => 0) (fun _ => 0) [1, 0] [0] hP hD hK hS rfl trivial rfl (by decide) rfl) hS.2.2 dX11_tellsFar_26
set_option maxHeartbeats 4000000 in
set_option maxRecDepth 100000 in
theorem c_X11_real_0 (l : Launch) (hl0 : l.stackTraces = false) (D : va_G) (ad : Nat → Nat) (sz : Nat) (h0 : Nat) (h1 : Nat) (k1 : ClassId) (v0 : Value) (v1 : Value) (v2 : Value) (v3 : Value) (v4 : Value) (v5 : Value) (v6 : Value) (v7 : Value) (v8 : Value) (v9 : Value) (v10 : Value) (v11 : Value) (v12 : Value) (v13 : Value) (v14 : Value) (v15 : Value) (v16 : Value) (v17 : Value) (v18 : Value) (v19 : Value) (v20 : Value) (v21 : Value) (v22 : Value) (v23 : Value) (p0 : Int32) (p1 : Int32) : Met l yX11_real wsX11_real ({ frames := 3, cells := 0, slots := 0, locals := 72 }) (PC_ D ad [(h0, .inr (14, [.ref h1, v0, v1, v2, v3, v4, v5, v6, v7, v8, v9, v10, v11, v12, v13, v14, v15, v16, v17, v18, v19, v20, v21, v22, v23])), (h1, .inl (k1, 8277, .inl (fun _ => 0)))] [(k1, .int)] sz [.ref h0, .int p0, .int p1]) (QG_ D (fun q i => some (.int 0)) (fun q i => True) (fun q k i => [(h0, .inr (14, [.ref h1, v0, v1, v2, v3, v4, v5, v6, v7, v8, v9, v10, v11, v12, v13, v14, v15, v16, v17, v18, v19, v20, v21, .int 1, v23])), (h1, .inl (k1, 8277, .inl (fun _ => 0)))]) (fun q k i => [(k1, .int)]) (va_A [(h0, .inr (14, [.ref h1, v0, v1, v2, v3, v4, v5, v6, v7, v8, v9, v10, v11, v12, v13, v14, v15, v16, v17, v18, v19, v20, v21, v22, v23])), (h1, .inl (k1, 8277, .inl (fun _ => 0)))] sz)) 0 0 (va_A [(h0, .inr (14, [.ref h1, v0, v1, v2, v3, v4, v5, v6, v7, v8, v9, v10, v11, v12, v13, v14, v15, v16, v17, v18, v19, v20, v21, v22, v23])), (h1, .inl (k1, 8277, .inl (fun _ => 0)))] sz) := by
  refine Met.ofW (cc := cX11_real) (maxL := 3) (ret := (some .int)) (by decide) rfl ?_
  intro p e s m args below meth c s₁ B hml hv
  obtain ⟨rfl, hsz, hP, hK, hD0, hF⟩ := hv
  have hx := B.exec
  have hb := B.bytes
  have hr := B.returns
  have hts := atoms_spec (ws := wsX11_real) B.pre
  have hown : s.vm.findClass RX11 = some m.cls := findClass_of_methodNamed B.named
  have hlocks := B.notSynchronized
  subst hsz
  have hD := hD0.self (sz := s.heap.size)
  generalize hAe : va_A [(h0, .inr (14, [.ref h1, v0, v1, v2, v3, v4, v5, v6, v7, v8, v9, v10, v11, v12, v13, v14, v15, v16, v17, v18, v19, v20, v21, v22, v23])), (h1, .inl (k1, 8277, .inl (fun _ => 0)))] s.heap.size = A at hD hF ⊢
  have hA : ∀ q : Nat, s.heap.size ≤ q → A q := fun q h => by rw [← hAe]; exact Or.inr h
  obtain ⟨H, hHe⟩ : ∃ H : Heap, H = s.heap := ⟨_, rfl⟩
  have hS : va_S A s.heap H [] := by rw [hHe]; exact va_S.rf
  have hP : va_P D vwCl [(h0, .inr (14, [.ref h1, v0, v1, v2, v3, v4, v5, v6, v7, v8, v9, v10, v11, v12, v13, v14, v15, v16, v17, v18, v19, v20, v21, v22, v23])), (h1, .inl (k1, 8277, .inl (fun _ => 0)))] H := by rw [hHe]; exact hP
  rw [← hHe]
  have hi_X11 : ∀ w ∈ wsX110, w ∈ wsX11_real := by decide +kernel
  have hl := lv_entry [.ref h0, .int p0, .int p1] (n := 3) (Nat.le_of_ble_eq_true rfl)
  rw [lg_entry_eq]
  generalize (lg_sl [.ref h0, .int p0, .int p1] ++ List.replicate (3 - (lg_sl [.ref h0, .int p0, .int p1]).length) Slot.unset).toArray = ls at hl ⊢
  have hl : lv_has ls 3 [(0, .ref h0), (1, .int p0), (2, .int p1)] := hl
  refine lv_aload_n hx hb dX11_real_0 rfl (lv_at hl 0 rfl) ?_
  refine lv_iconst (v := (-1)) hx hb dX11_real_1 (by decide) ?_
  refine lv_iload_n hx hb dX11_real_2 rfl (lv_at hl 1 rfl) ?_
  refine lv_iload_n hx hb dX11_real_3 rfl (lv_at hl 2 rfl) ?_
  refine kc_ (wc := [(h0, .inr (14, [.ref h1, v0, v1, v2, v3, v4, v5, v6, v7, v8, v9, v10, v11, v12, v13, v14, v15, v16, v17, v18, v19, v20, v21, v22, v23])), (h1, .inl (k1, 8277, .inl (fun _ => 0)))]) (wr := []) (va_runV (As := [.int (-1), .int p0, .int p1]) (rest := []) ⟨hx, hb, hml, hown, hts⟩ (c_X11_tellsFar_1 l hl0 D ad H.size h0 h1 k1 (v0) (v1) (v2) (v3) (v4) (v5) (v6) (v7) (v8) (v9) (v10) (v11) (v12) (v13) (v14) (v15) (v16) (v17) (v18) (v19) (v20) (v21) (v22) (v23) p0 p1) (cwV 3 hts gX11_real_X11_tellsFar rfl rfl rfl (by decide +kernel) ⟨Nat.le_of_ble_eq_true rfl, Nat.le_of_ble_eq_true rfl⟩) ⟨PC_.blind, va_recv hK hP (ci := 14) (q0 := 0) rfl rfl, PC_.pre hF hK hP hD hS hA [0, 1] [0] rfl (by decide) rfl⟩ rfl rfl hl.1 rfl (lv_room (Nat.le_of_ble_eq_true rfl)) dX11_real_4 ⟨Nat.le_of_ble_eq_true rfl, Nat.le_of_ble_eq_true rfl⟩) hK hP hD hS hA [0, 1] [] [] rfl rfl (by decide) (by decide) rfl (fun qa_1 ka_1 ia_1 H locs hpo hP hD hK hS => ?_)
  have hP : va_P D vwCl [(h0, .inr (14, [.ref h1, v0, v1, v2, v3, v4, v5, v6, v7, v8, v9, v10, v11, v12, v13, v14, v15, v16, v17, v18, v19, v20, v21, .int 1, v23])), (h1, .inl (k1, 8277, .inl (fun _ => 0)))] H := hP
  have hD : va_D A [(h0, .inr (14, [.ref h1, v0, v1, v2, v3, v4, v5, v6, v7, v8, v9, v10, v11, v12, v13, v14, v15, v16, v17, v18, v19, v20, v21, .int 1, v23])), (h1, .inl (k1, 8277, .inl (fun _ => 0)))] := hD
  have hK : va_K D vwCl [(k1, .int)] s := hK
  refine W.eq (g2 := F0 m 7 ls [.int 0]) rfl ?_
  refine W.widen (k := 0) (n := 0) (Nat.le_of_ble_eq_true rfl) (Nat.le_of_ble_eq_true rfl) ?_
  exact W.iret (v := 0) hx hb hr (QG_.mk (fun _ => 0) (fun _ => 0) (fun _ => 0) [0, 1] [0] hP hD hK hS rfl trivial rfl (by decide) rfl) hS.2.2 dX11_real_7
set_option maxHeartbeats 4000000 in
set_option maxRecDepth 100000 in
theorem c_X10_isRight_0 (l : Launch) (hl0 : l.stackTraces = false) (D : va_G) (ad : Nat → Nat) (sz : Nat) (h0 : Nat) (h1 : Nat) (v0 : Value) (v1 : Value) (v2 : Value) (v3 : Value) (v4 : Value) (v5 : Value) (v6 : Value) (v7 : Value) (v8 : Value) (v9 : Value) (v10 : Value) (v11 : Value) (v12 : Value) (v13 : Value) (v14 : Value) (v15 : Value) (v16 : Value) (v17 : Value) (p0 : Int32) : vx_Met l yX10_isRight wsX10_isRight ({ frames := 7, cells := 1, slots := 6, locals := 123 }) (PC_ D ad [(h0, .inr (13, [.ref h1, v0, v1, v2, v3, v4, v5, v6, v7, v8])), (h1, .inr (11, [v9, v10, v11, v12, v13, .int 0, v14, v15, v16, v17]))] [] sz [.ref h0, .int p0]) QN_ (XT_ "java/lang/IndexOutOfBoundsException" (va_A [(h0, .inr (13, [.ref h1, v0, v1, v2, v3, v4, v5, v6, v7, v8])), (h1, .inr (11, [v9, v10, v11, v12, v13, .int 0, v14, v15, v16, v17]))] sz)) 1 6 (va_A [(h0, .inr (13, [.ref h1, v0, v1, v2, v3, v4, v5, v6, v7, v8])), (h1, .inr (11, [v9, v10, v11, v12, v13, .int 0, v14, v15, v16, v17]))] sz) := by
  refine vx_ofW (cc := cX10_isRight) (maxL := 4) (ret := (some .boolean)) (by decide) rfl ?_
  intro p e s m args below meth c s₁ B hml htab hv
  obtain ⟨rfl, hsz, hP, hK, hD0, hF⟩ := hv
  have hx := B.exec
  have hb := B.bytes
  have hr := B.returns
  have hts := atoms_spec (ws := wsX10_isRight) B.pre
  have hown : s.vm.findClass RX10 = some m.cls := findClass_of_methodNamed B.named
  have hlocks := B.notSynchronized
  subst hsz
  have hD := hD0.self (sz := s.heap.size)
  generalize hAe : va_A [(h0, .inr (13, [.ref h1, v0, v1, v2, v3, v4, v5, v6, v7, v8])), (h1, .inr (11, [v9, v10, v11, v12, v13, .int 0, v14, v15, v16, v17]))] s.heap.size = A at hD hF ⊢
  have hA : ∀ q : Nat, s.heap.size ≤ q → A q := fun q h => by rw [← hAe]; exact Or.inr h
  obtain ⟨H, hHe⟩ : ∃ H : Heap, H = s.heap := ⟨_, rfl⟩
  have hS : va_S A s.heap H [] := by rw [hHe]; exact va_S.rf
  have hP : va_P D vwCl [(h0, .inr (13, [.ref h1, v0, v1, v2, v3, v4, v5, v6, v7, v8])), (h1, .inr (11, [v9, v10, v11, v12, v13, .int 0, v14, v15, v16, v17]))] H := by rw [hHe]; exact hP
  rw [← hHe]
  have hi_X10 : ∀ w ∈ wsX100, w ∈ wsX10_isRight := by decide +kernel
  have hi_X8 : ∀ w ∈ wsX80, w ∈ wsX10_isRight := by decide +kernel
  have hl := lv_entry [.ref h0, .int p0] (n := 4) (Nat.le_of_ble_eq_true rfl)
  rw [lg_entry_eq]
  generalize (lg_sl [.ref h0, .int p0] ++ List.replicate (4 - (lg_sl [.ref h0, .int p0]).length) Slot.unset).toArray = ls at hl ⊢
  have hl : lv_has ls 4 [(0, .ref h0), (1, .int p0)] := hl
  refine lv_aload_n hx hb dX10_isRight_0 rfl (lv_at hl 0 rfl) ?_
  refine lv_iload_n hx hb dX10_isRight_1 rfl (lv_at hl 1 rfl) ?_
  refine kx_ (E0 := "java/lang/IndexOutOfBoundsException") (wc := [(h0, .inr (13, [.ref h1, v0, v1, v2, v3, v4, v5, v6, v7, v8])), (h1, .inr (11, [v9, v10, v11, v12, v13, .int 0, v14, v15, v16, v17]))]) (vx_runV (As := [.int p0]) (rest := []) ⟨hx, hb, hml, hown, hts⟩ (c_X10_needSurveyor_0 l hl0 D ad H.size h0 h1 (v0) (v1) (v2) (v3) (v4) (v5) (v6) (v7) (v8) (v9) (v10) (v11) (v12) (v13) (v14) (v15) (v16) (v17) p0) (cwV 1 hts gX10_isRight_X10_needSurveyor rfl rfl rfl (by decide +kernel) ⟨Nat.le_of_ble_eq_true rfl, Nat.le_of_ble_eq_true rfl⟩) ⟨PC_.blind, va_recv hK hP (ci := 13) (q0 := 0) rfl rfl, PC_.pre hF hK hP hD hS hA [0, 1] [] rfl (by decide) rfl⟩ rfl rfl hl.1 rfl (lv_room (Nat.le_of_ble_eq_true rfl)) dX10_isRight_2 ⟨Nat.le_of_ble_eq_true rfl, Nat.le_of_ble_eq_true rfl⟩) hD hS hA [0, 1] rfl (fun ce q9 H locs hS hce hvm hcl => ?_)
  exact vx_out (E := "java/lang/IndexOutOfBoundsException") (fun x9 hx9 => (htab x9 hx9).elim) hlocks hce hvm hcl (fun t9 ht9 _ => ⟨rfl, hS.F ht9⟩) hS.2.2 (Nat.le_of_ble_eq_true rfl) (Nat.le_of_ble_eq_true rfl)
set_option maxHeartbeats 4000000 in
set_option maxRecDepth 100000 in
theorem c_L_isRight_0 (l : Launch) (hl0 : l.stackTraces = false) (D : va_G) (ad : Nat → Nat) (sz : Nat) (h0 : Nat) (h1 : Nat) (r0 : Nat) (v0 : Value) (v1 : Value) (v2 : Value) (v3 : Value) (v4 : Value) (v5 : Value) (v6 : Value) (v7 : Value) (v8 : Value) (v9 : Value) (v10 : Value) (v11 : Value) (v12 : Value) (v13 : Value) (v14 : Value) (v15 : Value) (v16 : Value) (v17 : Value) (p0 : Int32) : Met l yL_isRight wsL_isRight ({ frames := 8, cells := 1, slots := 6, locals := 148 }) (PC_ D ad [(h0, .inr (13, [.ref h1, v0, v1, v2, v3, v4, v5, v6, v7, v8])), (h1, .inr (11, [v9, v10, v11, v12, v13, .int 0, v14, v15, v16, v17]))] [] sz [.ref h0, .int p0, .ref r0]) (QG_ D (fun q i => some (.int 1)) (fun q i => True) (fun q k i => []) (fun q k i => []) (va_A [(h0, .inr (13, [.ref h1, v0, v1, v2, v3, v4, v5, v6, v7, v8])), (h1, .inr (11, [v9, v10, v11, v12, v13, .int 0, v14, v15, v16, v17]))] sz)) 1 6 (va_A [(h0, .inr (13, [.ref h1, v0, v1, v2, v3, v4, v5, v6, v7, v8])), (h1, .inr (11, [v9, v10, v11, v12, v13, .int 0, v14, v15, v16, v17]))] sz) := by
  refine va_MetW (cc := cL_isRight) (maxL := 4) (ret := (some .int)) (by decide) rfl ?_
  intro p e s m args below meth c s₁ B hml hv
  obtain ⟨rfl, hsz, hP, hK, hD0, hF⟩ := hv
  have hx := B.exec
  have hb := B.bytes
  have hr := B.returns
  have hts := atoms_spec (ws := wsL_isRight) B.pre
  have hown : s.vm.findClass RL = some m.cls := findClass_of_methodNamed B.named
  have hlocks := B.notSynchronized
  have htb := vx_table B (hts _ (List.mem_cons_self))
  subst hsz
  have hD := hD0.self (sz := s.heap.size)
  generalize hAe : va_A [(h0, .inr (13, [.ref h1, v0, v1, v2, v3, v4, v5, v6, v7, v8])), (h1, .inr (11, [v9, v10, v11, v12, v13, .int 0, v14, v15, v16, v17]))] s.heap.size = A at hD hF ⊢
  have hA : ∀ q : Nat, s.heap.size ≤ q → A q := fun q h => by rw [← hAe]; exact Or.inr h
  obtain ⟨H, hHe⟩ : ∃ H : Heap, H = s.heap := ⟨_, rfl⟩
  have hS : va_S A s.heap H [] := by rw [hHe]; exact va_S.rf
  have hP : va_P D vwCl [(h0, .inr (13, [.ref h1, v0, v1, v2, v3, v4, v5, v6, v7, v8])), (h1, .inr (11, [v9, v10, v11, v12, v13, .int 0, v14, v15, v16, v17]))] H := by rw [hHe]; exact hP
  rw [← hHe]
  have hi_X10 : ∀ w ∈ wsX100, w ∈ wsL_isRight := by decide +kernel
  have hi_X8 : ∀ w ∈ wsX80, w ∈ wsL_isRight := by decide +kernel
  have hl := lv_entry [.ref h0, .int p0, .ref r0] (n := 4) (Nat.le_of_ble_eq_true rfl)
  rw [lg_entry_eq]
  generalize (lg_sl [.ref h0, .int p0, .ref r0] ++ List.replicate (4 - (lg_sl [.ref h0, .int p0, .ref r0]).length) Slot.unset).toArray = ls at hl ⊢
  have hl : lv_has ls 4 [(0, .ref h0), (1, .int p0), (2, .ref r0)] := hl
  refine lv_aload_n hx hb dL_isRight_0 rfl (lv_at hl 2 rfl) ?_
  refine lv_iconst (v := 0) hx hb dL_isRight_1 (by decide) ?_
  refine lv_aload_n hx hb dL_isRight_2 rfl (lv_at hl 0 rfl) ?_
  refine lv_iload_n hx hb dL_isRight_3 rfl (lv_at hl 1 rfl) ?_
  refine kx_ (E0 := "java/lang/IndexOutOfBoundsException") (wc := [(h0, .inr (13, [.ref h1, v0, v1, v2, v3, v4, v5, v6, v7, v8])), (h1, .inr (11, [v9, v10, v11, v12, v13, .int 0, v14, v15, v16, v17]))]) (vx_runV (As := [.int p0]) (rest := [.int 0, .ref r0]) ⟨hx, hb, hml, hown, hts⟩ (c_X10_isRight_0 l hl0 D ad H.size h0 h1 (v0) (v1) (v2) (v3) (v4) (v5) (v6) (v7) (v8) (v9) (v10) (v11) (v12) (v13) (v14) (v15) (v16) (v17) p0) (cwV 1 hts gL_isRight_X10_isRight rfl rfl rfl (by decide +kernel) ⟨Nat.le_of_ble_eq_true rfl, Nat.le_of_ble_eq_true rfl⟩) ⟨PC_.blind, va_recv hK hP (ci := 13) (q0 := 0) rfl rfl, PC_.pre hF hK hP hD hS hA [0, 1] [] rfl (by decide) rfl⟩ rfl rfl hl.1 rfl (lv_room (Nat.le_of_ble_eq_true rfl)) dL_isRight_4 ⟨Nat.le_of_ble_eq_true rfl, Nat.le_of_ble_eq_true rfl⟩) hD hS hA [0, 1] rfl (fun ce q9 H locs hS hce hvm hcl => ?_)
  refine vx_catch (own := RL) (name := "java/lang/IndexOutOfBoundsException") (E := "java/lang/IndexOutOfBoundsException") hown [] (⟨0, 16, 19, 36⟩ : ExceptionTableEntry) [] (htb.trans rfl) (fun z hz => by cases hz) (by decide) (by decide) (hts (.classLink RL 36 "java/lang/IndexOutOfBoundsException") (List.mem_of_getElem? (i := 1) (by decide +kernel))) (fxk_ hF "java/lang/IndexOutOfBoundsException" "java/lang/IndexOutOfBoundsException") hce hvm hcl ?_
  have hP : va_P D vwCl [] H := fun k q h => by simp at h
  have hD : va_D A [] := ⟨fun i j p q h => by simp at h, fun k q h => by simp at h⟩
  have hK : va_K D vwCl [] s := ⟨hK.1, fun k q h => by simp at h⟩
  refine W.eq (g2 := F0 m 19 ls [.ref q9]) rfl ?_
  refine lv_astore_n (lv' := [(3, .ref q9), (0, .ref h0), (1, .int p0), (2, .ref r0)]) hx hb dL_isRight_19 rfl hl (by decide) rfl (fun ls hl => ?_)
  refine lv_iconst (v := 1) hx hb dL_isRight_20 (by decide) ?_
  refine W.widen (k := 1) (n := 6) (Nat.le_of_ble_eq_true rfl) (Nat.le_of_ble_eq_true rfl) ?_
  exact W.iret (v := 1) hx hb hr (QG_.mk (fun _ => 0) (fun _ => 0) (fun _ => 0) [] [] hP hD hK hS rfl trivial rfl (by decide) rfl) hS.2.2 dL_isRight_21
set_option maxHeartbeats 4000000 in
set_option maxRecDepth 100000 in
theorem c_X11_isRight_0 (l : Launch) (hl0 : l.stackTraces = false) (D : va_G) (ad : Nat → Nat) (sz : Nat) (h0 : Nat) (h1 : Nat) (k1 : ClassId) (v0 : Value) (v1 : Value) (v2 : Value) (v3 : Value) (v4 : Value) (v5 : Value) (v6 : Value) (v7 : Value) (v8 : Value) (v9 : Value) (v10 : Value) (v11 : Value) (v12 : Value) (v13 : Value) (v14 : Value) (v15 : Value) (v16 : Value) (v17 : Value) (v18 : Value) (v19 : Value) (v20 : Value) (v21 : Value) (v22 : Value) (p0 : Int32) : Met l yX11_isRight wsX11_isRight ({ frames := 2, cells := 0, slots := 0, locals := 47 }) (PC_ D ad [(h0, .inr (14, [.ref h1, v0, v1, v2, v3, v4, v5, v6, v7, v8, v9, v10, v11, v12, v13, v14, v15, v16, v17, v18, v19, v20, v21, .int 0, v22])), (h1, .inl (k1, 8277, .inl (fun _ => 0)))] [(k1, .int)] sz [.ref h0, .int p0]) (QG_ D (fun q i => some (.int 0)) (fun q i => True) (fun q k i => [(h0, .inr (14, [.ref h1, v0, v1, v2, v3, v4, v5, v6, v7, v8, v9, v10, v11, v12, v13, v14, v15, v16, v17, v18, v19, v20, v21, .int 1, v22])), (h1, .inl (k1, 8277, .inl (fun _ => 0)))]) (fun q k i => [(k1, .int)]) (va_A [(h0, .inr (14, [.ref h1, v0, v1, v2, v3, v4, v5, v6, v7, v8, v9, v10, v11, v12, v13, v14, v15, v16, v17, v18, v19, v20, v21, .int 0, v22])), (h1, .inl (k1, 8277, .inl (fun _ => 0)))] sz)) 0 0 (va_A [(h0, .inr (14, [.ref h1, v0, v1, v2, v3, v4, v5, v6, v7, v8, v9, v10, v11, v12, v13, v14, v15, v16, v17, v18, v19, v20, v21, .int 0, v22])), (h1, .inl (k1, 8277, .inl (fun _ => 0)))] sz) := by
  refine Met.ofW (cc := cX11_isRight) (maxL := 5) (ret := (some .boolean)) (by decide) rfl ?_
  intro p e s m args below meth c s₁ B hml hv
  obtain ⟨rfl, hsz, hP, hK, hD0, hF⟩ := hv
  have hx := B.exec
  have hb := B.bytes
  have hr := B.returns
  have hts := atoms_spec (ws := wsX11_isRight) B.pre
  have hown : s.vm.findClass RX11 = some m.cls := findClass_of_methodNamed B.named
  have hlocks := B.notSynchronized
  subst hsz
  have hD := hD0.self (sz := s.heap.size)
  generalize hAe : va_A [(h0, .inr (14, [.ref h1, v0, v1, v2, v3, v4, v5, v6, v7, v8, v9, v10, v11, v12, v13, v14, v15, v16, v17, v18, v19, v20, v21, .int 0, v22])), (h1, .inl (k1, 8277, .inl (fun _ => 0)))] s.heap.size = A at hD hF ⊢
  have hA : ∀ q : Nat, s.heap.size ≤ q → A q := fun q h => by rw [← hAe]; exact Or.inr h
  obtain ⟨H, hHe⟩ : ∃ H : Heap, H = s.heap := ⟨_, rfl⟩
  have hS : va_S A s.heap H [] := by rw [hHe]; exact va_S.rf
  have hP : va_P D vwCl [(h0, .inr (14, [.ref h1, v0, v1, v2, v3, v4, v5, v6, v7, v8, v9, v10, v11, v12, v13, v14, v15, v16, v17, v18, v19, v20, v21, .int 0, v22])), (h1, .inl (k1, 8277, .inl (fun _ => 0)))] H := by rw [hHe]; exact hP
  rw [← hHe]
  have hi_X11 : ∀ w ∈ wsX110, w ∈ wsX11_isRight := by decide +kernel
  have hl := lv_entry [.ref h0, .int p0] (n := 5) (Nat.le_of_ble_eq_true rfl)
  rw [lg_entry_eq]
  generalize (lg_sl [.ref h0, .int p0] ++ List.replicate (5 - (lg_sl [.ref h0, .int p0]).length) Slot.unset).toArray = ls at hl ⊢
  have hl : lv_has ls 5 [(0, .ref h0), (1, .int p0)] := hl
  refine lv_aload_n hx hb dX11_isRight_0 rfl (lv_at hl 0 rfl) ?_
  refine lv_aload_n hx hb dX11_isRight_1 rfl (lv_at hl 0 rfl) ?_
  refine lv_iload_n hx hb dX11_isRight_2 rfl (lv_at hl 1 rfl) ?_
  refine kc_ (wc := [(h0, .inr (14, [.ref h1, v0, v1, v2, v3, v4, v5, v6, v7, v8, v9, v10, v11, v12, v13, v14, v15, v16, v17, v18, v19, v20, v21, .int 0, v22])), (h1, .inl (k1, 8277, .inl (fun _ => 0)))]) (wr := []) (va_runV (As := [.int p0]) (rest := [.ref h0]) ⟨hx, hb, hml, hown, hts⟩ (c_X11_isOne_0 l hl0 D ad H.size h0 h1 k1 (v0) (v1) (v2) (v3) (v4) (v5) (v6) (v7) (v8) (v9) (v10) (v11) (v12) (v13) (v14) (v15) (v16) (v17) (v18) (v19) (v20) (v21) (.int 0) (v22) p0) (cwV 1 hts gX11_isRight_X11_isOne rfl rfl rfl (by decide +kernel) ⟨Nat.le_of_ble_eq_true rfl, Nat.le_of_ble_eq_true rfl⟩) ⟨PC_.blind, va_recv hK hP (ci := 14) (q0 := 0) rfl rfl, PC_.pre hF hK hP hD hS hA [0, 1] [0] rfl (by decide) rfl⟩ rfl rfl hl.1 rfl (lv_room (Nat.le_of_ble_eq_true rfl)) dX11_isRight_3 ⟨Nat.le_of_ble_eq_true rfl, Nat.le_of_ble_eq_true rfl⟩) hK hP hD hS hA [0, 1] [] [] rfl rfl (by decide) (by decide) rfl (fun qa_1 ka_1 ia_1 H locs hpo hP hD hK hS => ?_)
  have hP : va_P D vwCl [(h0, .inr (14, [.ref h1, v0, v1, v2, v3, v4, v5, v6, v7, v8, v9, v10, v11, v12, v13, v14, v15, v16, v17, v18, v19, v20, v21, .int 0, v22])), (h1, .inl (k1, 8277, .inl (fun _ => 0)))] H := hP
  have hD : va_D A [(h0, .inr (14, [.ref h1, v0, v1, v2, v3, v4, v5, v6, v7, v8, v9, v10, v11, v12, v13, v14, v15, v16, v17, v18, v19, v20, v21, .int 0, v22])), (h1, .inl (k1, 8277, .inl (fun _ => 0)))] := hD
  have hK : va_K D vwCl [(k1, .int)] s := hK
  refine W.eq (g2 := F0 m 6 ls [.int 0, .ref h0]) rfl ?_
  refine lv_if_eq (tgt := 13) hx hb dX11_isRight_6 (by decide) (fun _ => ?_) (fun c9 => absurd (by decide +kernel) c9)
  refine lv_iconst (v := 1) hx hb dX11_isRight_13 (by decide) ?_
  refine va_put (D := D) (ci := 14) (v := .int 1) (ty := .int) (own := RX11) (C := RX11) (T := TX11) (N := 25) hx hb hts hi_X11 tyX11 tyX11_ok nmX11 hown hK hP hD hS 0 rfl rfl 23 (by decide) (hts (.fieldLink RX11 47 "CanalMapsModel" "thrown" "I") (List.mem_of_getElem? (i := 1) (by decide +kernel))) (fun _ h9 => h9) rfl (by decide +kernel) rfl rfl (Nat.le_of_ble_eq_true rfl) dX11_isRight_14 (fun H locs hP hD hS => ?_)
  have hP : va_P D vwCl [(h0, .inr (14, [.ref h1, v0, v1, v2, v3, v4, v5, v6, v7, v8, v9, v10, v11, v12, v13, v14, v15, v16, v17, v18, v19, v20, v21, .int 1, v22])), (h1, .inl (k1, 8277, .inl (fun _ => 0)))] H := hP
  have hD : va_D A [(h0, .inr (14, [.ref h1, v0, v1, v2, v3, v4, v5, v6, v7, v8, v9, v10, v11, v12, v13, v14, v15, v16, v17, v18, v19, v20, v21, .int 1, v22])), (h1, .inl (k1, 8277, .inl (fun _ => 0)))] := hD
  refine lv_aload_n hx hb dX11_isRight_17 rfl (lv_at hl 0 rfl) ?_
  refine va_get (D := D) (ci := 14) (v := .int 1) (own := RX11) (C := RX11) (T := TX11) (N := 25) hx hb hts hi_X11 hown hK hP 0 rfl rfl 23 (by decide) (hts (.fieldLink RX11 47 "CanalMapsModel" "thrown" "I") (List.mem_of_getElem? (i := 1) (by decide +kernel))) (fun _ h9 => h9) rfl dX11_isRight_18 ?_
  refine lv_if_le (tgt := 26) hx hb dX11_isRight_21 (by decide) (fun c9 => absurd c9 (by decide +kernel)) (fun _ => ?_)
  refine lv_iconst (v := 0) hx hb dX11_isRight_24 (by decide) ?_
  refine W.widen (k := 0) (n := 0) (Nat.le_of_ble_eq_true rfl) (Nat.le_of_ble_eq_true rfl) ?_
  exact W.zret (v := 0) hx hb hr rfl (QG_.mk (fun _ => 0) (fun _ => 0) (fun _ => 0) [0, 1] [0] hP hD hK hS rfl trivial rfl (by decide) rfl) hS.2.2 dX11_isRight_25
set_option maxHeartbeats 4000000 in
set_option maxRecDepth 100000 in
theorem c_X10_needDistrict_0 (l : Launch) (hl0 : l.stackTraces = false) (D : va_G) (ad : Nat → Nat) (sz : Nat) (p0 : Int32) (hy0 : p0 < 0) : vx_Met l yX10_needDistrict wsX10_needDistrict ({ frames := 6, cells := 1, slots := 6, locals := 100 }) (PC_ D ad [] [] sz [.int p0]) QN_ (XT_ "java/lang/IllegalArgumentException" (va_A [] sz)) 1 6 (va_A [] sz) := by
  refine vx_ofW (cc := cX10_needDistrict) (maxL := 1) (ret := none) (by decide) rfl ?_
  intro p e s m args below meth c s₁ B hml htab hv
  obtain ⟨rfl, hsz, hP, hK, hD0, hF⟩ := hv
  have hx := B.exec
  have hb := B.bytes
  have hr := B.returns
  have hts := atoms_spec (ws := wsX10_needDistrict) B.pre
  have hown : s.vm.findClass RX10 = some m.cls := findClass_of_methodNamed B.named
  have hlocks := B.notSynchronized
  subst hsz
  have hD := hD0.self (sz := s.heap.size)
  generalize hAe : va_A [] s.heap.size = A at hD hF ⊢
  have hA : ∀ q : Nat, s.heap.size ≤ q → A q := fun q h => by rw [← hAe]; exact Or.inr h
  obtain ⟨H, hHe⟩ : ∃ H : Heap, H = s.heap := ⟨_, rfl⟩
  have hS : va_S A s.heap H [] := by rw [hHe]; exact va_S.rf
  have hP : va_P D vwCl [] H := by rw [hHe]; exact hP
  rw [← hHe]
  have hl := lv_entry [.int p0] (n := 1) (Nat.le_of_ble_eq_true rfl)
  rw [lg_entry_eq]
  generalize (lg_sl [.int p0] ++ List.replicate (1 - (lg_sl [.int p0]).length) Slot.unset).toArray = ls at hl ⊢
  have hl : lv_has ls 1 [(0, .int p0)] := hl
  refine lv_iload_n hx hb dX10_needDistrict_0 rfl (lv_at hl 0 rfl) ?_
  refine lv_if_lt (tgt := 9) hx hb dX10_needDistrict_1 (by decide) (fun _ => ?_) (fun c9 => absurd hy0 c9)
  obtain ⟨sa9, hstr⟩ := fxs_ hF RX10 397 "there is no such district"
  exact vx_throwSW (own := RX10) (cls := "java/lang/IllegalArgumentException") (names := ["java/lang/RuntimeException", "java/lang/Exception"]) hx hb hl0 hown (by decide +kernel) (by decide +kernel) (hts (.classLink RX10 149 "java/lang/IllegalArgumentException") (List.mem_of_getElem? (i := 1) (by decide +kernel))) (hts (.initialized "java/lang/IllegalArgumentException") (List.mem_of_getElem? (i := 2) (by decide +kernel))) hstr (fxw_ hts (by decide +kernel) (by decide +kernel)) (by decide +kernel) hF.2.2.2.2.1 hF.2.2.2.2.2.1 hS (by rw [hml]; exact hl.1) dX10_needDistrict_9 dX10_needDistrict_12 dX10_needDistrict_13 dX10_needDistrict_16 dX10_needDistrict_19 (fun x9 hx9 => (htab x9 hx9).elim) (Nat.le_of_ble_eq_true rfl) (Nat.le_of_ble_eq_true rfl) (Nat.le_of_ble_eq_true rfl) (Nat.le_of_ble_eq_true rfl) hlocks (fun t9 _ hz9 hq9 => ⟨rfl, xt_ hS hz9 hq9⟩) hS.2.2 (Nat.le_of_ble_eq_true rfl) (Nat.le_of_ble_eq_true rfl)
set_option maxHeartbeats 4000000 in
set_option maxRecDepth 100000 in
theorem c_X10_agree_0 (l : Launch) (hl0 : l.stackTraces = false) (D : va_G) (ad : Nat → Nat) (sz : Nat) (r0 : Nat) (p0 : Int32) (hy0 : p0 < 0) : vx_Met l yX10_agree wsX10_agree ({ frames := 7, cells := 1, slots := 6, locals := 122 }) (PC_ D ad [] [] sz [.ref r0, .int p0]) QN_ (XT_ "java/lang/IllegalArgumentException" (va_A [] sz)) 1 6 (va_A [] sz) := by
  refine vx_ofW (cc := cX10_agree) (maxL := 4) (ret := (some .boolean)) (by decide) rfl ?_
  intro p e s m args below meth c s₁ B hml htab hv
  obtain ⟨rfl, hsz, hP, hK, hD0, hF⟩ := hv
  have hx := B.exec
  have hb := B.bytes
  have hr := B.returns
  have hts := atoms_spec (ws := wsX10_agree) B.pre
  have hown : s.vm.findClass RX10 = some m.cls := findClass_of_methodNamed B.named
  have hlocks := B.notSynchronized
  subst hsz
  have hD := hD0.self (sz := s.heap.size)
  generalize hAe : va_A [] s.heap.size = A at hD hF ⊢
  have hA : ∀ q : Nat, s.heap.size ≤ q → A q := fun q h => by rw [← hAe]; exact Or.inr h
  obtain ⟨H, hHe⟩ : ∃ H : Heap, H = s.heap := ⟨_, rfl⟩
  have hS : va_S A s.heap H [] := by rw [hHe]; exact va_S.rf
  have hP : va_P D vwCl [] H := by rw [hHe]; exact hP
  rw [← hHe]
  have hl := lv_entry [.ref r0, .int p0] (n := 4) (Nat.le_of_ble_eq_true rfl)
  rw [lg_entry_eq]
  generalize (lg_sl [.ref r0, .int p0] ++ List.replicate (4 - (lg_sl [.ref r0, .int p0]).length) Slot.unset).toArray = ls at hl ⊢
  have hl : lv_has ls 4 [(0, .ref r0), (1, .int p0)] := hl
  refine lv_iload_n hx hb dX10_agree_0 rfl (lv_at hl 1 rfl) ?_
  refine kx_ (E0 := "java/lang/IllegalArgumentException") (wc := []) (vx_runS (As := [.int p0]) (rest := []) ⟨hx, hb, hml, hown, hts⟩ (c_X10_needDistrict_0 l hl0 D ad H.size p0 hy0) (va_cwS 1 hts gX10_agree_X10_needDistrict rfl rfl rfl (by decide +kernel) ⟨Nat.le_of_ble_eq_true rfl, Nat.le_of_ble_eq_true rfl⟩) ⟨PC_.blind, PC_.pre hF hK hP hD hS hA [] [] rfl (by decide) rfl⟩ rfl rfl hl.1 rfl (lv_room (Nat.le_of_ble_eq_true rfl)) dX10_agree_1 ⟨Nat.le_of_ble_eq_true rfl, Nat.le_of_ble_eq_true rfl⟩) hD hS hA [] rfl (fun ce q9 H locs hS hce hvm hcl => ?_)
  exact vx_out (E := "java/lang/IllegalArgumentException") (fun x9 hx9 => (htab x9 hx9).elim) hlocks hce hvm hcl (fun t9 ht9 _ => ⟨rfl, hS.F ht9⟩) hS.2.2 (Nat.le_of_ble_eq_true rfl) (Nat.le_of_ble_eq_true rfl)
set_option maxHeartbeats 4000000 in
set_option maxRecDepth 100000 in
theorem c_L_agree_0 (l : Launch) (hl0 : l.stackTraces = false) (D : va_G) (ad : Nat → Nat) (sz : Nat) (h0 : Nat) (r0 : Nat) (v0 : Value) (v1 : Value) (v2 : Value) (v3 : Value) (v4 : Value) (v5 : Value) (v6 : Value) (v7 : Value) (v8 : Value) (v9 : Value) (p0 : Int32) (hy0 : p0 < 0) : Met l yL_agree wsL_agree ({ frames := 8, cells := 1, slots := 6, locals := 147 }) (PC_ D ad [(h0, .inr (13, [v0, v1, v2, v3, v4, v5, v6, v7, v8, v9]))] [] sz [.ref h0, .int p0, .ref r0]) (QG_ D (fun q i => some (.int 1)) (fun q i => True) (fun q k i => []) (fun q k i => []) (va_A [(h0, .inr (13, [v0, v1, v2, v3, v4, v5, v6, v7, v8, v9]))] sz)) 1 6 (va_A [(h0, .inr (13, [v0, v1, v2, v3, v4, v5, v6, v7, v8, v9]))] sz) := by
  refine va_MetW (cc := cL_agree) (maxL := 4) (ret := (some .int)) (by decide) rfl ?_
  intro p e s m args below meth c s₁ B hml hv
  obtain ⟨rfl, hsz, hP, hK, hD0, hF⟩ := hv
  have hx := B.exec
  have hb := B.bytes
  have hr := B.returns
  have hts := atoms_spec (ws := wsL_agree) B.pre
  have hown : s.vm.findClass RL = some m.cls := findClass_of_methodNamed B.named
  have hlocks := B.notSynchronized
  have htb := vx_table B (hts _ (List.mem_cons_self))
  subst hsz
  have hD := hD0.self (sz := s.heap.size)
  generalize hAe : va_A [(h0, .inr (13, [v0, v1, v2, v3, v4, v5, v6, v7, v8, v9]))] s.heap.size = A at hD hF ⊢
  have hA : ∀ q : Nat, s.heap.size ≤ q → A q := fun q h => by rw [← hAe]; exact Or.inr h
  obtain ⟨H, hHe⟩ : ∃ H : Heap, H = s.heap := ⟨_, rfl⟩
  have hS : va_S A s.heap H [] := by rw [hHe]; exact va_S.rf
  have hP : va_P D vwCl [(h0, .inr (13, [v0, v1, v2, v3, v4, v5, v6, v7, v8, v9]))] H := by rw [hHe]; exact hP
  rw [← hHe]
  have hl := lv_entry [.ref h0, .int p0, .ref r0] (n := 4) (Nat.le_of_ble_eq_true rfl)
  rw [lg_entry_eq]
  generalize (lg_sl [.ref h0, .int p0, .ref r0] ++ List.replicate (4 - (lg_sl [.ref h0, .int p0, .ref r0]).length) Slot.unset).toArray = ls at hl ⊢
  have hl : lv_has ls 4 [(0, .ref h0), (1, .int p0), (2, .ref r0)] := hl
  refine lv_aload_n hx hb dL_agree_0 rfl (lv_at hl 2 rfl) ?_
  refine lv_iconst (v := 0) hx hb dL_agree_1 (by decide) ?_
  refine lv_aload_n hx hb dL_agree_2 rfl (lv_at hl 0 rfl) ?_
  refine lv_iload_n hx hb dL_agree_3 rfl (lv_at hl 1 rfl) ?_
  refine kx_ (E0 := "java/lang/IllegalArgumentException") (wc := []) (vx_runV (As := [.int p0]) (rest := [.int 0, .ref r0]) ⟨hx, hb, hml, hown, hts⟩ (c_X10_agree_0 l hl0 D ad H.size h0 p0 hy0) (cwV 1 hts gL_agree_X10_agree rfl rfl rfl (by decide +kernel) ⟨Nat.le_of_ble_eq_true rfl, Nat.le_of_ble_eq_true rfl⟩) ⟨PC_.blind, va_recv hK hP (ci := 13) (q0 := 0) rfl rfl, PC_.pre hF hK hP hD hS hA [] [] rfl (by decide) rfl⟩ rfl rfl hl.1 rfl (lv_room (Nat.le_of_ble_eq_true rfl)) dL_agree_4 ⟨Nat.le_of_ble_eq_true rfl, Nat.le_of_ble_eq_true rfl⟩) hD hS hA [] rfl (fun ce q9 H locs hS hce hvm hcl => ?_)
  refine vx_catch (own := RL) (name := "java/lang/IllegalArgumentException") (E := "java/lang/IllegalArgumentException") hown [] (⟨0, 16, 19, 38⟩ : ExceptionTableEntry) [] (htb.trans rfl) (fun z hz => by cases hz) (by decide) (by decide) (hts (.classLink RL 38 "java/lang/IllegalArgumentException") (List.mem_of_getElem? (i := 1) (by decide +kernel))) (fxk_ hF "java/lang/IllegalArgumentException" "java/lang/IllegalArgumentException") hce hvm hcl ?_
  have hP : va_P D vwCl [] H := fun k q h => by simp at h
  have hD : va_D A [] := ⟨fun i j p q h => by simp at h, fun k q h => by simp at h⟩
  have hK : va_K D vwCl [] s := ⟨hK.1, fun k q h => by simp at h⟩
  refine W.eq (g2 := F0 m 19 ls [.ref q9]) rfl ?_
  refine lv_astore_n (lv' := [(3, .ref q9), (0, .ref h0), (1, .int p0), (2, .ref r0)]) hx hb dL_agree_19 rfl hl (by decide) rfl (fun ls hl => ?_)
  refine lv_iconst (v := 1) hx hb dL_agree_20 (by decide) ?_
  refine W.widen (k := 1) (n := 6) (Nat.le_of_ble_eq_true rfl) (Nat.le_of_ble_eq_true rfl) ?_
  exact W.iret (v := 1) hx hb hr (QG_.mk (fun _ => 0) (fun _ => 0) (fun _ => 0) [] [] hP hD hK hS rfl trivial rfl (by decide) rfl) hS.2.2 dL_agree_21
set_option maxHeartbeats 4000000 in
set_option maxRecDepth 100000 in
theorem c_X11_in_7 (l : Launch) (hl0 : l.stackTraces = false) (D : va_G) (ad : Nat → Nat) (sz : Nat) (p0 : Int32) (hy0 : p0 < 0) : Met l yX11_in wsX11_in ({ frames := 0, cells := 0, slots := 0, locals := 0 }) (PC_ D ad [] [] sz [.int p0, .int 0, .int 2]) (QG_ D (fun q i => some (.int 0)) (fun q i => True) (fun q k i => []) (fun q k i => []) (va_A [] sz)) 0 0 (va_A [] sz) := by
  refine Met.ofW (cc := cX11_in) (maxL := 3) (ret := (some .boolean)) (by decide) rfl ?_
  intro p e s m args below meth c s₁ B hml hv
  obtain ⟨rfl, hsz, hP, hK, hD0, hF⟩ := hv
  have hx := B.exec
  have hb := B.bytes
  have hr := B.returns
  have hts := atoms_spec (ws := wsX11_in) B.pre
  have hown : s.vm.findClass RX11 = some m.cls := findClass_of_methodNamed B.named
  have hlocks := B.notSynchronized
  subst hsz
  have hD := hD0.self (sz := s.heap.size)
  generalize hAe : va_A [] s.heap.size = A at hD hF ⊢
  have hA : ∀ q : Nat, s.heap.size ≤ q → A q := fun q h => by rw [← hAe]; exact Or.inr h
  obtain ⟨H, hHe⟩ : ∃ H : Heap, H = s.heap := ⟨_, rfl⟩
  have hS : va_S A s.heap H [] := by rw [hHe]; exact va_S.rf
  have hP : va_P D vwCl [] H := by rw [hHe]; exact hP
  rw [← hHe]
  have hl := lv_entry [.int p0, .int 0, .int 2] (n := 3) (Nat.le_of_ble_eq_true rfl)
  rw [lg_entry_eq]
  generalize (lg_sl [.int p0, .int 0, .int 2] ++ List.replicate (3 - (lg_sl [.int p0, .int 0, .int 2]).length) Slot.unset).toArray = ls at hl ⊢
  have hl : lv_has ls 3 [(0, .int p0), (1, .int 0), (2, .int 2)] := hl
  refine lv_iload_n hx hb dX11_in_0 rfl (lv_at hl 0 rfl) ?_
  refine lv_iload_n hx hb dX11_in_1 rfl (lv_at hl 1 rfl) ?_
  refine lv_icmp_lt (tgt := 14) hx hb dX11_in_2 (by decide) (fun _ => ?_) (fun c9 => absurd hy0 c9)
  refine lv_iconst (v := 0) hx hb dX11_in_14 (by decide) ?_
  refine W.widen (k := 0) (n := 0) (Nat.le_of_ble_eq_true rfl) (Nat.le_of_ble_eq_true rfl) ?_
  exact W.zret (v := 0) hx hb hr rfl (QG_.mk (fun _ => 0) (fun _ => 0) (fun _ => 0) [] [] hP hD hK hS rfl trivial rfl (by decide) rfl) hS.2.2 dX11_in_15
set_option maxHeartbeats 4000000 in
set_option maxRecDepth 100000 in
theorem c_X11_agree_0 (l : Launch) (hl0 : l.stackTraces = false) (D : va_G) (ad : Nat → Nat) (sz : Nat) (h0 : Nat) (v0 : Value) (v1 : Value) (v2 : Value) (v3 : Value) (v4 : Value) (v5 : Value) (v6 : Value) (v7 : Value) (v8 : Value) (v9 : Value) (v10 : Value) (v11 : Value) (v12 : Value) (v13 : Value) (v14 : Value) (v15 : Value) (v16 : Value) (v17 : Value) (v18 : Value) (v19 : Value) (v20 : Value) (v21 : Value) (v22 : Value) (v23 : Value) (p0 : Int32) (hy0 : p0 < 0) : Met l yX11_agree wsX11_agree ({ frames := 1, cells := 0, slots := 0, locals := 24 }) (PC_ D ad [(h0, .inr (14, [v0, v1, v2, v3, v4, v5, v6, v7, v8, v9, v10, v11, v12, v13, v14, v15, v16, v17, v18, v19, v20, v21, v22, .int 0, v23]))] [] sz [.ref h0, .int p0]) (QG_ D (fun q i => some (.int 0)) (fun q i => True) (fun q k i => [(h0, .inr (14, [v0, v1, v2, v3, v4, v5, v6, v7, v8, v9, v10, v11, v12, v13, v14, v15, v16, v17, v18, v19, v20, v21, v22, .int 1, v23]))]) (fun q k i => []) (va_A [(h0, .inr (14, [v0, v1, v2, v3, v4, v5, v6, v7, v8, v9, v10, v11, v12, v13, v14, v15, v16, v17, v18, v19, v20, v21, v22, .int 0, v23]))] sz)) 0 0 (va_A [(h0, .inr (14, [v0, v1, v2, v3, v4, v5, v6, v7, v8, v9, v10, v11, v12, v13, v14, v15, v16, v17, v18, v19, v20, v21, v22, .int 0, v23]))] sz) := by
  refine Met.ofW (cc := cX11_agree) (maxL := 6) (ret := (some .boolean)) (by decide) rfl ?_
  intro p e s m args below meth c s₁ B hml hv
  obtain ⟨rfl, hsz, hP, hK, hD0, hF⟩ := hv
  have hx := B.exec
  have hb := B.bytes
  have hr := B.returns
  have hts := atoms_spec (ws := wsX11_agree) B.pre
  have hown : s.vm.findClass RX11 = some m.cls := findClass_of_methodNamed B.named
  have hlocks := B.notSynchronized
  subst hsz
  have hD := hD0.self (sz := s.heap.size)
  generalize hAe : va_A [(h0, .inr (14, [v0, v1, v2, v3, v4, v5, v6, v7, v8, v9, v10, v11, v12, v13, v14, v15, v16, v17, v18, v19, v20, v21, v22, .int 0, v23]))] s.heap.size = A at hD hF ⊢
  have hA : ∀ q : Nat, s.heap.size ≤ q → A q := fun q h => by rw [← hAe]; exact Or.inr h
  obtain ⟨H, hHe⟩ : ∃ H : Heap, H = s.heap := ⟨_, rfl⟩
  have hS : va_S A s.heap H [] := by rw [hHe]; exact va_S.rf
  have hP : va_P D vwCl [(h0, .inr (14, [v0, v1, v2, v3, v4, v5, v6, v7, v8, v9, v10, v11, v12, v13, v14, v15, v16, v17, v18, v19, v20, v21, v22, .int 0, v23]))] H := by rw [hHe]; exact hP
  rw [← hHe]
  have hi_X11 : ∀ w ∈ wsX110, w ∈ wsX11_agree := by decide +kernel
  have hl := lv_entry [.ref h0, .int p0] (n := 6) (Nat.le_of_ble_eq_true rfl)
  rw [lg_entry_eq]
  generalize (lg_sl [.ref h0, .int p0] ++ List.replicate (6 - (lg_sl [.ref h0, .int p0]).length) Slot.unset).toArray = ls at hl ⊢
  have hl : lv_has ls 6 [(0, .ref h0), (1, .int p0)] := hl
  refine lv_aload_n hx hb dX11_agree_0 rfl (lv_at hl 0 rfl) ?_
  refine lv_iload_n hx hb dX11_agree_1 rfl (lv_at hl 1 rfl) ?_
  refine lv_iconst (v := 0) hx hb dX11_agree_2 (by decide) ?_
  refine lv_iconst (v := 2) hx hb dX11_agree_3 (by decide) ?_
  refine kc_ (wc := []) (wr := [(h0, .inr (14, [v0, v1, v2, v3, v4, v5, v6, v7, v8, v9, v10, v11, v12, v13, v14, v15, v16, v17, v18, v19, v20, v21, v22, .int 0, v23]))]) (va_runS (As := [.int p0, .int 0, .int 2]) (rest := [.ref h0]) ⟨hx, hb, hml, hown, hts⟩ (c_X11_in_7 l hl0 D ad H.size p0 hy0) (va_cwS 3 hts gX11_agree_X11_in rfl rfl rfl (by decide +kernel) ⟨Nat.le_of_ble_eq_true rfl, Nat.le_of_ble_eq_true rfl⟩) ⟨PC_.blind, PC_.pre hF hK hP hD hS hA [] [] rfl (by decide) rfl⟩ rfl rfl hl.1 rfl (lv_room (Nat.le_of_ble_eq_true rfl)) dX11_agree_4 ⟨Nat.le_of_ble_eq_true rfl, Nat.le_of_ble_eq_true rfl⟩) hK hP hD hS hA [] [0] [] rfl rfl (by decide) (by decide) rfl (fun qa_1 ka_1 ia_1 H locs hpo hP hD hK hS => ?_)
  have hP : va_P D vwCl [(h0, .inr (14, [v0, v1, v2, v3, v4, v5, v6, v7, v8, v9, v10, v11, v12, v13, v14, v15, v16, v17, v18, v19, v20, v21, v22, .int 0, v23]))] H := hP
  have hD : va_D A [(h0, .inr (14, [v0, v1, v2, v3, v4, v5, v6, v7, v8, v9, v10, v11, v12, v13, v14, v15, v16, v17, v18, v19, v20, v21, v22, .int 0, v23]))] := hD
  have hK : va_K D vwCl [] s := hK
  refine W.eq (g2 := F0 m 7 ls [.int 0, .ref h0]) rfl ?_
  refine lv_if_eq (tgt := 14) hx hb dX11_agree_7 (by decide) (fun _ => ?_) (fun c9 => absurd (by decide +kernel) c9)
  refine lv_iconst (v := 1) hx hb dX11_agree_14 (by decide) ?_
  refine va_put (D := D) (ci := 14) (v := .int 1) (ty := .int) (own := RX11) (C := RX11) (T := TX11) (N := 25) hx hb hts hi_X11 tyX11 tyX11_ok nmX11 hown hK hP hD hS 0 rfl rfl 23 (by decide) (hts (.fieldLink RX11 47 "CanalMapsModel" "thrown" "I") (List.mem_of_getElem? (i := 1) (by decide +kernel))) (fun _ h9 => h9) rfl (by decide +kernel) rfl rfl (Nat.le_of_ble_eq_true rfl) dX11_agree_15 (fun H locs hP hD hS => ?_)
  have hP : va_P D vwCl [(h0, .inr (14, [v0, v1, v2, v3, v4, v5, v6, v7, v8, v9, v10, v11, v12, v13, v14, v15, v16, v17, v18, v19, v20, v21, v22, .int 1, v23]))] H := hP
  have hD : va_D A [(h0, .inr (14, [v0, v1, v2, v3, v4, v5, v6, v7, v8, v9, v10, v11, v12, v13, v14, v15, v16, v17, v18, v19, v20, v21, v22, .int 1, v23]))] := hD
  refine lv_aload_n hx hb dX11_agree_18 rfl (lv_at hl 0 rfl) ?_
  refine va_get (D := D) (ci := 14) (v := .int 1) (own := RX11) (C := RX11) (T := TX11) (N := 25) hx hb hts hi_X11 hown hK hP 0 rfl rfl 23 (by decide) (hts (.fieldLink RX11 47 "CanalMapsModel" "thrown" "I") (List.mem_of_getElem? (i := 1) (by decide +kernel))) (fun _ h9 => h9) rfl dX11_agree_19 ?_
  refine lv_if_le (tgt := 27) hx hb dX11_agree_22 (by decide) (fun c9 => absurd c9 (by decide +kernel)) (fun _ => ?_)
  refine lv_iconst (v := 0) hx hb dX11_agree_25 (by decide) ?_
  refine W.widen (k := 0) (n := 0) (Nat.le_of_ble_eq_true rfl) (Nat.le_of_ble_eq_true rfl) ?_
  exact W.zret (v := 0) hx hb hr rfl (QG_.mk (fun _ => 0) (fun _ => 0) (fun _ => 0) [0] [] hP hD hK hS rfl trivial rfl (by decide) rfl) hS.2.2 dX11_agree_26
set_option maxHeartbeats 4000000 in
set_option maxRecDepth 100000 in
theorem c_X10_needDistrict_1 (l : Launch) (hl0 : l.stackTraces = false) (D : va_G) (ad : Nat → Nat) (sz : Nat) (p0 : Int32) (hy0 : 3 ≤ p0) (hy1 : ¬ p0 < 0) : vx_Met l yX10_needDistrict wsX10_needDistrict ({ frames := 6, cells := 1, slots := 6, locals := 100 }) (PC_ D ad [] [] sz [.int p0]) QN_ (XT_ "java/lang/IllegalArgumentException" (va_A [] sz)) 1 6 (va_A [] sz) := by
  refine vx_ofW (cc := cX10_needDistrict) (maxL := 1) (ret := none) (by decide) rfl ?_
  intro p e s m args below meth c s₁ B hml htab hv
  obtain ⟨rfl, hsz, hP, hK, hD0, hF⟩ := hv
  have hx := B.exec
  have hb := B.bytes
  have hr := B.returns
  have hts := atoms_spec (ws := wsX10_needDistrict) B.pre
  have hown : s.vm.findClass RX10 = some m.cls := findClass_of_methodNamed B.named
  have hlocks := B.notSynchronized
  subst hsz
  have hD := hD0.self (sz := s.heap.size)
  generalize hAe : va_A [] s.heap.size = A at hD hF ⊢
  have hA : ∀ q : Nat, s.heap.size ≤ q → A q := fun q h => by rw [← hAe]; exact Or.inr h
  obtain ⟨H, hHe⟩ : ∃ H : Heap, H = s.heap := ⟨_, rfl⟩
  have hS : va_S A s.heap H [] := by rw [hHe]; exact va_S.rf
  have hP : va_P D vwCl [] H := by rw [hHe]; exact hP
  rw [← hHe]
  have hl := lv_entry [.int p0] (n := 1) (Nat.le_of_ble_eq_true rfl)
  rw [lg_entry_eq]
  generalize (lg_sl [.int p0] ++ List.replicate (1 - (lg_sl [.int p0]).length) Slot.unset).toArray = ls at hl ⊢
  have hl : lv_has ls 1 [(0, .int p0)] := hl
  refine lv_iload_n hx hb dX10_needDistrict_0 rfl (lv_at hl 0 rfl) ?_
  refine lv_if_lt (tgt := 9) hx hb dX10_needDistrict_1 (by decide) (fun c9 => absurd c9 hy1) (fun _ => ?_)
  refine lv_iload_n hx hb dX10_needDistrict_4 rfl (lv_at hl 0 rfl) ?_
  refine lv_iconst (v := 3) hx hb dX10_needDistrict_5 (by decide) ?_
  refine lv_icmp_lt (tgt := 20) hx hb dX10_needDistrict_6 (by decide) (fun c9 => absurd c9 (fun z9 => by have z8 := f_lt z9; have y0 := f_le hy0; have e0 : (3 : Int32).toInt = 3 := by decide +kernel; omega)) (fun _ => ?_)
  obtain ⟨sa9, hstr⟩ := fxs_ hF RX10 397 "there is no such district"
  exact vx_throwSW (own := RX10) (cls := "java/lang/IllegalArgumentException") (names := ["java/lang/RuntimeException", "java/lang/Exception"]) hx hb hl0 hown (by decide +kernel) (by decide +kernel) (hts (.classLink RX10 149 "java/lang/IllegalArgumentException") (List.mem_of_getElem? (i := 1) (by decide +kernel))) (hts (.initialized "java/lang/IllegalArgumentException") (List.mem_of_getElem? (i := 2) (by decide +kernel))) hstr (fxw_ hts (by decide +kernel) (by decide +kernel)) (by decide +kernel) hF.2.2.2.2.1 hF.2.2.2.2.2.1 hS (by rw [hml]; exact hl.1) dX10_needDistrict_9 dX10_needDistrict_12 dX10_needDistrict_13 dX10_needDistrict_16 dX10_needDistrict_19 (fun x9 hx9 => (htab x9 hx9).elim) (Nat.le_of_ble_eq_true rfl) (Nat.le_of_ble_eq_true rfl) (Nat.le_of_ble_eq_true rfl) (Nat.le_of_ble_eq_true rfl) hlocks (fun t9 _ hz9 hq9 => ⟨rfl, xt_ hS hz9 hq9⟩) hS.2.2 (Nat.le_of_ble_eq_true rfl) (Nat.le_of_ble_eq_true rfl)
