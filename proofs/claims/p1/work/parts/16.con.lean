set_option maxHeartbeats 4000000 in
set_option maxRecDepth 100000 in
theorem c_X11_letter_0 (l : Launch) (hl0 : l.stackTraces = false) (D : va_G) (ad : Nat → Nat) (sz : Nat) (h0 : Nat) (v0 : Value) (v1 : Value) (v2 : Value) (v3 : Value) (v4 : Value) (v5 : Value) (v6 : Value) (v7 : Value) (v8 : Value) (v9 : Value) (v10 : Value) (v11 : Value) (v12 : Value) (v13 : Value) (v14 : Value) (v15 : Value) (v16 : Value) (v17 : Value) (v18 : Value) (v19 : Value) (v20 : Value) (v21 : Value) (v22 : Value) (v23 : Value) (v24 : Value) (p0 : Int32) (p1 : Int32) (hy0 : p1 < 0) : Met l yX11_letter wsX11_letter ({ frames := 1, cells := 0, slots := 0, locals := 24 }) (PC_ D ad [(h0, .inr (14, [v0, v1, v2, v3, v4, v5, v6, v7, v8, v9, v10, v11, v12, v13, v14, v15, v16, v17, v18, v19, v20, v21, v22, v23, v24]))] [] sz [.ref h0, .int p0, .int p1]) (QG_ D (fun q i => some (.int 0)) (fun q i => True) (fun q k i => [(h0, .inr (14, [v0, v1, v2, v3, v4, v5, v6, v7, v8, v9, v10, v11, v12, v13, v14, v15, v16, v17, v18, v19, v20, v21, v22, .int 1, v24]))]) (fun q k i => []) (va_A [(h0, .inr (14, [v0, v1, v2, v3, v4, v5, v6, v7, v8, v9, v10, v11, v12, v13, v14, v15, v16, v17, v18, v19, v20, v21, v22, v23, v24]))] sz)) 0 0 (va_A [(h0, .inr (14, [v0, v1, v2, v3, v4, v5, v6, v7, v8, v9, v10, v11, v12, v13, v14, v15, v16, v17, v18, v19, v20, v21, v22, v23, v24]))] sz) := by
  refine Met.ofW (cc := cX11_letter) (maxL := 4) (ret := (some .int)) (by decide) rfl ?_
  intro p e s m args below meth c s₁ B hml hv
  obtain ⟨rfl, hsz, hP, hK, hD0, hF⟩ := hv
  have hx := B.exec
  have hb := B.bytes
  have hr := B.returns
  have hts := atoms_spec (ws := wsX11_letter) B.pre
  have hown : s.vm.findClass RX11 = some m.cls := findClass_of_methodNamed B.named
  have hlocks := B.notSynchronized
  subst hsz
  have hD := hD0.self (sz := s.heap.size)
  generalize hAe : va_A [(h0, .inr (14, [v0, v1, v2, v3, v4, v5, v6, v7, v8, v9, v10, v11, v12, v13, v14, v15, v16, v17, v18, v19, v20, v21, v22, v23, v24]))] s.heap.size = A at hD hF ⊢
  have hA : ∀ q : Nat, s.heap.size ≤ q → A q := fun q h => by rw [← hAe]; exact Or.inr h
  obtain ⟨H, hHe⟩ : ∃ H : Heap, H = s.heap := ⟨_, rfl⟩
  have hS : va_S A s.heap H [] := by rw [hHe]; exact va_S.rf
  have hP : va_P D vwCl [(h0, .inr (14, [v0, v1, v2, v3, v4, v5, v6, v7, v8, v9, v10, v11, v12, v13, v14, v15, v16, v17, v18, v19, v20, v21, v22, v23, v24]))] H := by rw [hHe]; exact hP
  rw [← hHe]
  have hi_X11 : ∀ w ∈ wsX110, w ∈ wsX11_letter := by decide +kernel
  have hl := lv_entry [.ref h0, .int p0, .int p1] (n := 4) (Nat.le_of_ble_eq_true rfl)
  rw [lg_entry_eq]
  generalize (lg_sl [.ref h0, .int p0, .int p1] ++ List.replicate (4 - (lg_sl [.ref h0, .int p0, .int p1]).length) Slot.unset).toArray = ls at hl ⊢
  have hl : lv_has ls 4 [(0, .ref h0), (1, .int p0), (2, .int p1)] := hl
  refine lv_aload_n hx hb dX11_letter_0 rfl (lv_at hl 0 rfl) ?_
  refine lv_iconst (v := 0) hx hb dX11_letter_1 (by decide) ?_
  refine va_put (D := D) (ci := 14) (v := .int 0) (ty := .int) (own := RX11) (C := RX11) (T := TX11) (N := 25) hx hb hts hi_X11 tyX11 tyX11_ok nmX11 hown hK hP hD hS 0 rfl rfl 23 (by decide) (hts (.fieldLink RX11 47 "CanalMapsModel" "thrown" "I") (List.mem_of_getElem? (i := 1) (by decide +kernel))) (fun _ h9 => h9) rfl (by decide +kernel) rfl rfl (Nat.le_of_ble_eq_true rfl) dX11_letter_2 (fun H locs hP hD hS => ?_)
  have hP : va_P D vwCl [(h0, .inr (14, [v0, v1, v2, v3, v4, v5, v6, v7, v8, v9, v10, v11, v12, v13, v14, v15, v16, v17, v18, v19, v20, v21, v22, .int 0, v24]))] H := hP
  have hD : va_D A [(h0, .inr (14, [v0, v1, v2, v3, v4, v5, v6, v7, v8, v9, v10, v11, v12, v13, v14, v15, v16, v17, v18, v19, v20, v21, v22, .int 0, v24]))] := hD
  refine lv_iload_n hx hb dX11_letter_5 rfl (lv_at hl 2 rfl) ?_
  refine lv_iconst (v := 0) hx hb dX11_letter_6 (by decide) ?_
  refine lv_iconst (v := 3) hx hb dX11_letter_7 (by decide) ?_
  refine kc_ (wc := []) (wr := [(h0, .inr (14, [v0, v1, v2, v3, v4, v5, v6, v7, v8, v9, v10, v11, v12, v13, v14, v15, v16, v17, v18, v19, v20, v21, v22, .int 0, v24]))]) (va_runS (As := [.int p1, .int 0, .int 3]) (rest := []) ⟨hx, hb, hml, hown, hts⟩ (c_X11_in_4 l hl0 D ad H.size p1 hy0) (va_cwS 3 hts gX11_letter_X11_in rfl rfl rfl (by decide +kernel) ⟨Nat.le_of_ble_eq_true rfl, Nat.le_of_ble_eq_true rfl⟩) ⟨PC_.blind, PC_.pre hF hK hP hD hS hA [] [] rfl (by decide) rfl⟩ rfl rfl hl.1 rfl (lv_room (Nat.le_of_ble_eq_true rfl)) dX11_letter_8 ⟨Nat.le_of_ble_eq_true rfl, Nat.le_of_ble_eq_true rfl⟩) hK hP hD hS hA [] [0] [] rfl rfl (by decide) (by decide) rfl (fun qa_1 ka_1 ia_1 H locs hpo hP hD hK hS => ?_)
  have hP : va_P D vwCl [(h0, .inr (14, [v0, v1, v2, v3, v4, v5, v6, v7, v8, v9, v10, v11, v12, v13, v14, v15, v16, v17, v18, v19, v20, v21, v22, .int 0, v24]))] H := hP
  have hD : va_D A [(h0, .inr (14, [v0, v1, v2, v3, v4, v5, v6, v7, v8, v9, v10, v11, v12, v13, v14, v15, v16, v17, v18, v19, v20, v21, v22, .int 0, v24]))] := hD
  have hK : va_K D vwCl [] s := hK
  refine W.eq (g2 := F0 m 11 ls [.int 0]) rfl ?_
  refine lv_if_ne (tgt := 20) hx hb dX11_letter_11 (by decide) (fun c9 => absurd (by decide +kernel) c9) (fun _ => ?_)
  refine lv_aload_n hx hb dX11_letter_14 rfl (lv_at hl 0 rfl) ?_
  refine lv_iconst (v := 1) hx hb dX11_letter_15 (by decide) ?_
  refine kc_ (wc := [(h0, .inr (14, [v0, v1, v2, v3, v4, v5, v6, v7, v8, v9, v10, v11, v12, v13, v14, v15, v16, v17, v18, v19, v20, v21, v22, .int 0, v24]))]) (wr := []) (va_runV (As := [.int 1]) (rest := []) ⟨hx, hb, hml, hown, hts⟩ (c_X11_raises_0 l hl0 D ad H.size h0 (v0) (v1) (v2) (v3) (v4) (v5) (v6) (v7) (v8) (v9) (v10) (v11) (v12) (v13) (v14) (v15) (v16) (v17) (v18) (v19) (v20) (v21) (v22) (.int 0) (v24)) (cwV 1 hts gX11_letter_X11_raises rfl rfl rfl (by decide +kernel) ⟨Nat.le_of_ble_eq_true rfl, Nat.le_of_ble_eq_true rfl⟩) ⟨PC_.blind, va_recv hK hP (ci := 14) (q0 := 0) rfl rfl, PC_.pre hF hK hP hD hS hA [0] [] rfl (by decide) rfl⟩ rfl rfl hl.1 rfl (lv_room (Nat.le_of_ble_eq_true rfl)) dX11_letter_16 ⟨Nat.le_of_ble_eq_true rfl, Nat.le_of_ble_eq_true rfl⟩) hK hP hD hS hA [0] [] [] rfl rfl (by decide) (by decide) rfl (fun qa_2 ka_2 ia_2 H locs hpo hP hD hK hS => ?_)
  have hP : va_P D vwCl [(h0, .inr (14, [v0, v1, v2, v3, v4, v5, v6, v7, v8, v9, v10, v11, v12, v13, v14, v15, v16, v17, v18, v19, v20, v21, v22, .int 1, v24]))] H := hP
  have hD : va_D A [(h0, .inr (14, [v0, v1, v2, v3, v4, v5, v6, v7, v8, v9, v10, v11, v12, v13, v14, v15, v16, v17, v18, v19, v20, v21, v22, .int 1, v24]))] := hD
  have hK : va_K D vwCl [] s := hK
  refine W.eq (g2 := F0 m 19 ls [.int 0]) rfl ?_
  refine W.widen (k := 0) (n := 0) (Nat.le_of_ble_eq_true rfl) (Nat.le_of_ble_eq_true rfl) ?_
  exact W.iret (v := 0) hx hb hr (QG_.mk (fun _ => 0) (fun _ => 0) (fun _ => 0) [0] [] hP hD hK hS rfl trivial rfl (by decide) rfl) hS.2.2 dX11_letter_19
set_option maxHeartbeats 4000000 in
set_option maxRecDepth 100000 in
theorem c_X10_letter_1 (l : Launch) (hl0 : l.stackTraces = false) (D : va_G) (ad : Nat → Nat) (sz : Nat) (r0 : Nat) (p0 : Int32) (p1 : Int32) (hy0 : ¬ p1 < 0) (hy1 : 3 < p1) : vx_Met l yX10_letter wsX10_letter ({ frames := 6, cells := 1, slots := 6, locals := 100 }) (PC_ D ad [] [] sz [.ref r0, .int p0, .int p1]) QN_ (XT_ "java/lang/IllegalArgumentException" (va_A [] sz)) 1 6 (va_A [] sz) := by
  refine vx_ofW (cc := cX10_letter) (maxL := 3) (ret := (some .int)) (by decide) rfl ?_
  intro p e s m args below meth c s₁ B hml htab hv
  obtain ⟨rfl, hsz, hP, hK, hD0, hF⟩ := hv
  have hx := B.exec
  have hb := B.bytes
  have hr := B.returns
  have hts := atoms_spec (ws := wsX10_letter) B.pre
  have hown : s.vm.findClass RX10 = some m.cls := findClass_of_methodNamed B.named
  have hlocks := B.notSynchronized
  subst hsz
  have hD := hD0.self (sz := s.heap.size)
  generalize hAe : va_A [] s.heap.size = A at hD hF ⊢
  have hA : ∀ q : Nat, s.heap.size ≤ q → A q := fun q h => by rw [← hAe]; exact Or.inr h
  obtain ⟨H, hHe⟩ : ∃ H : Heap, H = s.heap := ⟨_, rfl⟩
  have hS : va_S A s.heap H [] := by rw [hHe]; exact va_S.rf
  have hP : va_P D vwCl [] H := by rw [hHe]; exact hP
  rw [← hHe]
  have hl := lv_entry [.ref r0, .int p0, .int p1] (n := 3) (Nat.le_of_ble_eq_true rfl)
  rw [lg_entry_eq]
  generalize (lg_sl [.ref r0, .int p0, .int p1] ++ List.replicate (3 - (lg_sl [.ref r0, .int p0, .int p1]).length) Slot.unset).toArray = ls at hl ⊢
  have hl : lv_has ls 3 [(0, .ref r0), (1, .int p0), (2, .int p1)] := hl
  refine lv_iload_n hx hb dX10_letter_0 rfl (lv_at hl 2 rfl) ?_
  refine lv_if_lt (tgt := 9) hx hb dX10_letter_1 (by decide) (fun c9 => absurd c9 hy0) (fun _ => ?_)
  refine lv_iload_n hx hb dX10_letter_4 rfl (lv_at hl 2 rfl) ?_
  refine lv_iconst (v := 3) hx hb dX10_letter_5 (by decide) ?_
  refine lv_icmp_le (tgt := 19) hx hb dX10_letter_6 (by decide) (fun c9 => absurd c9 (fun z9 => by have z8 := f_le z9; have y0 := f_lt hy1; have e0 : (3 : Int32).toInt = 3 := by decide +kernel; omega)) (fun _ => ?_)
  obtain ⟨sa9, hstr⟩ := fxs_ hF RX10 184 "what is not from 0 to 3"
  exact vx_throwS (own := RX10) (cls := "java/lang/IllegalArgumentException") (names := ["java/lang/RuntimeException", "java/lang/Exception"]) hx hb hl0 hown (by decide +kernel) (by decide +kernel) (hts (.classLink RX10 149 "java/lang/IllegalArgumentException") (List.mem_of_getElem? (i := 1) (by decide +kernel))) (hts (.initialized "java/lang/IllegalArgumentException") (List.mem_of_getElem? (i := 2) (by decide +kernel))) hstr (fxw_ hts (by decide +kernel) (by decide +kernel)) (by decide +kernel) hF.2.2.2.2.1 hF.2.2.2.2.2.1 hS (by rw [hml]; exact hl.1) dX10_letter_9 dX10_letter_12 dX10_letter_13 dX10_letter_15 dX10_letter_18 (fun x9 hx9 => (htab x9 hx9).elim) (Nat.le_of_ble_eq_true rfl) (Nat.le_of_ble_eq_true rfl) (Nat.le_of_ble_eq_true rfl) (Nat.le_of_ble_eq_true rfl) hlocks (fun t9 _ hz9 hq9 => ⟨rfl, xt_ hS hz9 hq9⟩) hS.2.2 (Nat.le_of_ble_eq_true rfl) (Nat.le_of_ble_eq_true rfl)
set_option maxHeartbeats 4000000 in
set_option maxRecDepth 100000 in
theorem c_L_letter_1 (l : Launch) (hl0 : l.stackTraces = false) (D : va_G) (ad : Nat → Nat) (sz : Nat) (h0 : Nat) (r0 : Nat) (v0 : Value) (v1 : Value) (v2 : Value) (v3 : Value) (v4 : Value) (v5 : Value) (v6 : Value) (v7 : Value) (v8 : Value) (v9 : Value) (p0 : Int32) (p1 : Int32) (hy0 : ¬ p1 < 0) (hy1 : 3 < p1) : Met l yL_letter wsL_letter ({ frames := 7, cells := 1, slots := 6, locals := 124 }) (PC_ D ad [(h0, .inr (13, [v0, v1, v2, v3, v4, v5, v6, v7, v8, v9]))] [] sz [.ref h0, .int p0, .int p1, .ref r0]) (QG_ D (fun q i => some (.int 1)) (fun q i => True) (fun q k i => []) (fun q k i => []) (va_A [(h0, .inr (13, [v0, v1, v2, v3, v4, v5, v6, v7, v8, v9]))] sz)) 1 6 (va_A [(h0, .inr (13, [v0, v1, v2, v3, v4, v5, v6, v7, v8, v9]))] sz) := by
  refine va_MetW (cc := cL_letter) (maxL := 5) (ret := (some .int)) (by decide) rfl ?_
  intro p e s m args below meth c s₁ B hml hv
  obtain ⟨rfl, hsz, hP, hK, hD0, hF⟩ := hv
  have hx := B.exec
  have hb := B.bytes
  have hr := B.returns
  have hts := atoms_spec (ws := wsL_letter) B.pre
  have hown : s.vm.findClass RL = some m.cls := findClass_of_methodNamed B.named
  have hlocks := B.notSynchronized
  have htb := vx_table B (hts _ (List.mem_cons_self))
  subst hsz
  have hD := hD0.self (sz := s.heap.size)
  generalize hAe : va_A [(h0, .inr (13, [v0, v1, v2, v3, v4, v5, v6, v7, v8, v9]))] s.heap.size = A at hD hF ⊢
  have hA : ∀ q : Nat, s.heap.size ≤ q → A q := fun q h => by rw [← hAe]; exact Or.inr h
  obtain ⟨H, hHe⟩ : ∃ H : Heap, H = s.heap := ⟨_, rfl⟩
  have hS : va_S A s.heap H [] := by rw [hHe]; exact va_S.rf
  have hP : va_P D vwCl [(h0, .inr (13, [v0, v1, v2, v3, v4, v5, v6, v7, v8, v9]))] H := by rw [hHe]; exact hP
  rw [← hHe]
  have hl := lv_entry [.ref h0, .int p0, .int p1, .ref r0] (n := 5) (Nat.le_of_ble_eq_true rfl)
  rw [lg_entry_eq]
  generalize (lg_sl [.ref h0, .int p0, .int p1, .ref r0] ++ List.replicate (5 - (lg_sl [.ref h0, .int p0, .int p1, .ref r0]).length) Slot.unset).toArray = ls at hl ⊢
  have hl : lv_has ls 5 [(0, .ref h0), (1, .int p0), (2, .int p1), (3, .ref r0)] := hl
  refine lv_aload_n hx hb dL_letter_0 rfl (lv_at hl 3 rfl) ?_
  refine lv_iconst (v := 0) hx hb dL_letter_1 (by decide) ?_
  refine lv_aload_n hx hb dL_letter_2 rfl (lv_at hl 0 rfl) ?_
  refine lv_iload_n hx hb dL_letter_3 rfl (lv_at hl 1 rfl) ?_
  refine lv_iload_n hx hb dL_letter_4 rfl (lv_at hl 2 rfl) ?_
  refine kx_ (E0 := "java/lang/IllegalArgumentException") (wc := []) (vx_runV (As := [.int p0, .int p1]) (rest := [.int 0, .ref r0]) ⟨hx, hb, hml, hown, hts⟩ (c_X10_letter_1 l hl0 D ad H.size h0 p0 p1 hy0 hy1) (cwV 2 hts gL_letter_X10_letter rfl rfl rfl (by decide +kernel) ⟨Nat.le_of_ble_eq_true rfl, Nat.le_of_ble_eq_true rfl⟩) ⟨PC_.blind, va_recv hK hP (ci := 13) (q0 := 0) rfl rfl, PC_.pre hF hK hP hD hS hA [] [] rfl (by decide) rfl⟩ rfl rfl hl.1 rfl (lv_room (Nat.le_of_ble_eq_true rfl)) dL_letter_5 ⟨Nat.le_of_ble_eq_true rfl, Nat.le_of_ble_eq_true rfl⟩) hD hS hA [] rfl (fun ce q9 H locs hS hce hvm hcl => ?_)
  refine vx_catch (own := RL) (name := "java/lang/IllegalArgumentException") (E := "java/lang/IllegalArgumentException") hown [] (⟨0, 10, 13, 38⟩ : ExceptionTableEntry) [(⟨0, 10, 17, 43⟩ : ExceptionTableEntry)] (htb.trans rfl) (fun z hz => by cases hz) (by decide) (by decide) (hts (.classLink RL 38 "java/lang/IllegalArgumentException") (List.mem_of_getElem? (i := 1) (by decide +kernel))) (fxk_ hF "java/lang/IllegalArgumentException" "java/lang/IllegalArgumentException") hce hvm hcl ?_
  have hP : va_P D vwCl [] H := fun k q h => by simp at h
  have hD : va_D A [] := ⟨fun i j p q h => by simp at h, fun k q h => by simp at h⟩
  have hK : va_K D vwCl [] s := ⟨hK.1, fun k q h => by simp at h⟩
  refine W.eq (g2 := F0 m 13 ls [.ref q9]) rfl ?_
  refine lv_astore (lv' := [(4, .ref q9), (0, .ref h0), (1, .int p0), (2, .int p1), (3, .ref r0)]) hx hb dL_letter_13 hl (by decide) rfl (fun ls hl => ?_)
  refine lv_iconst (v := 1) hx hb dL_letter_15 (by decide) ?_
  refine W.widen (k := 1) (n := 6) (Nat.le_of_ble_eq_true rfl) (Nat.le_of_ble_eq_true rfl) ?_
  exact W.iret (v := 1) hx hb hr (QG_.mk (fun _ => 0) (fun _ => 0) (fun _ => 0) [] [] hP hD hK hS rfl trivial rfl (by decide) rfl) hS.2.2 dL_letter_16
set_option maxHeartbeats 4000000 in
set_option maxRecDepth 100000 in
theorem c_X11_in_5 (l : Launch) (hl0 : l.stackTraces = false) (D : va_G) (ad : Nat → Nat) (sz : Nat) (p0 : Int32) (hy0 : ¬ p0 < 0) (hy1 : 3 < p0) : Met l yX11_in wsX11_in ({ frames := 0, cells := 0, slots := 0, locals := 0 }) (PC_ D ad [] [] sz [.int p0, .int 0, .int 3]) (QG_ D (fun q i => some (.int 0)) (fun q i => True) (fun q k i => []) (fun q k i => []) (va_A [] sz)) 0 0 (va_A [] sz) := by
  refine Met.ofW (cc := cX11_in) (maxL := 3) (ret := (some .boolean)) (by decide) rfl ?_
  intro p e s m args below meth c s₁ B hml hv
  obtain ⟨rfl, hsz, hP, hK, hD0, hF⟩ := hv
  have hx := B.exec
  have hb := B.bytes
  have hr := B.returns
  have hts := atoms_spec (ws := wsX11_in) B.pre
  have hown : s.vm.findClass RX11 = some m.cls := findClass_of_methodNamed B.named
  have hlocks := B.notSynchronized
  subst hsz
  have hD := hD0.self (sz := s.heap.size)
  generalize hAe : va_A [] s.heap.size = A at hD hF ⊢
  have hA : ∀ q : Nat, s.heap.size ≤ q → A q := fun q h => by rw [← hAe]; exact Or.inr h
  obtain ⟨H, hHe⟩ : ∃ H : Heap, H = s.heap := ⟨_, rfl⟩
  have hS : va_S A s.heap H [] := by rw [hHe]; exact va_S.rf
  have hP : va_P D vwCl [] H := by rw [hHe]; exact hP
  rw [← hHe]
  have hl := lv_entry [.int p0, .int 0, .int 3] (n := 3) (Nat.le_of_ble_eq_true rfl)
  rw [lg_entry_eq]
  generalize (lg_sl [.int p0, .int 0, .int 3] ++ List.replicate (3 - (lg_sl [.int p0, .int 0, .int 3]).length) Slot.unset).toArray = ls at hl ⊢
  have hl : lv_has ls 3 [(0, .int p0), (1, .int 0), (2, .int 3)] := hl
  refine lv_iload_n hx hb dX11_in_0 rfl (lv_at hl 0 rfl) ?_
  refine lv_iload_n hx hb dX11_in_1 rfl (lv_at hl 1 rfl) ?_
  refine lv_icmp_lt (tgt := 14) hx hb dX11_in_2 (by decide) (fun c9 => absurd c9 hy0) (fun _ => ?_)
  refine lv_iload_n hx hb dX11_in_5 rfl (lv_at hl 0 rfl) ?_
  refine lv_iload_n hx hb dX11_in_6 rfl (lv_at hl 2 rfl) ?_
  refine lv_icmp_gt (tgt := 14) hx hb dX11_in_7 (by decide) (fun _ => ?_) (fun c9 => absurd hy1 c9)
  refine lv_iconst (v := 0) hx hb dX11_in_14 (by decide) ?_
  refine W.widen (k := 0) (n := 0) (Nat.le_of_ble_eq_true rfl) (Nat.le_of_ble_eq_true rfl) ?_
  exact W.zret (v := 0) hx hb hr rfl (QG_.mk (fun _ => 0) (fun _ => 0) (fun _ => 0) [] [] hP hD hK hS rfl trivial rfl (by decide) rfl) hS.2.2 dX11_in_15
set_option maxHeartbeats 4000000 in
set_option maxRecDepth 100000 in
theorem c_X11_letter_1 (l : Launch) (hl0 : l.stackTraces = false) (D : va_G) (ad : Nat → Nat) (sz : Nat) (h0 : Nat) (v0 : Value) (v1 : Value) (v2 : Value) (v3 : Value) (v4 : Value) (v5 : Value) (v6 : Value) (v7 : Value) (v8 : Value) (v9 : Value) (v10 : Value) (v11 : Value) (v12 : Value) (v13 : Value) (v14 : Value) (v15 : Value) (v16 : Value) (v17 : Value) (v18 : Value) (v19 : Value) (v20 : Value) (v21 : Value) (v22 : Value) (v23 : Value) (v24 : Value) (p0 : Int32) (p1 : Int32) (hy0 : ¬ p1 < 0) (hy1 : 3 < p1) : Met l yX11_letter wsX11_letter ({ frames := 1, cells := 0, slots := 0, locals := 24 }) (PC_ D ad [(h0, .inr (14, [v0, v1, v2, v3, v4, v5, v6, v7, v8, v9, v10, v11, v12, v13, v14, v15, v16, v17, v18, v19, v20, v21, v22, v23, v24]))] [] sz [.ref h0, .int p0, .int p1]) (QG_ D (fun q i => some (.int 0)) (fun q i => True) (fun q k i => [(h0, .inr (14, [v0, v1, v2, v3, v4, v5, v6, v7, v8, v9, v10, v11, v12, v13, v14, v15, v16, v17, v18, v19, v20, v21, v22, .int 1, v24]))]) (fun q k i => []) (va_A [(h0, .inr (14, [v0, v1, v2, v3, v4, v5, v6, v7, v8, v9, v10, v11, v12, v13, v14, v15, v16, v17, v18, v19, v20, v21, v22, v23, v24]))] sz)) 0 0 (va_A [(h0, .inr (14, [v0, v1, v2, v3, v4, v5, v6, v7, v8, v9, v10, v11, v12, v13, v14, v15, v16, v17, v18, v19, v20, v21, v22, v23, v24]))] sz) := by
  refine Met.ofW (cc := cX11_letter) (maxL := 4) (ret := (some .int)) (by decide) rfl ?_
  intro p e s m args below meth c s₁ B hml hv
  obtain ⟨rfl, hsz, hP, hK, hD0, hF⟩ := hv
  have hx := B.exec
  have hb := B.bytes
  have hr := B.returns
  have hts := atoms_spec (ws := wsX11_letter) B.pre
  have hown : s.vm.findClass RX11 = some m.cls := findClass_of_methodNamed B.named
  have hlocks := B.notSynchronized
  subst hsz
  have hD := hD0.self (sz := s.heap.size)
  generalize hAe : va_A [(h0, .inr (14, [v0, v1, v2, v3, v4, v5, v6, v7, v8, v9, v10, v11, v12, v13, v14, v15, v16, v17, v18, v19, v20, v21, v22, v23, v24]))] s.heap.size = A at hD hF ⊢
  have hA : ∀ q : Nat, s.heap.size ≤ q → A q := fun q h => by rw [← hAe]; exact Or.inr h
  obtain ⟨H, hHe⟩ : ∃ H : Heap, H = s.heap := ⟨_, rfl⟩
  have hS : va_S A s.heap H [] := by rw [hHe]; exact va_S.rf
  have hP : va_P D vwCl [(h0, .inr (14, [v0, v1, v2, v3, v4, v5, v6, v7, v8, v9, v10, v11, v12, v13, v14, v15, v16, v17, v18, v19, v20, v21, v22, v23, v24]))] H := by rw [hHe]; exact hP
  rw [← hHe]
  have hi_X11 : ∀ w ∈ wsX110, w ∈ wsX11_letter := by decide +kernel
  have hl := lv_entry [.ref h0, .int p0, .int p1] (n := 4) (Nat.le_of_ble_eq_true rfl)
  rw [lg_entry_eq]
  generalize (lg_sl [.ref h0, .int p0, .int p1] ++ List.replicate (4 - (lg_sl [.ref h0, .int p0, .int p1]).length) Slot.unset).toArray = ls at hl ⊢
  have hl : lv_has ls 4 [(0, .ref h0), (1, .int p0), (2, .int p1)] := hl
  refine lv_aload_n hx hb dX11_letter_0 rfl (lv_at hl 0 rfl) ?_
  refine lv_iconst (v := 0) hx hb dX11_letter_1 (by decide) ?_
  refine va_put (D := D) (ci := 14) (v := .int 0) (ty := .int) (own := RX11) (C := RX11) (T := TX11) (N := 25) hx hb hts hi_X11 tyX11 tyX11_ok nmX11 hown hK hP hD hS 0 rfl rfl 23 (by decide) (hts (.fieldLink RX11 47 "CanalMapsModel" "thrown" "I") (List.mem_of_getElem? (i := 1) (by decide +kernel))) (fun _ h9 => h9) rfl (by decide +kernel) rfl rfl (Nat.le_of_ble_eq_true rfl) dX11_letter_2 (fun H locs hP hD hS => ?_)
  have hP : va_P D vwCl [(h0, .inr (14, [v0, v1, v2, v3, v4, v5, v6, v7, v8, v9, v10, v11, v12, v13, v14, v15, v16, v17, v18, v19, v20, v21, v22, .int 0, v24]))] H := hP
  have hD : va_D A [(h0, .inr (14, [v0, v1, v2, v3, v4, v5, v6, v7, v8, v9, v10, v11, v12, v13, v14, v15, v16, v17, v18, v19, v20, v21, v22, .int 0, v24]))] := hD
  refine lv_iload_n hx hb dX11_letter_5 rfl (lv_at hl 2 rfl) ?_
  refine lv_iconst (v := 0) hx hb dX11_letter_6 (by decide) ?_
  refine lv_iconst (v := 3) hx hb dX11_letter_7 (by decide) ?_
  refine kc_ (wc := []) (wr := [(h0, .inr (14, [v0, v1, v2, v3, v4, v5, v6, v7, v8, v9, v10, v11, v12, v13, v14, v15, v16, v17, v18, v19, v20, v21, v22, .int 0, v24]))]) (va_runS (As := [.int p1, .int 0, .int 3]) (rest := []) ⟨hx, hb, hml, hown, hts⟩ (c_X11_in_5 l hl0 D ad H.size p1 hy0 hy1) (va_cwS 3 hts gX11_letter_X11_in rfl rfl rfl (by decide +kernel) ⟨Nat.le_of_ble_eq_true rfl, Nat.le_of_ble_eq_true rfl⟩) ⟨PC_.blind, PC_.pre hF hK hP hD hS hA [] [] rfl (by decide) rfl⟩ rfl rfl hl.1 rfl (lv_room (Nat.le_of_ble_eq_true rfl)) dX11_letter_8 ⟨Nat.le_of_ble_eq_true rfl, Nat.le_of_ble_eq_true rfl⟩) hK hP hD hS hA [] [0] [] rfl rfl (by decide) (by decide) rfl (fun qa_1 ka_1 ia_1 H locs hpo hP hD hK hS => ?_)
  have hP : va_P D vwCl [(h0, .inr (14, [v0, v1, v2, v3, v4, v5, v6, v7, v8, v9, v10, v11, v12, v13, v14, v15, v16, v17, v18, v19, v20, v21, v22, .int 0, v24]))] H := hP
  have hD : va_D A [(h0, .inr (14, [v0, v1, v2, v3, v4, v5, v6, v7, v8, v9, v10, v11, v12, v13, v14, v15, v16, v17, v18, v19, v20, v21, v22, .int 0, v24]))] := hD
  have hK : va_K D vwCl [] s := hK
  refine W.eq (g2 := F0 m 11 ls [.int 0]) rfl ?_
  refine lv_if_ne (tgt := 20) hx hb dX11_letter_11 (by decide) (fun c9 => absurd (by decide +kernel) c9) (fun _ => ?_)
  refine lv_aload_n hx hb dX11_letter_14 rfl (lv_at hl 0 rfl) ?_
  refine lv_iconst (v := 1) hx hb dX11_letter_15 (by decide) ?_
  refine kc_ (wc := [(h0, .inr (14, [v0, v1, v2, v3, v4, v5, v6, v7, v8, v9, v10, v11, v12, v13, v14, v15, v16, v17, v18, v19, v20, v21, v22, .int 0, v24]))]) (wr := []) (va_runV (As := [.int 1]) (rest := []) ⟨hx, hb, hml, hown, hts⟩ (c_X11_raises_0 l hl0 D ad H.size h0 (v0) (v1) (v2) (v3) (v4) (v5) (v6) (v7) (v8) (v9) (v10) (v11) (v12) (v13) (v14) (v15) (v16) (v17) (v18) (v19) (v20) (v21) (v22) (.int 0) (v24)) (cwV 1 hts gX11_letter_X11_raises rfl rfl rfl (by decide +kernel) ⟨Nat.le_of_ble_eq_true rfl, Nat.le_of_ble_eq_true rfl⟩) ⟨PC_.blind, va_recv hK hP (ci := 14) (q0 := 0) rfl rfl, PC_.pre hF hK hP hD hS hA [0] [] rfl (by decide) rfl⟩ rfl rfl hl.1 rfl (lv_room (Nat.le_of_ble_eq_true rfl)) dX11_letter_16 ⟨Nat.le_of_ble_eq_true rfl, Nat.le_of_ble_eq_true rfl⟩) hK hP hD hS hA [0] [] [] rfl rfl (by decide) (by decide) rfl (fun qa_2 ka_2 ia_2 H locs hpo hP hD hK hS => ?_)
  have hP : va_P D vwCl [(h0, .inr (14, [v0, v1, v2, v3, v4, v5, v6, v7, v8, v9, v10, v11, v12, v13, v14, v15, v16, v17, v18, v19, v20, v21, v22, .int 1, v24]))] H := hP
  have hD : va_D A [(h0, .inr (14, [v0, v1, v2, v3, v4, v5, v6, v7, v8, v9, v10, v11, v12, v13, v14, v15, v16, v17, v18, v19, v20, v21, v22, .int 1, v24]))] := hD
  have hK : va_K D vwCl [] s := hK
  refine W.eq (g2 := F0 m 19 ls [.int 0]) rfl ?_
  refine W.widen (k := 0) (n := 0) (Nat.le_of_ble_eq_true rfl) (Nat.le_of_ble_eq_true rfl) ?_
  exact W.iret (v := 0) hx hb hr (QG_.mk (fun _ => 0) (fun _ => 0) (fun _ => 0) [0] [] hP hD hK hS rfl trivial rfl (by decide) rfl) hS.2.2 dX11_letter_19
set_option maxHeartbeats 4000000 in
set_option maxRecDepth 100000 in
theorem c_X5_has_0 (l : Launch) (hl0 : l.stackTraces = false) (D : va_G) (ad : Nat → Nat) (sz : Nat) (h0 : Nat) (v0 : Value) (v1 : Value) (p0 : Int32) : Met l yX5_has wsX5_has ({ frames := 0, cells := 0, slots := 0, locals := 0 }) (PC_ D ad [(h0, .inr (8, [v0, .int 0, v1]))] [] sz [.ref h0, .int p0]) (QG_ D (fun q i => some (.int 0)) (fun q i => True) (fun q k i => [(h0, .inr (8, [v0, .int 0, v1]))]) (fun q k i => []) (va_A [(h0, .inr (8, [v0, .int 0, v1]))] sz)) 0 0 (va_A [(h0, .inr (8, [v0, .int 0, v1]))] sz) := by
  refine Met.ofW (cc := cX5_has) (maxL := 2) (ret := (some .boolean)) (by decide) rfl ?_
  intro p e s m args below meth c s₁ B hml hv
  obtain ⟨rfl, hsz, hP, hK, hD0, hF⟩ := hv
  have hx := B.exec
  have hb := B.bytes
  have hr := B.returns
  have hts := atoms_spec (ws := wsX5_has) B.pre
  have hown : s.vm.findClass RX5 = some m.cls := findClass_of_methodNamed B.named
  have hlocks := B.notSynchronized
  subst hsz
  have hD := hD0.self (sz := s.heap.size)
  generalize hAe : va_A [(h0, .inr (8, [v0, .int 0, v1]))] s.heap.size = A at hD hF ⊢
  have hA : ∀ q : Nat, s.heap.size ≤ q → A q := fun q h => by rw [← hAe]; exact Or.inr h
  obtain ⟨H, hHe⟩ : ∃ H : Heap, H = s.heap := ⟨_, rfl⟩
  have hS : va_S A s.heap H [] := by rw [hHe]; exact va_S.rf
  have hP : va_P D vwCl [(h0, .inr (8, [v0, .int 0, v1]))] H := by rw [hHe]; exact hP
  rw [← hHe]
  have hi_X5 : ∀ w ∈ wsX50, w ∈ wsX5_has := by decide +kernel
  have hl := lv_entry [.ref h0, .int p0] (n := 2) (Nat.le_of_ble_eq_true rfl)
  rw [lg_entry_eq]
  generalize (lg_sl [.ref h0, .int p0] ++ List.replicate (2 - (lg_sl [.ref h0, .int p0]).length) Slot.unset).toArray = ls at hl ⊢
  have hl : lv_has ls 2 [(0, .ref h0), (1, .int p0)] := hl
  refine lv_iload_n hx hb dX5_has_0 rfl (lv_at hl 1 rfl) ?_
  refine lv_if_lt (tgt := 16) hx hb dX5_has_1 (by decide) (fun c_1 => ?_) (fun c_1 => ?_)
  · refine lv_iconst (v := 0) hx hb dX5_has_16 (by decide) ?_
    refine W.widen (k := 0) (n := 0) (Nat.le_of_ble_eq_true rfl) (Nat.le_of_ble_eq_true rfl) ?_
    exact W.zret (v := 0) hx hb hr rfl (QG_.mk (fun _ => 0) (fun _ => 0) (fun _ => 0) [0] [] hP hD hK hS rfl trivial rfl (by decide) rfl) hS.2.2 dX5_has_17
  · refine lv_iload_n hx hb dX5_has_4 rfl (lv_at hl 1 rfl) ?_
    refine lv_aload_n hx hb dX5_has_5 rfl (lv_at hl 0 rfl) ?_
    refine va_get (D := D) (ci := 8) (v := .int 0) (own := RX5) (C := RX5) (T := TX5) (N := 3) hx hb hts hi_X5 hown hK hP 0 rfl rfl 1 (by decide) (hts (.fieldLink RX5 15 "CanalMaps$Letters" "count" "I") (List.mem_of_getElem? (i := 1) (by decide +kernel))) (fun _ h9 => h9) rfl dX5_has_6 ?_
    refine lv_icmp_ge (tgt := 16) hx hb dX5_has_9 (by decide) (fun _ => ?_) (fun c9 => absurd (Int32.le_iff_toInt_le.mpr (by have y0 := f_nlt c_1; have e0 : (0 : Int32).toInt = 0 := by decide +kernel; omega)) c9)
    refine lv_iconst (v := 0) hx hb dX5_has_16 (by decide) ?_
    refine W.widen (k := 0) (n := 0) (Nat.le_of_ble_eq_true rfl) (Nat.le_of_ble_eq_true rfl) ?_
    exact W.zret (v := 0) hx hb hr rfl (QG_.mk (fun _ => 0) (fun _ => 0) (fun _ => 0) [0] [] hP hD hK hS rfl trivial rfl (by decide) rfl) hS.2.2 dX5_has_17
set_option maxHeartbeats 4000000 in
set_option maxRecDepth 100000 in
theorem c_X10_letter_2 (l : Launch) (hl0 : l.stackTraces = false) (D : va_G) (ad : Nat → Nat) (sz : Nat) (h0 : Nat) (h1 : Nat) (h2 : Nat) (v0 : Value) (v1 : Value) (v2 : Value) (v3 : Value) (v4 : Value) (v5 : Value) (v6 : Value) (v7 : Value) (v8 : Value) (v9 : Value) (v10 : Value) (v11 : Value) (v12 : Value) (v13 : Value) (v14 : Value) (v15 : Value) (v16 : Value) (v17 : Value) (v18 : Value) (v19 : Value) (p0 : Int32) (p1 : Int32) (hy0 : ¬ p1 < 0) (hy1 : ¬ 3 < p1) : vx_Met l yX10_letter wsX10_letter ({ frames := 6, cells := 1, slots := 6, locals := 100 }) (PC_ D ad [(h0, .inr (13, [.ref h1, v0, v1, v2, v3, v4, v5, v6, v7, v8])), (h1, .inr (11, [v9, v10, v11, v12, .ref h2, v13, v14, v15, v16, v17])), (h2, .inr (8, [v18, .int 0, v19]))] [] sz [.ref h0, .int p0, .int p1]) QN_ (XT_ "java/util/NoSuchElementException" (va_A [(h0, .inr (13, [.ref h1, v0, v1, v2, v3, v4, v5, v6, v7, v8])), (h1, .inr (11, [v9, v10, v11, v12, .ref h2, v13, v14, v15, v16, v17])), (h2, .inr (8, [v18, .int 0, v19]))] sz)) 1 6 (va_A [(h0, .inr (13, [.ref h1, v0, v1, v2, v3, v4, v5, v6, v7, v8])), (h1, .inr (11, [v9, v10, v11, v12, .ref h2, v13, v14, v15, v16, v17])), (h2, .inr (8, [v18, .int 0, v19]))] sz) := by
  refine vx_ofW (cc := cX10_letter) (maxL := 3) (ret := (some .int)) (by decide) rfl ?_
  intro p e s m args below meth c s₁ B hml htab hv
  obtain ⟨rfl, hsz, hP, hK, hD0, hF⟩ := hv
  have hx := B.exec
  have hb := B.bytes
  have hr := B.returns
  have hts := atoms_spec (ws := wsX10_letter) B.pre
  have hown : s.vm.findClass RX10 = some m.cls := findClass_of_methodNamed B.named
  have hlocks := B.notSynchronized
  subst hsz
  have hD := hD0.self (sz := s.heap.size)
  generalize hAe : va_A [(h0, .inr (13, [.ref h1, v0, v1, v2, v3, v4, v5, v6, v7, v8])), (h1, .inr (11, [v9, v10, v11, v12, .ref h2, v13, v14, v15, v16, v17])), (h2, .inr (8, [v18, .int 0, v19]))] s.heap.size = A at hD hF ⊢
  have hA : ∀ q : Nat, s.heap.size ≤ q → A q := fun q h => by rw [← hAe]; exact Or.inr h
  obtain ⟨H, hHe⟩ : ∃ H : Heap, H = s.heap := ⟨_, rfl⟩
  have hS : va_S A s.heap H [] := by rw [hHe]; exact va_S.rf
  have hP : va_P D vwCl [(h0, .inr (13, [.ref h1, v0, v1, v2, v3, v4, v5, v6, v7, v8])), (h1, .inr (11, [v9, v10, v11, v12, .ref h2, v13, v14, v15, v16, v17])), (h2, .inr (8, [v18, .int 0, v19]))] H := by rw [hHe]; exact hP
  rw [← hHe]
  have hi_X10 : ∀ w ∈ wsX100, w ∈ wsX10_letter := by decide +kernel
  have hi_X5 : ∀ w ∈ wsX50, w ∈ wsX10_letter := by decide +kernel
  have hi_X8 : ∀ w ∈ wsX80, w ∈ wsX10_letter := by decide +kernel
  have hl := lv_entry [.ref h0, .int p0, .int p1] (n := 3) (Nat.le_of_ble_eq_true rfl)
  rw [lg_entry_eq]
  generalize (lg_sl [.ref h0, .int p0, .int p1] ++ List.replicate (3 - (lg_sl [.ref h0, .int p0, .int p1]).length) Slot.unset).toArray = ls at hl ⊢
  have hl : lv_has ls 3 [(0, .ref h0), (1, .int p0), (2, .int p1)] := hl
  refine lv_iload_n hx hb dX10_letter_0 rfl (lv_at hl 2 rfl) ?_
  refine lv_if_lt (tgt := 9) hx hb dX10_letter_1 (by decide) (fun c9 => absurd c9 hy0) (fun _ => ?_)
  refine lv_iload_n hx hb dX10_letter_4 rfl (lv_at hl 2 rfl) ?_
  refine lv_iconst (v := 3) hx hb dX10_letter_5 (by decide) ?_
  refine lv_icmp_le (tgt := 19) hx hb dX10_letter_6 (by decide) (fun _ => ?_) (fun c9 => absurd (Int32.le_iff_toInt_le.mpr (by have y0 := f_nlt hy0; have y1 := f_nlt hy1; have e0 : (0 : Int32).toInt = 0 := by decide +kernel; have e1 : (3 : Int32).toInt = 3 := by decide +kernel; omega)) c9)
  refine lv_aload_n hx hb dX10_letter_19 rfl (lv_at hl 0 rfl) ?_
  refine va_get (D := D) (ci := 13) (v := .ref h1) (own := RX10) (C := RX10) (T := TX10) (N := 10) hx hb hts hi_X10 hown hK hP 0 rfl rfl 0 (by decide) (hts (.fieldLink RX10 50 "CanalMaps" "now" "LCanalMaps$Survey;") (List.mem_of_getElem? (i := 5) (by decide +kernel))) (fun _ h9 => h9) rfl dX10_letter_20 ?_
  refine va_getN (D := D) (ci := 11) (v := .ref h2) (own := RX10) (C := RX8) (T := TX8) (N := 10) hx hb hts hi_X8 hown hK hP 1 rfl rfl 4 (by decide) (fxn_ hF (RX10, 140, "CanalMaps$Survey", "letters", "LCanalMaps$Letters;")) (fun _ h9 => h9) rfl dX10_letter_23 ?_
  refine lv_iload_n hx hb dX10_letter_26 rfl (lv_at hl 1 rfl) ?_
  refine kc_ (wc := [(h2, .inr (8, [v18, .int 0, v19]))]) (wr := [(h0, .inr (13, [.ref h1, v0, v1, v2, v3, v4, v5, v6, v7, v8])), (h1, .inr (11, [v9, v10, v11, v12, .ref h2, v13, v14, v15, v16, v17]))]) (va_runV (As := [.int p0]) (rest := []) ⟨hx, hb, hml, hown, hts⟩ (c_X5_has_0 l hl0 D ad H.size h2 (v18) (v19) p0) (cwV 1 hts gX10_letter_X5_has rfl rfl rfl (by decide +kernel) ⟨Nat.le_of_ble_eq_true rfl, Nat.le_of_ble_eq_true rfl⟩) ⟨PC_.blind, va_recv hK hP (ci := 8) (q0 := 2) rfl rfl, PC_.pre hF hK hP hD hS hA [2] [] rfl (by decide) rfl⟩ rfl rfl hl.1 rfl (lv_room (Nat.le_of_ble_eq_true rfl)) dX10_letter_27 ⟨Nat.le_of_ble_eq_true rfl, Nat.le_of_ble_eq_true rfl⟩) hK hP hD hS hA [2] [0, 1] [] rfl rfl (by decide) (by decide) rfl (fun qa_1 ka_1 ia_1 H locs hpo hP hD hK hS => ?_)
  have hP : va_P D vwCl [(h0, .inr (13, [.ref h1, v0, v1, v2, v3, v4, v5, v6, v7, v8])), (h1, .inr (11, [v9, v10, v11, v12, .ref h2, v13, v14, v15, v16, v17])), (h2, .inr (8, [v18, .int 0, v19]))] H := hP
  have hD : va_D A [(h0, .inr (13, [.ref h1, v0, v1, v2, v3, v4, v5, v6, v7, v8])), (h1, .inr (11, [v9, v10, v11, v12, .ref h2, v13, v14, v15, v16, v17])), (h2, .inr (8, [v18, .int 0, v19]))] := hD
  have hK : va_K D vwCl [] s := hK
  refine W.eq (g2 := F0 m 30 ls [.int 0]) rfl ?_
  refine lv_if_ne (tgt := 43) hx hb dX10_letter_30 (by decide) (fun c9 => absurd (by decide +kernel) c9) (fun _ => ?_)
  obtain ⟨sa9, hstr⟩ := fxs_ hF RX10 190 "there is no such letter"
  exact vx_throwS (own := RX10) (cls := "java/util/NoSuchElementException") (names := ["java/lang/RuntimeException", "java/lang/Exception"]) hx hb hl0 hown (by decide +kernel) (by decide +kernel) (hts (.classLink RX10 158 "java/util/NoSuchElementException") (List.mem_of_getElem? (i := 3) (by decide +kernel))) (hts (.initialized "java/util/NoSuchElementException") (List.mem_of_getElem? (i := 4) (by decide +kernel))) hstr (fxw_ hts (by decide +kernel) (by decide +kernel)) (by decide +kernel) hF.2.2.2.2.1 hF.2.2.2.2.2.1 hS (by rw [hml]; exact hl.1) dX10_letter_33 dX10_letter_36 dX10_letter_37 dX10_letter_39 dX10_letter_42 (fun x9 hx9 => (htab x9 hx9).elim) (Nat.le_of_ble_eq_true rfl) (Nat.le_of_ble_eq_true rfl) (Nat.le_of_ble_eq_true rfl) (Nat.le_of_ble_eq_true rfl) hlocks (fun t9 _ hz9 hq9 => ⟨rfl, xt_ hS hz9 hq9⟩) hS.2.2 (Nat.le_of_ble_eq_true rfl) (Nat.le_of_ble_eq_true rfl)
set_option maxHeartbeats 4000000 in
set_option maxRecDepth 100000 in
theorem c_L_letter_2 (l : Launch) (hl0 : l.stackTraces = false) (D : va_G) (ad : Nat → Nat) (sz : Nat) (h0 : Nat) (h1 : Nat) (h2 : Nat) (r0 : Nat) (v0 : Value) (v1 : Value) (v2 : Value) (v3 : Value) (v4 : Value) (v5 : Value) (v6 : Value) (v7 : Value) (v8 : Value) (v9 : Value) (v10 : Value) (v11 : Value) (v12 : Value) (v13 : Value) (v14 : Value) (v15 : Value) (v16 : Value) (v17 : Value) (v18 : Value) (v19 : Value) (p0 : Int32) (p1 : Int32) (hy0 : ¬ p1 < 0) (hy1 : ¬ 3 < p1) : Met l yL_letter wsL_letter ({ frames := 7, cells := 1, slots := 6, locals := 124 }) (PC_ D ad [(h0, .inr (13, [.ref h1, v0, v1, v2, v3, v4, v5, v6, v7, v8])), (h1, .inr (11, [v9, v10, v11, v12, .ref h2, v13, v14, v15, v16, v17])), (h2, .inr (8, [v18, .int 0, v19]))] [] sz [.ref h0, .int p0, .int p1, .ref r0]) (QG_ D (fun q i => some (.int 2)) (fun q i => True) (fun q k i => []) (fun q k i => []) (va_A [(h0, .inr (13, [.ref h1, v0, v1, v2, v3, v4, v5, v6, v7, v8])), (h1, .inr (11, [v9, v10, v11, v12, .ref h2, v13, v14, v15, v16, v17])), (h2, .inr (8, [v18, .int 0, v19]))] sz)) 1 6 (va_A [(h0, .inr (13, [.ref h1, v0, v1, v2, v3, v4, v5, v6, v7, v8])), (h1, .inr (11, [v9, v10, v11, v12, .ref h2, v13, v14, v15, v16, v17])), (h2, .inr (8, [v18, .int 0, v19]))] sz) := by
  refine va_MetW (cc := cL_letter) (maxL := 5) (ret := (some .int)) (by decide) rfl ?_
  intro p e s m args below meth c s₁ B hml hv
  obtain ⟨rfl, hsz, hP, hK, hD0, hF⟩ := hv
  have hx := B.exec
  have hb := B.bytes
  have hr := B.returns
  have hts := atoms_spec (ws := wsL_letter) B.pre
  have hown : s.vm.findClass RL = some m.cls := findClass_of_methodNamed B.named
  have hlocks := B.notSynchronized
  have htb := vx_table B (hts _ (List.mem_cons_self))
  subst hsz
  have hD := hD0.self (sz := s.heap.size)
  generalize hAe : va_A [(h0, .inr (13, [.ref h1, v0, v1, v2, v3, v4, v5, v6, v7, v8])), (h1, .inr (11, [v9, v10, v11, v12, .ref h2, v13, v14, v15, v16, v17])), (h2, .inr (8, [v18, .int 0, v19]))] s.heap.size = A at hD hF ⊢
  have hA : ∀ q : Nat, s.heap.size ≤ q → A q := fun q h => by rw [← hAe]; exact Or.inr h
  obtain ⟨H, hHe⟩ : ∃ H : Heap, H = s.heap := ⟨_, rfl⟩
  have hS : va_S A s.heap H [] := by rw [hHe]; exact va_S.rf
  have hP : va_P D vwCl [(h0, .inr (13, [.ref h1, v0, v1, v2, v3, v4, v5, v6, v7, v8])), (h1, .inr (11, [v9, v10, v11, v12, .ref h2, v13, v14, v15, v16, v17])), (h2, .inr (8, [v18, .int 0, v19]))] H := by rw [hHe]; exact hP
  rw [← hHe]
  have hi_X10 : ∀ w ∈ wsX100, w ∈ wsL_letter := by decide +kernel
  have hi_X5 : ∀ w ∈ wsX50, w ∈ wsL_letter := by decide +kernel
  have hi_X8 : ∀ w ∈ wsX80, w ∈ wsL_letter := by decide +kernel
  have hl := lv_entry [.ref h0, .int p0, .int p1, .ref r0] (n := 5) (Nat.le_of_ble_eq_true rfl)
  rw [lg_entry_eq]
  generalize (lg_sl [.ref h0, .int p0, .int p1, .ref r0] ++ List.replicate (5 - (lg_sl [.ref h0, .int p0, .int p1, .ref r0]).length) Slot.unset).toArray = ls at hl ⊢
  have hl : lv_has ls 5 [(0, .ref h0), (1, .int p0), (2, .int p1), (3, .ref r0)] := hl
  refine lv_aload_n hx hb dL_letter_0 rfl (lv_at hl 3 rfl) ?_
  refine lv_iconst (v := 0) hx hb dL_letter_1 (by decide) ?_
  refine lv_aload_n hx hb dL_letter_2 rfl (lv_at hl 0 rfl) ?_
  refine lv_iload_n hx hb dL_letter_3 rfl (lv_at hl 1 rfl) ?_
  refine lv_iload_n hx hb dL_letter_4 rfl (lv_at hl 2 rfl) ?_
  refine kx_ (E0 := "java/util/NoSuchElementException") (wc := [(h0, .inr (13, [.ref h1, v0, v1, v2, v3, v4, v5, v6, v7, v8])), (h1, .inr (11, [v9, v10, v11, v12, .ref h2, v13, v14, v15, v16, v17])), (h2, .inr (8, [v18, .int 0, v19]))]) (vx_runV (As := [.int p0, .int p1]) (rest := [.int 0, .ref r0]) ⟨hx, hb, hml, hown, hts⟩ (c_X10_letter_2 l hl0 D ad H.size h0 h1 h2 (v0) (v1) (v2) (v3) (v4) (v5) (v6) (v7) (v8) (v9) (v10) (v11) (v12) (v13) (v14) (v15) (v16) (v17) (v18) (v19) p0 p1 hy0 hy1) (cwV 2 hts gL_letter_X10_letter rfl rfl rfl (by decide +kernel) ⟨Nat.le_of_ble_eq_true rfl, Nat.le_of_ble_eq_true rfl⟩) ⟨PC_.blind, va_recv hK hP (ci := 13) (q0 := 0) rfl rfl, PC_.pre hF hK hP hD hS hA [0, 1, 2] [] rfl (by decide) rfl⟩ rfl rfl hl.1 rfl (lv_room (Nat.le_of_ble_eq_true rfl)) dL_letter_5 ⟨Nat.le_of_ble_eq_true rfl, Nat.le_of_ble_eq_true rfl⟩) hD hS hA [0, 1, 2] rfl (fun ce q9 H locs hS hce hvm hcl => ?_)
  refine vx_catch (own := RL) (name := "java/util/NoSuchElementException") (E := "java/util/NoSuchElementException") hown [(⟨0, 10, 13, 38⟩ : ExceptionTableEntry)] (⟨0, 10, 17, 43⟩ : ExceptionTableEntry) [] (htb.trans rfl) (List.forall_mem_cons.mpr ⟨(Or.inr ⟨by decide, "java/lang/IllegalArgumentException", (hts (.classLink RL 38 "java/lang/IllegalArgumentException") (List.mem_of_getElem? (i := 1) (by decide +kernel))), fxd_ hF "java/util/NoSuchElementException" "java/lang/IllegalArgumentException"⟩), (fun z hz => absurd hz List.not_mem_nil)⟩) (by decide) (by decide) (fxl_ hF (43, "java/util/NoSuchElementException")) (fxk_ hF "java/util/NoSuchElementException" "java/util/NoSuchElementException") hce hvm hcl ?_
  have hP : va_P D vwCl [] H := fun k q h => by simp at h
  have hD : va_D A [] := ⟨fun i j p q h => by simp at h, fun k q h => by simp at h⟩
  have hK : va_K D vwCl [] s := ⟨hK.1, fun k q h => by simp at h⟩
  refine W.eq (g2 := F0 m 17 ls [.ref q9]) rfl ?_
  refine lv_astore (lv' := [(4, .ref q9), (0, .ref h0), (1, .int p0), (2, .int p1), (3, .ref r0)]) hx hb dL_letter_17 hl (by decide) rfl (fun ls hl => ?_)
  refine lv_iconst (v := 2) hx hb dL_letter_19 (by decide) ?_
  refine W.widen (k := 1) (n := 6) (Nat.le_of_ble_eq_true rfl) (Nat.le_of_ble_eq_true rfl) ?_
  exact W.iret (v := 2) hx hb hr (QG_.mk (fun _ => 0) (fun _ => 0) (fun _ => 0) [] [] hP hD hK hS rfl trivial rfl (by decide) rfl) hS.2.2 dL_letter_20
set_option maxHeartbeats 4000000 in
set_option maxRecDepth 100000 in
theorem c_X11_in_6 (l : Launch) (hl0 : l.stackTraces = false) (D : va_G) (ad : Nat → Nat) (sz : Nat) (p0 : Int32) (hy0 : ¬ p0 < 0) (hy1 : ¬ 3 < p0) : Met l yX11_in wsX11_in ({ frames := 0, cells := 0, slots := 0, locals := 0 }) (PC_ D ad [] [] sz [.int p0, .int 0, .int 3]) (QG_ D (fun q i => some (.int 1)) (fun q i => True) (fun q k i => []) (fun q k i => []) (va_A [] sz)) 0 0 (va_A [] sz) := by
  refine Met.ofW (cc := cX11_in) (maxL := 3) (ret := (some .boolean)) (by decide) rfl ?_
  intro p e s m args below meth c s₁ B hml hv
  obtain ⟨rfl, hsz, hP, hK, hD0, hF⟩ := hv
  have hx := B.exec
  have hb := B.bytes
  have hr := B.returns
  have hts := atoms_spec (ws := wsX11_in) B.pre
  have hown : s.vm.findClass RX11 = some m.cls := findClass_of_methodNamed B.named
  have hlocks := B.notSynchronized
  subst hsz
  have hD := hD0.self (sz := s.heap.size)
  generalize hAe : va_A [] s.heap.size = A at hD hF ⊢
  have hA : ∀ q : Nat, s.heap.size ≤ q → A q := fun q h => by rw [← hAe]; exact Or.inr h
  obtain ⟨H, hHe⟩ : ∃ H : Heap, H = s.heap := ⟨_, rfl⟩
  have hS : va_S A s.heap H [] := by rw [hHe]; exact va_S.rf
  have hP : va_P D vwCl [] H := by rw [hHe]; exact hP
  rw [← hHe]
  have hl := lv_entry [.int p0, .int 0, .int 3] (n := 3) (Nat.le_of_ble_eq_true rfl)
  rw [lg_entry_eq]
  generalize (lg_sl [.int p0, .int 0, .int 3] ++ List.replicate (3 - (lg_sl [.int p0, .int 0, .int 3]).length) Slot.unset).toArray = ls at hl ⊢
  have hl : lv_has ls 3 [(0, .int p0), (1, .int 0), (2, .int 3)] := hl
  refine lv_iload_n hx hb dX11_in_0 rfl (lv_at hl 0 rfl) ?_
  refine lv_iload_n hx hb dX11_in_1 rfl (lv_at hl 1 rfl) ?_
  refine lv_icmp_lt (tgt := 14) hx hb dX11_in_2 (by decide) (fun c9 => absurd c9 hy0) (fun _ => ?_)
  refine lv_iload_n hx hb dX11_in_5 rfl (lv_at hl 0 rfl) ?_
  refine lv_iload_n hx hb dX11_in_6 rfl (lv_at hl 2 rfl) ?_
  refine lv_icmp_gt (tgt := 14) hx hb dX11_in_7 (by decide) (fun c9 => absurd c9 hy1) (fun _ => ?_)
  refine lv_iconst (v := 1) hx hb dX11_in_10 (by decide) ?_
  refine lv_goto (tgt := 15) hx hb dX11_in_11 (by decide) ?_
  refine W.widen (k := 0) (n := 0) (Nat.le_of_ble_eq_true rfl) (Nat.le_of_ble_eq_true rfl) ?_
  exact W.zret (v := 1) hx hb hr rfl (QG_.mk (fun _ => 0) (fun _ => 0) (fun _ => 0) [] [] hP hD hK hS rfl trivial rfl (by decide) rfl) hS.2.2 dX11_in_15
set_option maxHeartbeats 4000000 in
set_option maxRecDepth 100000 in
theorem c_X11_raises_1 (l : Launch) (hl0 : l.stackTraces = false) (D : va_G) (ad : Nat → Nat) (sz : Nat) (h0 : Nat) (v0 : Value) (v1 : Value) (v2 : Value) (v3 : Value) (v4 : Value) (v5 : Value) (v6 : Value) (v7 : Value) (v8 : Value) (v9 : Value) (v10 : Value) (v11 : Value) (v12 : Value) (v13 : Value) (v14 : Value) (v15 : Value) (v16 : Value) (v17 : Value) (v18 : Value) (v19 : Value) (v20 : Value) (v21 : Value) (v22 : Value) (v23 : Value) (v24 : Value) : Met l yX11_raises wsX11_raises ({ frames := 0, cells := 0, slots := 0, locals := 0 }) (PC_ D ad [(h0, .inr (14, [v0, v1, v2, v3, v4, v5, v6, v7, v8, v9, v10, v11, v12, v13, v14, v15, v16, v17, v18, v19, v20, v21, v22, v23, v24]))] [] sz [.ref h0, .int 2]) (QG_ D (fun q i => some (.int 0)) (fun q i => True) (fun q k i => [(h0, .inr (14, [v0, v1, v2, v3, v4, v5, v6, v7, v8, v9, v10, v11, v12, v13, v14, v15, v16, v17, v18, v19, v20, v21, v22, .int 2, v24]))]) (fun q k i => []) (va_A [(h0, .inr (14, [v0, v1, v2, v3, v4, v5, v6, v7, v8, v9, v10, v11, v12, v13, v14, v15, v16, v17, v18, v19, v20, v21, v22, v23, v24]))] sz)) 0 0 (va_A [(h0, .inr (14, [v0, v1, v2, v3, v4, v5, v6, v7, v8, v9, v10, v11, v12, v13, v14, v15, v16, v17, v18, v19, v20, v21, v22, v23, v24]))] sz) := by
  refine Met.ofW (cc := cX11_raises) (maxL := 2) (ret := (some .int)) (by decide) rfl ?_
  intro p e s m args below meth c s₁ B hml hv
  obtain ⟨rfl, hsz, hP, hK, hD0, hF⟩ := hv
  have hx := B.exec
  have hb := B.bytes
  have hr := B.returns
  have hts := atoms_spec (ws := wsX11_raises) B.pre
  have hown : s.vm.findClass RX11 = some m.cls := findClass_of_methodNamed B.named
  have hlocks := B.notSynchronized
  subst hsz
  have hD := hD0.self (sz := s.heap.size)
  generalize hAe : va_A [(h0, .inr (14, [v0, v1, v2, v3, v4, v5, v6, v7, v8, v9, v10, v11, v12, v13, v14, v15, v16, v17, v18, v19, v20, v21, v22, v23, v24]))] s.heap.size = A at hD hF ⊢
  have hA : ∀ q : Nat, s.heap.size ≤ q → A q := fun q h => by rw [← hAe]; exact Or.inr h
  obtain ⟨H, hHe⟩ : ∃ H : Heap, H = s.heap := ⟨_, rfl⟩
  have hS : va_S A s.heap H [] := by rw [hHe]; exact va_S.rf
  have hP : va_P D vwCl [(h0, .inr (14, [v0, v1, v2, v3, v4, v5, v6, v7, v8, v9, v10, v11, v12, v13, v14, v15, v16, v17, v18, v19, v20, v21, v22, v23, v24]))] H := by rw [hHe]; exact hP
  rw [← hHe]
  have hi_X11 : ∀ w ∈ wsX110, w ∈ wsX11_raises := by decide +kernel
  have hl := lv_entry [.ref h0, .int 2] (n := 2) (Nat.le_of_ble_eq_true rfl)
  rw [lg_entry_eq]
  generalize (lg_sl [.ref h0, .int 2] ++ List.replicate (2 - (lg_sl [.ref h0, .int 2]).length) Slot.unset).toArray = ls at hl ⊢
  have hl : lv_has ls 2 [(0, .ref h0), (1, .int 2)] := hl
  refine lv_aload_n hx hb dX11_raises_0 rfl (lv_at hl 0 rfl) ?_
  refine lv_iload_n hx hb dX11_raises_1 rfl (lv_at hl 1 rfl) ?_
  refine va_put (D := D) (ci := 14) (v := .int 2) (ty := .int) (own := RX11) (C := RX11) (T := TX11) (N := 25) hx hb hts hi_X11 tyX11 tyX11_ok nmX11 hown hK hP hD hS 0 rfl rfl 23 (by decide) (hts (.fieldLink RX11 47 "CanalMapsModel" "thrown" "I") (List.mem_of_getElem? (i := 1) (by decide +kernel))) (fun _ h9 => h9) rfl (by decide +kernel) rfl rfl (Nat.le_of_ble_eq_true rfl) dX11_raises_2 (fun H locs hP hD hS => ?_)
  have hP : va_P D vwCl [(h0, .inr (14, [v0, v1, v2, v3, v4, v5, v6, v7, v8, v9, v10, v11, v12, v13, v14, v15, v16, v17, v18, v19, v20, v21, v22, .int 2, v24]))] H := hP
  have hD : va_D A [(h0, .inr (14, [v0, v1, v2, v3, v4, v5, v6, v7, v8, v9, v10, v11, v12, v13, v14, v15, v16, v17, v18, v19, v20, v21, v22, .int 2, v24]))] := hD
  refine lv_iconst (v := 0) hx hb dX11_raises_5 (by decide) ?_
  refine W.widen (k := 0) (n := 0) (Nat.le_of_ble_eq_true rfl) (Nat.le_of_ble_eq_true rfl) ?_
  exact W.iret (v := 0) hx hb hr (QG_.mk (fun _ => 0) (fun _ => 0) (fun _ => 0) [0] [] hP hD hK hS rfl trivial rfl (by decide) rfl) hS.2.2 dX11_raises_6
set_option maxHeartbeats 4000000 in
set_option maxRecDepth 100000 in
theorem c_X11_letter_2 (l : Launch) (hl0 : l.stackTraces = false) (D : va_G) (ad : Nat → Nat) (sz : Nat) (h0 : Nat) (h1 : Nat) (k1 : ClassId) (v0 : Value) (v1 : Value) (v2 : Value) (v3 : Value) (v4 : Value) (v5 : Value) (v6 : Value) (v7 : Value) (v8 : Value) (v9 : Value) (v10 : Value) (v11 : Value) (v12 : Value) (v13 : Value) (v14 : Value) (v15 : Value) (v16 : Value) (v17 : Value) (v18 : Value) (v19 : Value) (v20 : Value) (v21 : Value) (v22 : Value) (v23 : Value) (p0 : Int32) (p1 : Int32) (hy0 : ¬ p1 < 0) (hy1 : ¬ 3 < p1) : Met l yX11_letter wsX11_letter ({ frames := 1, cells := 0, slots := 0, locals := 24 }) (PC_ D ad [(h0, .inr (14, [.ref h1, v0, v1, v2, v3, v4, v5, v6, v7, v8, v9, v10, v11, v12, v13, v14, v15, v16, v17, v18, v19, v20, v21, v22, v23])), (h1, .inl (k1, 8277, .inl (fun _ => 0)))] [(k1, .int)] sz [.ref h0, .int p0, .int p1]) (QG_ D (fun q i => some (.int 0)) (fun q i => True) (fun q k i => [(h0, .inr (14, [.ref h1, v0, v1, v2, v3, v4, v5, v6, v7, v8, v9, v10, v11, v12, v13, v14, v15, v16, v17, v18, v19, v20, v21, .int 2, v23])), (h1, .inl (k1, 8277, .inl (fun _ => 0)))]) (fun q k i => [(k1, .int)]) (va_A [(h0, .inr (14, [.ref h1, v0, v1, v2, v3, v4, v5, v6, v7, v8, v9, v10, v11, v12, v13, v14, v15, v16, v17, v18, v19, v20, v21, v22, v23])), (h1, .inl (k1, 8277, .inl (fun _ => 0)))] sz)) 0 0 (va_A [(h0, .inr (14, [.ref h1, v0, v1, v2, v3, v4, v5, v6, v7, v8, v9, v10, v11, v12, v13, v14, v15, v16, v17, v18, v19, v20, v21, v22, v23])), (h1, .inl (k1, 8277, .inl (fun _ => 0)))] sz) := by
  refine Met.ofW (cc := cX11_letter) (maxL := 4) (ret := (some .int)) (by decide) rfl ?_
  intro p e s m args below meth c s₁ B hml hv
  obtain ⟨rfl, hsz, hP, hK, hD0, hF⟩ := hv
  have hx := B.exec
  have hb := B.bytes
  have hr := B.returns
  have hts := atoms_spec (ws := wsX11_letter) B.pre
  have hown : s.vm.findClass RX11 = some m.cls := findClass_of_methodNamed B.named
  have hlocks := B.notSynchronized
  subst hsz
  have hD := hD0.self (sz := s.heap.size)
  generalize hAe : va_A [(h0, .inr (14, [.ref h1, v0, v1, v2, v3, v4, v5, v6, v7, v8, v9, v10, v11, v12, v13, v14, v15, v16, v17, v18, v19, v20, v21, v22, v23])), (h1, .inl (k1, 8277, .inl (fun _ => 0)))] s.heap.size = A at hD hF ⊢
  have hA : ∀ q : Nat, s.heap.size ≤ q → A q := fun q h => by rw [← hAe]; exact Or.inr h
  obtain ⟨H, hHe⟩ : ∃ H : Heap, H = s.heap := ⟨_, rfl⟩
  have hS : va_S A s.heap H [] := by rw [hHe]; exact va_S.rf
  have hP : va_P D vwCl [(h0, .inr (14, [.ref h1, v0, v1, v2, v3, v4, v5, v6, v7, v8, v9, v10, v11, v12, v13, v14, v15, v16, v17, v18, v19, v20, v21, v22, v23])), (h1, .inl (k1, 8277, .inl (fun _ => 0)))] H := by rw [hHe]; exact hP
  rw [← hHe]
  have hi_X11 : ∀ w ∈ wsX110, w ∈ wsX11_letter := by decide +kernel
  have hl := lv_entry [.ref h0, .int p0, .int p1] (n := 4) (Nat.le_of_ble_eq_true rfl)
  rw [lg_entry_eq]
  generalize (lg_sl [.ref h0, .int p0, .int p1] ++ List.replicate (4 - (lg_sl [.ref h0, .int p0, .int p1]).length) Slot.unset).toArray = ls at hl ⊢
  have hl : lv_has ls 4 [(0, .ref h0), (1, .int p0), (2, .int p1)] := hl
  refine lv_aload_n hx hb dX11_letter_0 rfl (lv_at hl 0 rfl) ?_
  refine lv_iconst (v := 0) hx hb dX11_letter_1 (by decide) ?_
  refine va_put (D := D) (ci := 14) (v := .int 0) (ty := .int) (own := RX11) (C := RX11) (T := TX11) (N := 25) hx hb hts hi_X11 tyX11 tyX11_ok nmX11 hown hK hP hD hS 0 rfl rfl 23 (by decide) (hts (.fieldLink RX11 47 "CanalMapsModel" "thrown" "I") (List.mem_of_getElem? (i := 1) (by decide +kernel))) (fun _ h9 => h9) rfl (by decide +kernel) rfl rfl (Nat.le_of_ble_eq_true rfl) dX11_letter_2 (fun H locs hP hD hS => ?_)
  have hP : va_P D vwCl [(h0, .inr (14, [.ref h1, v0, v1, v2, v3, v4, v5, v6, v7, v8, v9, v10, v11, v12, v13, v14, v15, v16, v17, v18, v19, v20, v21, .int 0, v23])), (h1, .inl (k1, 8277, .inl (fun _ => 0)))] H := hP
  have hD : va_D A [(h0, .inr (14, [.ref h1, v0, v1, v2, v3, v4, v5, v6, v7, v8, v9, v10, v11, v12, v13, v14, v15, v16, v17, v18, v19, v20, v21, .int 0, v23])), (h1, .inl (k1, 8277, .inl (fun _ => 0)))] := hD
  refine lv_iload_n hx hb dX11_letter_5 rfl (lv_at hl 2 rfl) ?_
  refine lv_iconst (v := 0) hx hb dX11_letter_6 (by decide) ?_
  refine lv_iconst (v := 3) hx hb dX11_letter_7 (by decide) ?_
  refine kc_ (wc := []) (wr := [(h0, .inr (14, [.ref h1, v0, v1, v2, v3, v4, v5, v6, v7, v8, v9, v10, v11, v12, v13, v14, v15, v16, v17, v18, v19, v20, v21, .int 0, v23])), (h1, .inl (k1, 8277, .inl (fun _ => 0)))]) (va_runS (As := [.int p1, .int 0, .int 3]) (rest := []) ⟨hx, hb, hml, hown, hts⟩ (c_X11_in_6 l hl0 D ad H.size p1 hy0 hy1) (va_cwS 3 hts gX11_letter_X11_in rfl rfl rfl (by decide +kernel) ⟨Nat.le_of_ble_eq_true rfl, Nat.le_of_ble_eq_true rfl⟩) ⟨PC_.blind, PC_.pre hF hK hP hD hS hA [] [] rfl (by decide) rfl⟩ rfl rfl hl.1 rfl (lv_room (Nat.le_of_ble_eq_true rfl)) dX11_letter_8 ⟨Nat.le_of_ble_eq_true rfl, Nat.le_of_ble_eq_true rfl⟩) hK hP hD hS hA [] [0, 1] [0] rfl rfl (by decide) (by decide) rfl (fun qa_1 ka_1 ia_1 H locs hpo hP hD hK hS => ?_)
  have hP : va_P D vwCl [(h0, .inr (14, [.ref h1, v0, v1, v2, v3, v4, v5, v6, v7, v8, v9, v10, v11, v12, v13, v14, v15, v16, v17, v18, v19, v20, v21, .int 0, v23])), (h1, .inl (k1, 8277, .inl (fun _ => 0)))] H := hP
  have hD : va_D A [(h0, .inr (14, [.ref h1, v0, v1, v2, v3, v4, v5, v6, v7, v8, v9, v10, v11, v12, v13, v14, v15, v16, v17, v18, v19, v20, v21, .int 0, v23])), (h1, .inl (k1, 8277, .inl (fun _ => 0)))] := hD
  have hK : va_K D vwCl [(k1, .int)] s := hK
  refine W.eq (g2 := F0 m 11 ls [.int 1]) rfl ?_
  refine lv_if_ne (tgt := 20) hx hb dX11_letter_11 (by decide) (fun _ => ?_) (fun c9 => absurd c9 (by decide +kernel))
  refine lv_iload_n hx hb dX11_letter_20 rfl (lv_at hl 1 rfl) ?_
  refine lv_iconst (v := 0) hx hb dX11_letter_21 (by decide) ?_
  refine lv_aload_n hx hb dX11_letter_22 rfl (lv_at hl 0 rfl) ?_
  refine va_get (D := D) (ci := 14) (v := .ref h1) (own := RX11) (C := RX11) (T := TX11) (N := 25) hx hb hts hi_X11 hown hK hP 0 rfl rfl 0 (by decide) (hts (.fieldLink RX11 9 "CanalMapsModel" "now" "[I") (List.mem_of_getElem? (i := 2) (by decide +kernel))) (fun _ h9 => h9) rfl dX11_letter_23 ?_
  refine lv_bipush (v := 84) hx hb dX11_letter_26 (by decide) ?_
  refine va_iald hx hb hK hP 1 0 rfl rfl (vin_ (by decide +kernel)) dX11_letter_28 ?_
  refine kt_ (v := 0) (by decide +kernel) ?_
  refine lv_iconst (v := 1) hx hb dX11_letter_29 (by decide) ?_
  refine lv_isub hx hb dX11_letter_30 ?_
  refine kt_ (v := (-1)) (by decide +kernel) ?_
  refine kc_ (wc := []) (wr := [(h0, .inr (14, [.ref h1, v0, v1, v2, v3, v4, v5, v6, v7, v8, v9, v10, v11, v12, v13, v14, v15, v16, v17, v18, v19, v20, v21, .int 0, v23])), (h1, .inl (k1, 8277, .inl (fun _ => 0)))]) (va_runS (As := [.int p0, .int 0, .int (-1)]) (rest := []) ⟨hx, hb, hml, hown, hts⟩ (c_X11_in_0 l hl0 D ad H.size p0) (va_cwS 3 hts gX11_letter_X11_in rfl rfl rfl (by decide +kernel) ⟨Nat.le_of_ble_eq_true rfl, Nat.le_of_ble_eq_true rfl⟩) ⟨PC_.blind, PC_.pre hF hK hP hD hS hA [] [] rfl (by decide) rfl⟩ rfl rfl hl.1 rfl (lv_room (Nat.le_of_ble_eq_true rfl)) dX11_letter_31 ⟨Nat.le_of_ble_eq_true rfl, Nat.le_of_ble_eq_true rfl⟩) hK hP hD hS hA [] [0, 1] [0] rfl rfl (by decide) (by decide) rfl (fun qa_2 ka_2 ia_2 H locs hpo hP hD hK hS => ?_)
  have hP : va_P D vwCl [(h0, .inr (14, [.ref h1, v0, v1, v2, v3, v4, v5, v6, v7, v8, v9, v10, v11, v12, v13, v14, v15, v16, v17, v18, v19, v20, v21, .int 0, v23])), (h1, .inl (k1, 8277, .inl (fun _ => 0)))] H := hP
  have hD : va_D A [(h0, .inr (14, [.ref h1, v0, v1, v2, v3, v4, v5, v6, v7, v8, v9, v10, v11, v12, v13, v14, v15, v16, v17, v18, v19, v20, v21, .int 0, v23])), (h1, .inl (k1, 8277, .inl (fun _ => 0)))] := hD
  have hK : va_K D vwCl [(k1, .int)] s := hK
  refine W.eq (g2 := F0 m 34 ls [.int 0]) rfl ?_
  refine lv_if_ne (tgt := 43) hx hb dX11_letter_34 (by decide) (fun c9 => absurd (by decide +kernel) c9) (fun _ => ?_)
  refine lv_aload_n hx hb dX11_letter_37 rfl (lv_at hl 0 rfl) ?_
  refine lv_iconst (v := 2) hx hb dX11_letter_38 (by decide) ?_
  refine kc_ (wc := [(h0, .inr (14, [.ref h1, v0, v1, v2, v3, v4, v5, v6, v7, v8, v9, v10, v11, v12, v13, v14, v15, v16, v17, v18, v19, v20, v21, .int 0, v23]))]) (wr := [(h1, .inl (k1, 8277, .inl (fun _ => 0)))]) (va_runV (As := [.int 2]) (rest := []) ⟨hx, hb, hml, hown, hts⟩ (c_X11_raises_1 l hl0 D ad H.size h0 (.ref h1) (v0) (v1) (v2) (v3) (v4) (v5) (v6) (v7) (v8) (v9) (v10) (v11) (v12) (v13) (v14) (v15) (v16) (v17) (v18) (v19) (v20) (v21) (.int 0) (v23)) (cwV 1 hts gX11_letter_X11_raises rfl rfl rfl (by decide +kernel) ⟨Nat.le_of_ble_eq_true rfl, Nat.le_of_ble_eq_true rfl⟩) ⟨PC_.blind, va_recv hK hP (ci := 14) (q0 := 0) rfl rfl, PC_.pre hF hK hP hD hS hA [0] [] rfl (by decide) rfl⟩ rfl rfl hl.1 rfl (lv_room (Nat.le_of_ble_eq_true rfl)) dX11_letter_39 ⟨Nat.le_of_ble_eq_true rfl, Nat.le_of_ble_eq_true rfl⟩) hK hP hD hS hA [0] [1] [0] rfl rfl (by decide) (by decide) rfl (fun qa_3 ka_3 ia_3 H locs hpo hP hD hK hS => ?_)
  have hP : va_P D vwCl [(h1, .inl (k1, 8277, .inl (fun _ => 0))), (h0, .inr (14, [.ref h1, v0, v1, v2, v3, v4, v5, v6, v7, v8, v9, v10, v11, v12, v13, v14, v15, v16, v17, v18, v19, v20, v21, .int 2, v23]))] H := hP
  have hD : va_D A [(h1, .inl (k1, 8277, .inl (fun _ => 0))), (h0, .inr (14, [.ref h1, v0, v1, v2, v3, v4, v5, v6, v7, v8, v9, v10, v11, v12, v13, v14, v15, v16, v17, v18, v19, v20, v21, .int 2, v23]))] := hD
  have hK : va_K D vwCl [(k1, .int)] s := hK
  refine W.eq (g2 := F0 m 42 ls [.int 0]) rfl ?_
  refine W.widen (k := 0) (n := 0) (Nat.le_of_ble_eq_true rfl) (Nat.le_of_ble_eq_true rfl) ?_
  exact W.iret (v := 0) hx hb hr (QG_.mk (fun _ => 0) (fun _ => 0) (fun _ => 0) [1, 0] [0] hP hD hK hS rfl trivial rfl (by decide) rfl) hS.2.2 dX11_letter_42
set_option maxHeartbeats 4000000 in
set_option maxRecDepth 100000 in
theorem c_X11_thrown_2 (l : Launch) (hl0 : l.stackTraces = false) (D : va_G) (ad : Nat → Nat) (sz : Nat) (h0 : Nat) (v0 : Value) (v1 : Value) (v2 : Value) (v3 : Value) (v4 : Value) (v5 : Value) (v6 : Value) (v7 : Value) (v8 : Value) (v9 : Value) (v10 : Value) (v11 : Value) (v12 : Value) (v13 : Value) (v14 : Value) (v15 : Value) (v16 : Value) (v17 : Value) (v18 : Value) (v19 : Value) (v20 : Value) (v21 : Value) (v22 : Value) (v23 : Value) : Met l yX11_thrown wsX11_thrown ({ frames := 0, cells := 0, slots := 0, locals := 0 }) (PC_ D ad [(h0, .inr (14, [v0, v1, v2, v3, v4, v5, v6, v7, v8, v9, v10, v11, v12, v13, v14, v15, v16, v17, v18, v19, v20, v21, v22, .int 2, v23]))] [] sz [.ref h0]) (QG_ D (fun q i => some (.int 2)) (fun q i => True) (fun q k i => [(h0, .inr (14, [v0, v1, v2, v3, v4, v5, v6, v7, v8, v9, v10, v11, v12, v13, v14, v15, v16, v17, v18, v19, v20, v21, v22, .int 2, v23]))]) (fun q k i => []) (va_A [(h0, .inr (14, [v0, v1, v2, v3, v4, v5, v6, v7, v8, v9, v10, v11, v12, v13, v14, v15, v16, v17, v18, v19, v20, v21, v22, .int 2, v23]))] sz)) 0 0 (va_A [(h0, .inr (14, [v0, v1, v2, v3, v4, v5, v6, v7, v8, v9, v10, v11, v12, v13, v14, v15, v16, v17, v18, v19, v20, v21, v22, .int 2, v23]))] sz) := by
  refine Met.ofW (cc := cX11_thrown) (maxL := 1) (ret := (some .int)) (by decide) rfl ?_
  intro p e s m args below meth c s₁ B hml hv
  obtain ⟨rfl, hsz, hP, hK, hD0, hF⟩ := hv
  have hx := B.exec
  have hb := B.bytes
  have hr := B.returns
  have hts := atoms_spec (ws := wsX11_thrown) B.pre
  have hown : s.vm.findClass RX11 = some m.cls := findClass_of_methodNamed B.named
  have hlocks := B.notSynchronized
  subst hsz
  have hD := hD0.self (sz := s.heap.size)
  generalize hAe : va_A [(h0, .inr (14, [v0, v1, v2, v3, v4, v5, v6, v7, v8, v9, v10, v11, v12, v13, v14, v15, v16, v17, v18, v19, v20, v21, v22, .int 2, v23]))] s.heap.size = A at hD hF ⊢
  have hA : ∀ q : Nat, s.heap.size ≤ q → A q := fun q h => by rw [← hAe]; exact Or.inr h
  obtain ⟨H, hHe⟩ : ∃ H : Heap, H = s.heap := ⟨_, rfl⟩
  have hS : va_S A s.heap H [] := by rw [hHe]; exact va_S.rf
  have hP : va_P D vwCl [(h0, .inr (14, [v0, v1, v2, v3, v4, v5, v6, v7, v8, v9, v10, v11, v12, v13, v14, v15, v16, v17, v18, v19, v20, v21, v22, .int 2, v23]))] H := by rw [hHe]; exact hP
  rw [← hHe]
  have hi_X11 : ∀ w ∈ wsX110, w ∈ wsX11_thrown := by decide +kernel
  have hl := lv_entry [.ref h0] (n := 1) (Nat.le_of_ble_eq_true rfl)
  rw [lg_entry_eq]
  generalize (lg_sl [.ref h0] ++ List.replicate (1 - (lg_sl [.ref h0]).length) Slot.unset).toArray = ls at hl ⊢
  have hl : lv_has ls 1 [(0, .ref h0)] := hl
  refine lv_aload_n hx hb dX11_thrown_0 rfl (lv_at hl 0 rfl) ?_
  refine va_get (D := D) (ci := 14) (v := .int 2) (own := RX11) (C := RX11) (T := TX11) (N := 25) hx hb hts hi_X11 hown hK hP 0 rfl rfl 23 (by decide) (hts (.fieldLink RX11 47 "CanalMapsModel" "thrown" "I") (List.mem_of_getElem? (i := 1) (by decide +kernel))) (fun _ h9 => h9) rfl dX11_thrown_1 ?_
  refine W.widen (k := 0) (n := 0) (Nat.le_of_ble_eq_true rfl) (Nat.le_of_ble_eq_true rfl) ?_
  exact W.iret (v := 2) hx hb hr (QG_.mk (fun _ => 0) (fun _ => 0) (fun _ => 0) [0] [] hP hD hK hS rfl trivial rfl (by decide) rfl) hS.2.2 dX11_thrown_4
set_option maxHeartbeats 4000000 in
set_option maxRecDepth 100000 in
theorem c_X10_distance_0 (l : Launch) (hl0 : l.stackTraces = false) (D : va_G) (ad : Nat → Nat) (sz : Nat) (h0 : Nat) (h1 : Nat) (v0 : Value) (v1 : Value) (v2 : Value) (v3 : Value) (v4 : Value) (v5 : Value) (v6 : Value) (v7 : Value) (v8 : Value) (v9 : Value) (v10 : Value) (v11 : Value) (v12 : Value) (v13 : Value) (v14 : Value) (v15 : Value) (v16 : Value) (v17 : Value) (p0 : Int32) (p1 : Int32) : vx_Met l yX10_distance wsX10_distance ({ frames := 7, cells := 1, slots := 6, locals := 123 }) (PC_ D ad [(h0, .inr (13, [.ref h1, v0, v1, v2, v3, v4, v5, v6, v7, v8])), (h1, .inr (11, [v9, v10, v11, v12, v13, .int 0, v14, v15, v16, v17]))] [] sz [.ref h0, .int p0, .int p1]) QN_ (XT_ "java/lang/IndexOutOfBoundsException" (va_A [(h0, .inr (13, [.ref h1, v0, v1, v2, v3, v4, v5, v6, v7, v8])), (h1, .inr (11, [v9, v10, v11, v12, v13, .int 0, v14, v15, v16, v17]))] sz)) 1 6 (va_A [(h0, .inr (13, [.ref h1, v0, v1, v2, v3, v4, v5, v6, v7, v8])), (h1, .inr (11, [v9, v10, v11, v12, v13, .int 0, v14, v15, v16, v17]))] sz) := by
  refine vx_ofW (cc := cX10_distance) (maxL := 3) (ret := (some .int)) (by decide) rfl ?_
  intro p e s m args below meth c s₁ B hml htab hv
  obtain ⟨rfl, hsz, hP, hK, hD0, hF⟩ := hv
  have hx := B.exec
  have hb := B.bytes
  have hr := B.returns
  have hts := atoms_spec (ws := wsX10_distance) B.pre
  have hown : s.vm.findClass RX10 = some m.cls := findClass_of_methodNamed B.named
  have hlocks := B.notSynchronized
  subst hsz
  have hD := hD0.self (sz := s.heap.size)
  generalize hAe : va_A [(h0, .inr (13, [.ref h1, v0, v1, v2, v3, v4, v5, v6, v7, v8])), (h1, .inr (11, [v9, v10, v11, v12, v13, .int 0, v14, v15, v16, v17]))] s.heap.size = A at hD hF ⊢
  have hA : ∀ q : Nat, s.heap.size ≤ q → A q := fun q h => by rw [← hAe]; exact Or.inr h
  obtain ⟨H, hHe⟩ : ∃ H : Heap, H = s.heap := ⟨_, rfl⟩
  have hS : va_S A s.heap H [] := by rw [hHe]; exact va_S.rf
  have hP : va_P D vwCl [(h0, .inr (13, [.ref h1, v0, v1, v2, v3, v4, v5, v6, v7, v8])), (h1, .inr (11, [v9, v10, v11, v12, v13, .int 0, v14, v15, v16, v17]))] H := by rw [hHe]; exact hP
  rw [← hHe]
  have hi_X10 : ∀ w ∈ wsX100, w ∈ wsX10_distance := by decide +kernel
  have hi_X8 : ∀ w ∈ wsX80, w ∈ wsX10_distance := by decide +kernel
  have hl := lv_entry [.ref h0, .int p0, .int p1] (n := 3) (Nat.le_of_ble_eq_true rfl)
  rw [lg_entry_eq]
  generalize (lg_sl [.ref h0, .int p0, .int p1] ++ List.replicate (3 - (lg_sl [.ref h0, .int p0, .int p1]).length) Slot.unset).toArray = ls at hl ⊢
  have hl : lv_has ls 3 [(0, .ref h0), (1, .int p0), (2, .int p1)] := hl
  refine lv_aload_n hx hb dX10_distance_0 rfl (lv_at hl 0 rfl) ?_
  refine lv_iload_n hx hb dX10_distance_1 rfl (lv_at hl 1 rfl) ?_
  refine kx_ (E0 := "java/lang/IndexOutOfBoundsException") (wc := [(h0, .inr (13, [.ref h1, v0, v1, v2, v3, v4, v5, v6, v7, v8])), (h1, .inr (11, [v9, v10, v11, v12, v13, .int 0, v14, v15, v16, v17]))]) (vx_runV (As := [.int p0]) (rest := []) ⟨hx, hb, hml, hown, hts⟩ (c_X10_needSurveyor_0 l hl0 D ad H.size h0 h1 (v0) (v1) (v2) (v3) (v4) (v5) (v6) (v7) (v8) (v9) (v10) (v11) (v12) (v13) (v14) (v15) (v16) (v17) p0) (cwV 1 hts gX10_distance_X10_needSurveyor rfl rfl rfl (by decide +kernel) ⟨Nat.le_of_ble_eq_true rfl, Nat.le_of_ble_eq_true rfl⟩) ⟨PC_.blind, va_recv hK hP (ci := 13) (q0 := 0) rfl rfl, PC_.pre hF hK hP hD hS hA [0, 1] [] rfl (by decide) rfl⟩ rfl rfl hl.1 rfl (lv_room (Nat.le_of_ble_eq_true rfl)) dX10_distance_2 ⟨Nat.le_of_ble_eq_true rfl, Nat.le_of_ble_eq_true rfl⟩) hD hS hA [0, 1] rfl (fun ce q9 H locs hS hce hvm hcl => ?_)
  exact vx_out (E := "java/lang/IndexOutOfBoundsException") (fun x9 hx9 => (htab x9 hx9).elim) hlocks hce hvm hcl (fun t9 ht9 _ => ⟨rfl, hS.F ht9⟩) hS.2.2 (Nat.le_of_ble_eq_true rfl) (Nat.le_of_ble_eq_true rfl)
set_option maxHeartbeats 4000000 in
set_option maxRecDepth 100000 in
theorem c_L_distance_0 (l : Launch) (hl0 : l.stackTraces = false) (D : va_G) (ad : Nat → Nat) (sz : Nat) (h0 : Nat) (h1 : Nat) (r0 : Nat) (v0 : Value) (v1 : Value) (v2 : Value) (v3 : Value) (v4 : Value) (v5 : Value) (v6 : Value) (v7 : Value) (v8 : Value) (v9 : Value) (v10 : Value) (v11 : Value) (v12 : Value) (v13 : Value) (v14 : Value) (v15 : Value) (v16 : Value) (v17 : Value) (p0 : Int32) (p1 : Int32) : Met l yL_distance wsL_distance ({ frames := 8, cells := 1, slots := 6, locals := 147 }) (PC_ D ad [(h0, .inr (13, [.ref h1, v0, v1, v2, v3, v4, v5, v6, v7, v8])), (h1, .inr (11, [v9, v10, v11, v12, v13, .int 0, v14, v15, v16, v17]))] [] sz [.ref h0, .int p0, .int p1, .ref r0]) (QG_ D (fun q i => some (.int 1)) (fun q i => True) (fun q k i => []) (fun q k i => []) (va_A [(h0, .inr (13, [.ref h1, v0, v1, v2, v3, v4, v5, v6, v7, v8])), (h1, .inr (11, [v9, v10, v11, v12, v13, .int 0, v14, v15, v16, v17]))] sz)) 1 6 (va_A [(h0, .inr (13, [.ref h1, v0, v1, v2, v3, v4, v5, v6, v7, v8])), (h1, .inr (11, [v9, v10, v11, v12, v13, .int 0, v14, v15, v16, v17]))] sz) := by
  refine va_MetW (cc := cL_distance) (maxL := 5) (ret := (some .int)) (by decide) rfl ?_
  intro p e s m args below meth c s₁ B hml hv
  obtain ⟨rfl, hsz, hP, hK, hD0, hF⟩ := hv
  have hx := B.exec
  have hb := B.bytes
  have hr := B.returns
  have hts := atoms_spec (ws := wsL_distance) B.pre
  have hown : s.vm.findClass RL = some m.cls := findClass_of_methodNamed B.named
  have hlocks := B.notSynchronized
  have htb := vx_table B (hts _ (List.mem_cons_self))
  subst hsz
  have hD := hD0.self (sz := s.heap.size)
  generalize hAe : va_A [(h0, .inr (13, [.ref h1, v0, v1, v2, v3, v4, v5, v6, v7, v8])), (h1, .inr (11, [v9, v10, v11, v12, v13, .int 0, v14, v15, v16, v17]))] s.heap.size = A at hD hF ⊢
  have hA : ∀ q : Nat, s.heap.size ≤ q → A q := fun q h => by rw [← hAe]; exact Or.inr h
  obtain ⟨H, hHe⟩ : ∃ H : Heap, H = s.heap := ⟨_, rfl⟩
  have hS : va_S A s.heap H [] := by rw [hHe]; exact va_S.rf
  have hP : va_P D vwCl [(h0, .inr (13, [.ref h1, v0, v1, v2, v3, v4, v5, v6, v7, v8])), (h1, .inr (11, [v9, v10, v11, v12, v13, .int 0, v14, v15, v16, v17]))] H := by rw [hHe]; exact hP
  rw [← hHe]
  have hi_X10 : ∀ w ∈ wsX100, w ∈ wsL_distance := by decide +kernel
  have hi_X8 : ∀ w ∈ wsX80, w ∈ wsL_distance := by decide +kernel
  have hl := lv_entry [.ref h0, .int p0, .int p1, .ref r0] (n := 5) (Nat.le_of_ble_eq_true rfl)
  rw [lg_entry_eq]
  generalize (lg_sl [.ref h0, .int p0, .int p1, .ref r0] ++ List.replicate (5 - (lg_sl [.ref h0, .int p0, .int p1, .ref r0]).length) Slot.unset).toArray = ls at hl ⊢
  have hl : lv_has ls 5 [(0, .ref h0), (1, .int p0), (2, .int p1), (3, .ref r0)] := hl
  refine lv_aload_n hx hb dL_distance_0 rfl (lv_at hl 3 rfl) ?_
  refine lv_iconst (v := 0) hx hb dL_distance_1 (by decide) ?_
  refine lv_aload_n hx hb dL_distance_2 rfl (lv_at hl 0 rfl) ?_
  refine lv_iload_n hx hb dL_distance_3 rfl (lv_at hl 1 rfl) ?_
  refine lv_iload_n hx hb dL_distance_4 rfl (lv_at hl 2 rfl) ?_
  refine kx_ (E0 := "java/lang/IndexOutOfBoundsException") (wc := [(h0, .inr (13, [.ref h1, v0, v1, v2, v3, v4, v5, v6, v7, v8])), (h1, .inr (11, [v9, v10, v11, v12, v13, .int 0, v14, v15, v16, v17]))]) (vx_runV (As := [.int p0, .int p1]) (rest := [.int 0, .ref r0]) ⟨hx, hb, hml, hown, hts⟩ (c_X10_distance_0 l hl0 D ad H.size h0 h1 (v0) (v1) (v2) (v3) (v4) (v5) (v6) (v7) (v8) (v9) (v10) (v11) (v12) (v13) (v14) (v15) (v16) (v17) p0 p1) (cwV 2 hts gL_distance_X10_distance rfl rfl rfl (by decide +kernel) ⟨Nat.le_of_ble_eq_true rfl, Nat.le_of_ble_eq_true rfl⟩) ⟨PC_.blind, va_recv hK hP (ci := 13) (q0 := 0) rfl rfl, PC_.pre hF hK hP hD hS hA [0, 1] [] rfl (by decide) rfl⟩ rfl rfl hl.1 rfl (lv_room (Nat.le_of_ble_eq_true rfl)) dL_distance_5 ⟨Nat.le_of_ble_eq_true rfl, Nat.le_of_ble_eq_true rfl⟩) hD hS hA [0, 1] rfl (fun ce q9 H locs hS hce hvm hcl => ?_)
  refine vx_catch (own := RL) (name := "java/lang/IndexOutOfBoundsException") (E := "java/lang/IndexOutOfBoundsException") hown [] (⟨0, 10, 13, 36⟩ : ExceptionTableEntry) [(⟨0, 10, 17, 43⟩ : ExceptionTableEntry)] (htb.trans rfl) (fun z hz => by cases hz) (by decide) (by decide) (hts (.classLink RL 36 "java/lang/IndexOutOfBoundsException") (List.mem_of_getElem? (i := 1) (by decide +kernel))) (fxk_ hF "java/lang/IndexOutOfBoundsException" "java/lang/IndexOutOfBoundsException") hce hvm hcl ?_
  have hP : va_P D vwCl [] H := fun k q h => by simp at h
  have hD : va_D A [] := ⟨fun i j p q h => by simp at h, fun k q h => by simp at h⟩
  have hK : va_K D vwCl [] s := ⟨hK.1, fun k q h => by simp at h⟩
  refine W.eq (g2 := F0 m 13 ls [.ref q9]) rfl ?_
  refine lv_astore (lv' := [(4, .ref q9), (0, .ref h0), (1, .int p0), (2, .int p1), (3, .ref r0)]) hx hb dL_distance_13 hl (by decide) rfl (fun ls hl => ?_)
  refine lv_iconst (v := 1) hx hb dL_distance_15 (by decide) ?_
  refine W.widen (k := 1) (n := 6) (Nat.le_of_ble_eq_true rfl) (Nat.le_of_ble_eq_true rfl) ?_
  exact W.iret (v := 1) hx hb hr (QG_.mk (fun _ => 0) (fun _ => 0) (fun _ => 0) [] [] hP hD hK hS rfl trivial rfl (by decide) rfl) hS.2.2 dL_distance_16
set_option maxHeartbeats 4000000 in
set_option maxRecDepth 100000 in
theorem c_X11_tellsFar_0 (l : Launch) (hl0 : l.stackTraces = false) (D : va_G) (ad : Nat → Nat) (sz : Nat) (h0 : Nat) (h1 : Nat) (k1 : ClassId) (v0 : Value) (v1 : Value) (v2 : Value) (v3 : Value) (v4 : Value) (v5 : Value) (v6 : Value) (v7 : Value) (v8 : Value) (v9 : Value) (v10 : Value) (v11 : Value) (v12 : Value) (v13 : Value) (v14 : Value) (v15 : Value) (v16 : Value) (v17 : Value) (v18 : Value) (v19 : Value) (v20 : Value) (v21 : Value) (v22 : Value) (v23 : Value) (p0 : Int32) (p1 : Int32) : Met l yX11_tellsFar wsX11_tellsFar ({ frames := 2, cells := 0, slots := 0, locals := 47 }) (PC_ D ad [(h0, .inr (14, [.ref h1, v0, v1, v2, v3, v4, v5, v6, v7, v8, v9, v10, v11, v12, v13, v14, v15, v16, v17, v18, v19, v20, v21, v22, v23])), (h1, .inl (k1, 8277, .inl (fun _ => 0)))] [(k1, .int)] sz [.ref h0, .int p0, .int p0, .int p1]) (QG_ D (fun q i => some (.int 0)) (fun q i => True) (fun q k i => [(h0, .inr (14, [.ref h1, v0, v1, v2, v3, v4, v5, v6, v7, v8, v9, v10, v11, v12, v13, v14, v15, v16, v17, v18, v19, v20, v21, .int 1, v23])), (h1, .inl (k1, 8277, .inl (fun _ => 0)))]) (fun q k i => [(k1, .int)]) (va_A [(h0, .inr (14, [.ref h1, v0, v1, v2, v3, v4, v5, v6, v7, v8, v9, v10, v11, v12, v13, v14, v15, v16, v17, v18, v19, v20, v21, v22, v23])), (h1, .inl (k1, 8277, .inl (fun _ => 0)))] sz)) 0 0 (va_A [(h0, .inr (14, [.ref h1, v0, v1, v2, v3, v4, v5, v6, v7, v8, v9, v10, v11, v12, v13, v14, v15, v16, v17, v18, v19, v20, v21, v22, v23])), (h1, .inl (k1, 8277, .inl (fun _ => 0)))] sz) := by
  refine Met.ofW (cc := cX11_tellsFar) (maxL := 4) (ret := (some .int)) (by decide) rfl ?_
  intro p e s m args below meth c s₁ B hml hv
  obtain ⟨rfl, hsz, hP, hK, hD0, hF⟩ := hv
  have hx := B.exec
  have hb := B.bytes
  have hr := B.returns
  have hts := atoms_spec (ws := wsX11_tellsFar) B.pre
  have hown : s.vm.findClass RX11 = some m.cls := findClass_of_methodNamed B.named
  have hlocks := B.notSynchronized
  subst hsz
  have hD := hD0.self (sz := s.heap.size)
  generalize hAe : va_A [(h0, .inr (14, [.ref h1, v0, v1, v2, v3, v4, v5, v6, v7, v8, v9, v10, v11, v12, v13, v14, v15, v16, v17, v18, v19, v20, v21, v22, v23])), (h1, .inl (k1, 8277, .inl (fun _ => 0)))] s.heap.size = A at hD hF ⊢
  have hA : ∀ q : Nat, s.heap.size ≤ q → A q := fun q h => by rw [← hAe]; exact Or.inr h
  obtain ⟨H, hHe⟩ : ∃ H : Heap, H = s.heap := ⟨_, rfl⟩
  have hS : va_S A s.heap H [] := by rw [hHe]; exact va_S.rf
  have hP : va_P D vwCl [(h0, .inr (14, [.ref h1, v0, v1, v2, v3, v4, v5, v6, v7, v8, v9, v10, v11, v12, v13, v14, v15, v16, v17, v18, v19, v20, v21, v22, v23])), (h1, .inl (k1, 8277, .inl (fun _ => 0)))] H := by rw [hHe]; exact hP
  rw [← hHe]
  have hi_X11 : ∀ w ∈ wsX110, w ∈ wsX11_tellsFar := by decide +kernel
  have hl := lv_entry [.ref h0, .int p0, .int p0, .int p1] (n := 4) (Nat.le_of_ble_eq_true rfl)
  rw [lg_entry_eq]
  generalize (lg_sl [.ref h0, .int p0, .int p0, .int p1] ++ List.replicate (4 - (lg_sl [.ref h0, .int p0, .int p0, .int p1]).length) Slot.unset).toArray = ls at hl ⊢
  have hl : lv_has ls 4 [(0, .ref h0), (1, .int p0), (2, .int p0), (3, .int p1)] := hl
  refine lv_aload_n hx hb dX11_tellsFar_0 rfl (lv_at hl 0 rfl) ?_
  refine lv_iconst (v := 0) hx hb dX11_tellsFar_1 (by decide) ?_
  refine va_put (D := D) (ci := 14) (v := .int 0) (ty := .int) (own := RX11) (C := RX11) (T := TX11) (N := 25) hx hb hts hi_X11 tyX11 tyX11_ok nmX11 hown hK hP hD hS 0 rfl rfl 23 (by decide) (hts (.fieldLink RX11 47 "CanalMapsModel" "thrown" "I") (List.mem_of_getElem? (i := 1) (by decide +kernel))) (fun _ h9 => h9) rfl (by decide +kernel) rfl rfl (Nat.le_of_ble_eq_true rfl) dX11_tellsFar_2 (fun H locs hP hD hS => ?_)
  have hP : va_P D vwCl [(h0, .inr (14, [.ref h1, v0, v1, v2, v3, v4, v5, v6, v7, v8, v9, v10, v11, v12, v13, v14, v15, v16, v17, v18, v19, v20, v21, .int 0, v23])), (h1, .inl (k1, 8277, .inl (fun _ => 0)))] H := hP
  have hD : va_D A [(h0, .inr (14, [.ref h1, v0, v1, v2, v3, v4, v5, v6, v7, v8, v9, v10, v11, v12, v13, v14, v15, v16, v17, v18, v19, v20, v21, .int 0, v23])), (h1, .inl (k1, 8277, .inl (fun _ => 0)))] := hD
  refine lv_aload_n hx hb dX11_tellsFar_5 rfl (lv_at hl 0 rfl) ?_
  refine lv_iload_n hx hb dX11_tellsFar_6 rfl (lv_at hl 2 rfl) ?_
  refine kc_ (wc := [(h0, .inr (14, [.ref h1, v0, v1, v2, v3, v4, v5, v6, v7, v8, v9, v10, v11, v12, v13, v14, v15, v16, v17, v18, v19, v20, v21, .int 0, v23])), (h1, .inl (k1, 8277, .inl (fun _ => 0)))]) (wr := []) (va_runV (As := [.int p0]) (rest := []) ⟨hx, hb, hml, hown, hts⟩ (c_X11_isOne_0 l hl0 D ad H.size h0 h1 k1 (v0) (v1) (v2) (v3) (v4) (v5) (v6) (v7) (v8) (v9) (v10) (v11) (v12) (v13) (v14) (v15) (v16) (v17) (v18) (v19) (v20) (v21) (.int 0) (v23) p0) (cwV 1 hts gX11_tellsFar_X11_isOne rfl rfl rfl (by decide +kernel) ⟨Nat.le_of_ble_eq_true rfl, Nat.le_of_ble_eq_true rfl⟩) ⟨PC_.blind, va_recv hK hP (ci := 14) (q0 := 0) rfl rfl, PC_.pre hF hK hP hD hS hA [0, 1] [0] rfl (by decide) rfl⟩ rfl rfl hl.1 rfl (lv_room (Nat.le_of_ble_eq_true rfl)) dX11_tellsFar_7 ⟨Nat.le_of_ble_eq_true rfl, Nat.le_of_ble_eq_true rfl⟩) hK hP hD hS hA [0, 1] [] [] rfl rfl (by decide) (by decide) rfl (fun qa_1 ka_1 ia_1 H locs hpo hP hD hK hS => ?_)
  have hP : va_P D vwCl [(h0, .inr (14, [.ref h1, v0, v1, v2, v3, v4, v5, v6, v7, v8, v9, v10, v11, v12, v13, v14, v15, v16, v17, v18, v19, v20, v21, .int 0, v23])), (h1, .inl (k1, 8277, .inl (fun _ => 0)))] H := hP
  have hD : va_D A [(h0, .inr (14, [.ref h1, v0, v1, v2, v3, v4, v5, v6, v7, v8, v9, v10, v11, v12, v13, v14, v15, v16, v17, v18, v19, v20, v21, .int 0, v23])), (h1, .inl (k1, 8277, .inl (fun _ => 0)))] := hD
  have hK : va_K D vwCl [(k1, .int)] s := hK
  refine W.eq (g2 := F0 m 10 ls [.int 0]) rfl ?_
  refine lv_if_eq (tgt := 21) hx hb dX11_tellsFar_10 (by decide) (fun _ => ?_) (fun c9 => absurd (by decide +kernel) c9)
  refine lv_aload_n hx hb dX11_tellsFar_21 rfl (lv_at hl 0 rfl) ?_
  refine lv_iconst (v := 1) hx hb dX11_tellsFar_22 (by decide) ?_
  refine kc_ (wc := [(h0, .inr (14, [.ref h1, v0, v1, v2, v3, v4, v5, v6, v7, v8, v9, v10, v11, v12, v13, v14, v15, v16, v17, v18, v19, v20, v21, .int 0, v23]))]) (wr := [(h1, .inl (k1, 8277, .inl (fun _ => 0)))]) (va_runV (As := [.int 1]) (rest := []) ⟨hx, hb, hml, hown, hts⟩ (c_X11_raises_0 l hl0 D ad H.size h0 (.ref h1) (v0) (v1) (v2) (v3) (v4) (v5) (v6) (v7) (v8) (v9) (v10) (v11) (v12) (v13) (v14) (v15) (v16) (v17) (v18) (v19) (v20) (v21) (.int 0) (v23)) (cwV 1 hts gX11_tellsFar_X11_raises rfl rfl rfl (by decide +kernel) ⟨Nat.le_of_ble_eq_true rfl, Nat.le_of_ble_eq_true rfl⟩) ⟨PC_.blind, va_recv hK hP (ci := 14) (q0 := 0) rfl rfl, PC_.pre hF hK hP hD hS hA [0] [] rfl (by decide) rfl⟩ rfl rfl hl.1 rfl (lv_room (Nat.le_of_ble_eq_true rfl)) dX11_tellsFar_23 ⟨Nat.le_of_ble_eq_true rfl, Nat.le_of_ble_eq_true rfl⟩) hK hP hD hS hA [0] [1] [0] rfl rfl (by decide) (by decide) rfl (fun qa_2 ka_2 ia_2 H locs hpo hP hD hK hS => ?_)
  have hP : va_P D vwCl [(h1, .inl (k1, 8277, .inl (fun _ => 0))), (h0, .inr (14, [.ref h1, v0, v1, v2, v3, v4, v5, v6, v7, v8, v9, v10, v11, v12, v13, v14, v15, v16, v17, v18, v19, v20, v21, .int 1, v23]))] H := hP
  have hD : va_D A [(h1, .inl (k1, 8277, .inl (fun _ => 0))), (h0, .inr (14, [.ref h1, v0, v1, v2, v3, v4, v5, v6, v7, v8, v9, v10, v11, v12, v13, v14, v15, v16, v17, v18, v19, v20, v21, .int 1, v23]))] := hD
  have hK : va_K D vwCl [(k1, .int)] s := hK
  refine W.eq (g2 := F0 m 26 ls [.int 0]) rfl ?_
  refine W.widen (k := 0) (n := 0) (Nat.le_of_ble_eq_true rfl) (Nat.le_of_ble_eq_true rfl) ?_
  exact W.iret (v := 0) hx hb hr (QG_.mk (fun _ => 0) (fun _ => 0) (fun _ => 0) [1, 0] [0] hP hD hK hS rfl trivial rfl (by decide) rfl) hS.2.2 dX11_tellsFar_26
set_option maxHeartbeats 4000000 in
set_option maxRecDepth 100000 in
theorem c_X11_distance_0 (l : Launch) (hl0 : l.stackTraces = false) (D : va_G) (ad : Nat → Nat) (sz : Nat) (h0 : Nat) (h1 : Nat) (k1 : ClassId) (v0 : Value) (v1 : Value) (v2 : Value) (v3 : Value) (v4 : Value) (v5 : Value) (v6 : Value) (v7 : Value) (v8 : Value) (v9 : Value) (v10 : Value) (v11 : Value) (v12 : Value) (v13 : Value) (v14 : Value) (v15 : Value) (v16 : Value) (v17 : Value) (v18 : Value) (v19 : Value) (v20 : Value) (v21 : Value) (v22 : Value) (v23 : Value) (p0 : Int32) (p1 : Int32) : Met l yX11_distance wsX11_distance ({ frames := 3, cells := 0, slots := 0, locals := 72 }) (PC_ D ad [(h0, .inr (14, [.ref h1, v0, v1, v2, v3, v4, v5, v6, v7, v8, v9, v10, v11, v12, v13, v14, v15, v16, v17, v18, v19, v20, v21, v22, v23])), (h1, .inl (k1, 8277, .inl (fun _ => 0)))] [(k1, .int)] sz [.ref h0, .int p0, .int p1]) (QG_ D (fun q i => some (.int 0)) (fun q i => True) (fun q k i => [(h0, .inr (14, [.ref h1, v0, v1, v2, v3, v4, v5, v6, v7, v8, v9, v10, v11, v12, v13, v14, v15, v16, v17, v18, v19, v20, v21, .int 1, v23])), (h1, .inl (k1, 8277, .inl (fun _ => 0)))]) (fun q k i => [(k1, .int)]) (va_A [(h0, .inr (14, [.ref h1, v0, v1, v2, v3, v4, v5, v6, v7, v8, v9, v10, v11, v12, v13, v14, v15, v16, v17, v18, v19, v20, v21, v22, v23])), (h1, .inl (k1, 8277, .inl (fun _ => 0)))] sz)) 0 0 (va_A [(h0, .inr (14, [.ref h1, v0, v1, v2, v3, v4, v5, v6, v7, v8, v9, v10, v11, v12, v13, v14, v15, v16, v17, v18, v19, v20, v21, v22, v23])), (h1, .inl (k1, 8277, .inl (fun _ => 0)))] sz) := by
  refine Met.ofW (cc := cX11_distance) (maxL := 3) (ret := (some .int)) (by decide) rfl ?_
  intro p e s m args below meth c s₁ B hml hv
  obtain ⟨rfl, hsz, hP, hK, hD0, hF⟩ := hv
  have hx := B.exec
  have hb := B.bytes
  have hr := B.returns
  have hts := atoms_spec (ws := wsX11_distance) B.pre
  have hown : s.vm.findClass RX11 = some m.cls := findClass_of_methodNamed B.named
  have hlocks := B.notSynchronized
  subst hsz
  have hD := hD0.self (sz := s.heap.size)
  generalize hAe : va_A [(h0, .inr (14, [.ref h1, v0, v1, v2, v3, v4, v5, v6, v7, v8, v9, v10, v11, v12, v13, v14, v15, v16, v17, v18, v19, v20, v21, v22, v23])), (h1, .inl (k1, 8277, .inl (fun _ => 0)))] s.heap.size = A at hD hF ⊢
  have hA : ∀ q : Nat, s.heap.size ≤ q → A q := fun q h => by rw [← hAe]; exact Or.inr h
  obtain ⟨H, hHe⟩ : ∃ H : Heap, H = s.heap := ⟨_, rfl⟩
  have hS : va_S A s.heap H [] := by rw [hHe]; exact va_S.rf
  have hP : va_P D vwCl [(h0, .inr (14, [.ref h1, v0, v1, v2, v3, v4, v5, v6, v7, v8, v9, v10, v11, v12, v13, v14, v15, v16, v17, v18, v19, v20, v21, v22, v23])), (h1, .inl (k1, 8277, .inl (fun _ => 0)))] H := by rw [hHe]; exact hP
  rw [← hHe]
  have hi_X11 : ∀ w ∈ wsX110, w ∈ wsX11_distance := by decide +kernel
  have hl := lv_entry [.ref h0, .int p0, .int p1] (n := 3) (Nat.le_of_ble_eq_true rfl)
  rw [lg_entry_eq]
  generalize (lg_sl [.ref h0, .int p0, .int p1] ++ List.replicate (3 - (lg_sl [.ref h0, .int p0, .int p1]).length) Slot.unset).toArray = ls at hl ⊢
  have hl : lv_has ls 3 [(0, .ref h0), (1, .int p0), (2, .int p1)] := hl
  refine lv_aload_n hx hb dX11_distance_0 rfl (lv_at hl 0 rfl) ?_
  refine lv_iload_n hx hb dX11_distance_1 rfl (lv_at hl 1 rfl) ?_
  refine lv_iload_n hx hb dX11_distance_2 rfl (lv_at hl 1 rfl) ?_
  refine lv_iload_n hx hb dX11_distance_3 rfl (lv_at hl 2 rfl) ?_
  refine kc_ (wc := [(h0, .inr (14, [.ref h1, v0, v1, v2, v3, v4, v5, v6, v7, v8, v9, v10, v11, v12, v13, v14, v15, v16, v17, v18, v19, v20, v21, v22, v23])), (h1, .inl (k1, 8277, .inl (fun _ => 0)))]) (wr := []) (va_runV (As := [.int p0, .int p0, .int p1]) (rest := []) ⟨hx, hb, hml, hown, hts⟩ (c_X11_tellsFar_0 l hl0 D ad H.size h0 h1 k1 (v0) (v1) (v2) (v3) (v4) (v5) (v6) (v7) (v8) (v9) (v10) (v11) (v12) (v13) (v14) (v15) (v16) (v17) (v18) (v19) (v20) (v21) (v22) (v23) p0 p1) (cwV 3 hts gX11_distance_X11_tellsFar rfl rfl rfl (by decide +kernel) ⟨Nat.le_of_ble_eq_true rfl, Nat.le_of_ble_eq_true rfl⟩) ⟨PC_.blind, va_recv hK hP (ci := 14) (q0 := 0) rfl rfl, PC_.pre hF hK hP hD hS hA [0, 1] [0] rfl (by decide) rfl⟩ rfl rfl hl.1 rfl (lv_room (Nat.le_of_ble_eq_true rfl)) dX11_distance_4 ⟨Nat.le_of_ble_eq_true rfl, Nat.le_of_ble_eq_true rfl⟩) hK hP hD hS hA [0, 1] [] [] rfl rfl (by decide) (by decide) rfl (fun qa_1 ka_1 ia_1 H locs hpo hP hD hK hS => ?_)
  have hP : va_P D vwCl [(h0, .inr (14, [.ref h1, v0, v1, v2, v3, v4, v5, v6, v7, v8, v9, v10, v11, v12, v13, v14, v15, v16, v17, v18, v19, v20, v21, .int 1, v23])), (h1, .inl (k1, 8277, .inl (fun _ => 0)))] H := hP
  have hD : va_D A [(h0, .inr (14, [.ref h1, v0, v1, v2, v3, v4, v5, v6, v7, v8, v9, v10, v11, v12, v13, v14, v15, v16, v17, v18, v19, v20, v21, .int 1, v23])), (h1, .inl (k1, 8277, .inl (fun _ => 0)))] := hD
  have hK : va_K D vwCl [(k1, .int)] s := hK
  refine W.eq (g2 := F0 m 7 ls [.int 0]) rfl ?_
  refine W.widen (k := 0) (n := 0) (Nat.le_of_ble_eq_true rfl) (Nat.le_of_ble_eq_true rfl) ?_
  exact W.iret (v := 0) hx hb hr (QG_.mk (fun _ => 0) (fun _ => 0) (fun _ => 0) [0, 1] [0] hP hD hK hS rfl trivial rfl (by decide) rfl) hS.2.2 dX11_distance_7
set_option maxHeartbeats 4000000 in
set_option maxRecDepth 100000 in
theorem c_X10_distanceAgain_0 (l : Launch) (hl0 : l.stackTraces = false) (D : va_G) (ad : Nat → Nat) (sz : Nat) (h0 : Nat) (h1 : Nat) (v0 : Value) (v1 : Value) (v2 : Value) (v3 : Value) (v4 : Value) (v5 : Value) (v6 : Value) (v7 : Value) (v8 : Value) (v9 : Value) (v10 : Value) (v11 : Value) (v12 : Value) (v13 : Value) (v14 : Value) (v15 : Value) (v16 : Value) (v17 : Value) (p0 : Int32) (p1 : Int32) : vx_Met l yX10_distanceAgain wsX10_distanceAgain ({ frames := 7, cells := 1, slots := 6, locals := 123 }) (PC_ D ad [(h0, .inr (13, [.ref h1, v0, v1, v2, v3, v4, v5, v6, v7, v8])), (h1, .inr (11, [v9, v10, v11, v12, v13, .int 0, v14, v15, v16, v17]))] [] sz [.ref h0, .int p0, .int p1]) QN_ (XT_ "java/lang/IndexOutOfBoundsException" (va_A [(h0, .inr (13, [.ref h1, v0, v1, v2, v3, v4, v5, v6, v7, v8])), (h1, .inr (11, [v9, v10, v11, v12, v13, .int 0, v14, v15, v16, v17]))] sz)) 1 6 (va_A [(h0, .inr (13, [.ref h1, v0, v1, v2, v3, v4, v5, v6, v7, v8])), (h1, .inr (11, [v9, v10, v11, v12, v13, .int 0, v14, v15, v16, v17]))] sz) := by
  refine vx_ofW (cc := cX10_distanceAgain) (maxL := 3) (ret := (some .int)) (by decide) rfl ?_
  intro p e s m args below meth c s₁ B hml htab hv
  obtain ⟨rfl, hsz, hP, hK, hD0, hF⟩ := hv
  have hx := B.exec
  have hb := B.bytes
  have hr := B.returns
  have hts := atoms_spec (ws := wsX10_distanceAgain) B.pre
  have hown : s.vm.findClass RX10 = some m.cls := findClass_of_methodNamed B.named
  have hlocks := B.notSynchronized
  subst hsz
  have hD := hD0.self (sz := s.heap.size)
  generalize hAe : va_A [(h0, .inr (13, [.ref h1, v0, v1, v2, v3, v4, v5, v6, v7, v8])), (h1, .inr (11, [v9, v10, v11, v12, v13, .int 0, v14, v15, v16, v17]))] s.heap.size = A at hD hF ⊢
  have hA : ∀ q : Nat, s.heap.size ≤ q → A q := fun q h => by rw [← hAe]; exact Or.inr h
  obtain ⟨H, hHe⟩ : ∃ H : Heap, H = s.heap := ⟨_, rfl⟩
  have hS : va_S A s.heap H [] := by rw [hHe]; exact va_S.rf
  have hP : va_P D vwCl [(h0, .inr (13, [.ref h1, v0, v1, v2, v3, v4, v5, v6, v7, v8])), (h1, .inr (11, [v9, v10, v11, v12, v13, .int 0, v14, v15, v16, v17]))] H := by rw [hHe]; exact hP
  rw [← hHe]
  have hi_X10 : ∀ w ∈ wsX100, w ∈ wsX10_distanceAgain := by decide +kernel
  have hi_X8 : ∀ w ∈ wsX80, w ∈ wsX10_distanceAgain := by decide +kernel
  have hl := lv_entry [.ref h0, .int p0, .int p1] (n := 3) (Nat.le_of_ble_eq_true rfl)
  rw [lg_entry_eq]
  generalize (lg_sl [.ref h0, .int p0, .int p1] ++ List.replicate (3 - (lg_sl [.ref h0, .int p0, .int p1]).length) Slot.unset).toArray = ls at hl ⊢
  have hl : lv_has ls 3 [(0, .ref h0), (1, .int p0), (2, .int p1)] := hl
  refine lv_aload_n hx hb dX10_distanceAgain_0 rfl (lv_at hl 0 rfl) ?_
  refine lv_iload_n hx hb dX10_distanceAgain_1 rfl (lv_at hl 1 rfl) ?_
  refine kx_ (E0 := "java/lang/IndexOutOfBoundsException") (wc := [(h0, .inr (13, [.ref h1, v0, v1, v2, v3, v4, v5, v6, v7, v8])), (h1, .inr (11, [v9, v10, v11, v12, v13, .int 0, v14, v15, v16, v17]))]) (vx_runV (As := [.int p0]) (rest := []) ⟨hx, hb, hml, hown, hts⟩ (c_X10_needSurveyor_0 l hl0 D ad H.size h0 h1 (v0) (v1) (v2) (v3) (v4) (v5) (v6) (v7) (v8) (v9) (v10) (v11) (v12) (v13) (v14) (v15) (v16) (v17) p0) (cwV 1 hts gX10_distanceAgain_X10_needSurveyor rfl rfl rfl (by decide +kernel) ⟨Nat.le_of_ble_eq_true rfl, Nat.le_of_ble_eq_true rfl⟩) ⟨PC_.blind, va_recv hK hP (ci := 13) (q0 := 0) rfl rfl, PC_.pre hF hK hP hD hS hA [0, 1] [] rfl (by decide) rfl⟩ rfl rfl hl.1 rfl (lv_room (Nat.le_of_ble_eq_true rfl)) dX10_distanceAgain_2 ⟨Nat.le_of_ble_eq_true rfl, Nat.le_of_ble_eq_true rfl⟩) hD hS hA [0, 1] rfl (fun ce q9 H locs hS hce hvm hcl => ?_)
  exact vx_out (E := "java/lang/IndexOutOfBoundsException") (fun x9 hx9 => (htab x9 hx9).elim) hlocks hce hvm hcl (fun t9 ht9 _ => ⟨rfl, hS.F ht9⟩) hS.2.2 (Nat.le_of_ble_eq_true rfl) (Nat.le_of_ble_eq_true rfl)
set_option maxHeartbeats 4000000 in
set_option maxRecDepth 100000 in
theorem c_L_distanceAgain_0 (l : Launch) (hl0 : l.stackTraces = false) (D : va_G) (ad : Nat → Nat) (sz : Nat) (h0 : Nat) (h1 : Nat) (r0 : Nat) (v0 : Value) (v1 : Value) (v2 : Value) (v3 : Value) (v4 : Value) (v5 : Value) (v6 : Value) (v7 : Value) (v8 : Value) (v9 : Value) (v10 : Value) (v11 : Value) (v12 : Value) (v13 : Value) (v14 : Value) (v15 : Value) (v16 : Value) (v17 : Value) (p0 : Int32) (p1 : Int32) : Met l yL_distanceAgain wsL_distanceAgain ({ frames := 8, cells := 1, slots := 6, locals := 147 }) (PC_ D ad [(h0, .inr (13, [.ref h1, v0, v1, v2, v3, v4, v5, v6, v7, v8])), (h1, .inr (11, [v9, v10, v11, v12, v13, .int 0, v14, v15, v16, v17]))] [] sz [.ref h0, .int p0, .int p1, .ref r0]) (QG_ D (fun q i => some (.int 1)) (fun q i => True) (fun q k i => []) (fun q k i => []) (va_A [(h0, .inr (13, [.ref h1, v0, v1, v2, v3, v4, v5, v6, v7, v8])), (h1, .inr (11, [v9, v10, v11, v12, v13, .int 0, v14, v15, v16, v17]))] sz)) 1 6 (va_A [(h0, .inr (13, [.ref h1, v0, v1, v2, v3, v4, v5, v6, v7, v8])), (h1, .inr (11, [v9, v10, v11, v12, v13, .int 0, v14, v15, v16, v17]))] sz) := by
  refine va_MetW (cc := cL_distanceAgain) (maxL := 5) (ret := (some .int)) (by decide) rfl ?_
  intro p e s m args below meth c s₁ B hml hv
  obtain ⟨rfl, hsz, hP, hK, hD0, hF⟩ := hv
  have hx := B.exec
  have hb := B.bytes
  have hr := B.returns
  have hts := atoms_spec (ws := wsL_distanceAgain) B.pre
  have hown : s.vm.findClass RL = some m.cls := findClass_of_methodNamed B.named
  have hlocks := B.notSynchronized
  have htb := vx_table B (hts _ (List.mem_cons_self))
  subst hsz
  have hD := hD0.self (sz := s.heap.size)
  generalize hAe : va_A [(h0, .inr (13, [.ref h1, v0, v1, v2, v3, v4, v5, v6, v7, v8])), (h1, .inr (11, [v9, v10, v11, v12, v13, .int 0, v14, v15, v16, v17]))] s.heap.size = A at hD hF ⊢
  have hA : ∀ q : Nat, s.heap.size ≤ q → A q := fun q h => by rw [← hAe]; exact Or.inr h
  obtain ⟨H, hHe⟩ : ∃ H : Heap, H = s.heap := ⟨_, rfl⟩
  have hS : va_S A s.heap H [] := by rw [hHe]; exact va_S.rf
  have hP : va_P D vwCl [(h0, .inr (13, [.ref h1, v0, v1, v2, v3, v4, v5, v6, v7, v8])), (h1, .inr (11, [v9, v10, v11, v12, v13, .int 0, v14, v15, v16, v17]))] H := by rw [hHe]; exact hP
  rw [← hHe]
  have hi_X10 : ∀ w ∈ wsX100, w ∈ wsL_distanceAgain := by decide +kernel
  have hi_X8 : ∀ w ∈ wsX80, w ∈ wsL_distanceAgain := by decide +kernel
  have hl := lv_entry [.ref h0, .int p0, .int p1, .ref r0] (n := 5) (Nat.le_of_ble_eq_true rfl)
  rw [lg_entry_eq]
  generalize (lg_sl [.ref h0, .int p0, .int p1, .ref r0] ++ List.replicate (5 - (lg_sl [.ref h0, .int p0, .int p1, .ref r0]).length) Slot.unset).toArray = ls at hl ⊢
  have hl : lv_has ls 5 [(0, .ref h0), (1, .int p0), (2, .int p1), (3, .ref r0)] := hl
  refine lv_aload_n hx hb dL_distanceAgain_0 rfl (lv_at hl 3 rfl) ?_
  refine lv_iconst (v := 0) hx hb dL_distanceAgain_1 (by decide) ?_
  refine lv_aload_n hx hb dL_distanceAgain_2 rfl (lv_at hl 0 rfl) ?_
  refine lv_iload_n hx hb dL_distanceAgain_3 rfl (lv_at hl 1 rfl) ?_
  refine lv_iload_n hx hb dL_distanceAgain_4 rfl (lv_at hl 2 rfl) ?_
  refine kx_ (E0 := "java/lang/IndexOutOfBoundsException") (wc := [(h0, .inr (13, [.ref h1, v0, v1, v2, v3, v4, v5, v6, v7, v8])), (h1, .inr (11, [v9, v10, v11, v12, v13, .int 0, v14, v15, v16, v17]))]) (vx_runV (As := [.int p0, .int p1]) (rest := [.int 0, .ref r0]) ⟨hx, hb, hml, hown, hts⟩ (c_X10_distanceAgain_0 l hl0 D ad H.size h0 h1 (v0) (v1) (v2) (v3) (v4) (v5) (v6) (v7) (v8) (v9) (v10) (v11) (v12) (v13) (v14) (v15) (v16) (v17) p0 p1) (cwV 2 hts gL_distanceAgain_X10_distanceAgain rfl rfl rfl (by decide +kernel) ⟨Nat.le_of_ble_eq_true rfl, Nat.le_of_ble_eq_true rfl⟩) ⟨PC_.blind, va_recv hK hP (ci := 13) (q0 := 0) rfl rfl, PC_.pre hF hK hP hD hS hA [0, 1] [] rfl (by decide) rfl⟩ rfl rfl hl.1 rfl (lv_room (Nat.le_of_ble_eq_true rfl)) dL_distanceAgain_5 ⟨Nat.le_of_ble_eq_true rfl, Nat.le_of_ble_eq_true rfl⟩) hD hS hA [0, 1] rfl (fun ce q9 H locs hS hce hvm hcl => ?_)
  refine vx_catch (own := RL) (name := "java/lang/IndexOutOfBoundsException") (E := "java/lang/IndexOutOfBoundsException") hown [] (⟨0, 10, 13, 36⟩ : ExceptionTableEntry) [(⟨0, 10, 17, 43⟩ : ExceptionTableEntry)] (htb.trans rfl) (fun z hz => by cases hz) (by decide) (by decide) (hts (.classLink RL 36 "java/lang/IndexOutOfBoundsException") (List.mem_of_getElem? (i := 1) (by decide +kernel))) (fxk_ hF "java/lang/IndexOutOfBoundsException" "java/lang/IndexOutOfBoundsException") hce hvm hcl ?_
  have hP : va_P D vwCl [] H := fun k q h => by simp at h
  have hD : va_D A [] := ⟨fun i j p q h => by simp at h, fun k q h => by simp at h⟩
  have hK : va_K D vwCl [] s := ⟨hK.1, fun k q h => by simp at h⟩
  refine W.eq (g2 := F0 m 13 ls [.ref q9]) rfl ?_
  refine lv_astore (lv' := [(4, .ref q9), (0, .ref h0), (1, .int p0), (2, .int p1), (3, .ref r0)]) hx hb dL_distanceAgain_13 hl (by decide) rfl (fun ls hl => ?_)
  refine lv_iconst (v := 1) hx hb dL_distanceAgain_15 (by decide) ?_
  refine W.widen (k := 1) (n := 6) (Nat.le_of_ble_eq_true rfl) (Nat.le_of_ble_eq_true rfl) ?_
  exact W.iret (v := 1) hx hb hr (QG_.mk (fun _ => 0) (fun _ => 0) (fun _ => 0) [] [] hP hD hK hS rfl trivial rfl (by decide) rfl) hS.2.2 dL_distanceAgain_16
set_option maxHeartbeats 4000000 in
set_option maxRecDepth 100000 in
theorem c_X11_distanceAgain_0 (l : Launch) (hl0 : l.stackTraces = false) (D : va_G) (ad : Nat → Nat) (sz : Nat) (h0 : Nat) (h1 : Nat) (k1 : ClassId) (v0 : Value) (v1 : Value) (v2 : Value) (v3 : Value) (v4 : Value) (v5 : Value) (v6 : Value) (v7 : Value) (v8 : Value) (v9 : Value) (v10 : Value) (v11 : Value) (v12 : Value) (v13 : Value) (v14 : Value) (v15 : Value) (v16 : Value) (v17 : Value) (v18 : Value) (v19 : Value) (v20 : Value) (v21 : Value) (v22 : Value) (v23 : Value) (p0 : Int32) (p1 : Int32) : Met l yX11_distanceAgain wsX11_distanceAgain ({ frames := 4, cells := 0, slots := 0, locals := 96 }) (PC_ D ad [(h0, .inr (14, [.ref h1, v0, v1, v2, v3, v4, v5, v6, v7, v8, v9, v10, v11, v12, v13, v14, v15, v16, v17, v18, v19, v20, v21, v22, v23])), (h1, .inl (k1, 8277, .inl (fun _ => 0)))] [(k1, .int)] sz [.ref h0, .int p0, .int p1]) (QG_ D (fun q i => some (.int 0)) (fun q i => True) (fun q k i => [(h0, .inr (14, [.ref h1, v0, v1, v2, v3, v4, v5, v6, v7, v8, v9, v10, v11, v12, v13, v14, v15, v16, v17, v18, v19, v20, v21, .int 1, v23])), (h1, .inl (k1, 8277, .inl (fun _ => 0)))]) (fun q k i => [(k1, .int)]) (va_A [(h0, .inr (14, [.ref h1, v0, v1, v2, v3, v4, v5, v6, v7, v8, v9, v10, v11, v12, v13, v14, v15, v16, v17, v18, v19, v20, v21, v22, v23])), (h1, .inl (k1, 8277, .inl (fun _ => 0)))] sz)) 0 0 (va_A [(h0, .inr (14, [.ref h1, v0, v1, v2, v3, v4, v5, v6, v7, v8, v9, v10, v11, v12, v13, v14, v15, v16, v17, v18, v19, v20, v21, v22, v23])), (h1, .inl (k1, 8277, .inl (fun _ => 0)))] sz) := by
  refine Met.ofW (cc := cX11_distanceAgain) (maxL := 3) (ret := (some .int)) (by decide) rfl ?_
  intro p e s m args below meth c s₁ B hml hv
  obtain ⟨rfl, hsz, hP, hK, hD0, hF⟩ := hv
  have hx := B.exec
  have hb := B.bytes
  have hr := B.returns
  have hts := atoms_spec (ws := wsX11_distanceAgain) B.pre
  have hown : s.vm.findClass RX11 = some m.cls := findClass_of_methodNamed B.named
  have hlocks := B.notSynchronized
  subst hsz
  have hD := hD0.self (sz := s.heap.size)
  generalize hAe : va_A [(h0, .inr (14, [.ref h1, v0, v1, v2, v3, v4, v5, v6, v7, v8, v9, v10, v11, v12, v13, v14, v15, v16, v17, v18, v19, v20, v21, v22, v23])), (h1, .inl (k1, 8277, .inl (fun _ => 0)))] s.heap.size = A at hD hF ⊢
  have hA : ∀ q : Nat, s.heap.size ≤ q → A q := fun q h => by rw [← hAe]; exact Or.inr h
  obtain ⟨H, hHe⟩ : ∃ H : Heap, H = s.heap := ⟨_, rfl⟩
  have hS : va_S A s.heap H [] := by rw [hHe]; exact va_S.rf
  have hP : va_P D vwCl [(h0, .inr (14, [.ref h1, v0, v1, v2, v3, v4, v5, v6, v7, v8, v9, v10, v11, v12, v13, v14, v15, v16, v17, v18, v19, v20, v21, v22, v23])), (h1, .inl (k1, 8277, .inl (fun _ => 0)))] H := by rw [hHe]; exact hP
  rw [← hHe]
  have hi_X11 : ∀ w ∈ wsX110, w ∈ wsX11_distanceAgain := by decide +kernel
  have hl := lv_entry [.ref h0, .int p0, .int p1] (n := 3) (Nat.le_of_ble_eq_true rfl)
  rw [lg_entry_eq]
  generalize (lg_sl [.ref h0, .int p0, .int p1] ++ List.replicate (3 - (lg_sl [.ref h0, .int p0, .int p1]).length) Slot.unset).toArray = ls at hl ⊢
  have hl : lv_has ls 3 [(0, .ref h0), (1, .int p0), (2, .int p1)] := hl
  refine lv_aload_n hx hb dX11_distanceAgain_0 rfl (lv_at hl 0 rfl) ?_
  refine lv_iload_n hx hb dX11_distanceAgain_1 rfl (lv_at hl 1 rfl) ?_
  refine lv_iload_n hx hb dX11_distanceAgain_2 rfl (lv_at hl 2 rfl) ?_
  refine kc_ (wc := [(h0, .inr (14, [.ref h1, v0, v1, v2, v3, v4, v5, v6, v7, v8, v9, v10, v11, v12, v13, v14, v15, v16, v17, v18, v19, v20, v21, v22, v23])), (h1, .inl (k1, 8277, .inl (fun _ => 0)))]) (wr := []) (va_runV (As := [.int p0, .int p1]) (rest := []) ⟨hx, hb, hml, hown, hts⟩ (c_X11_distance_0 l hl0 D ad H.size h0 h1 k1 (v0) (v1) (v2) (v3) (v4) (v5) (v6) (v7) (v8) (v9) (v10) (v11) (v12) (v13) (v14) (v15) (v16) (v17) (v18) (v19) (v20) (v21) (v22) (v23) p0 p1) (cwV 2 hts gX11_distanceAgain_X11_distance rfl rfl rfl (by decide +kernel) ⟨Nat.le_of_ble_eq_true rfl, Nat.le_of_ble_eq_true rfl⟩) ⟨PC_.blind, va_recv hK hP (ci := 14) (q0 := 0) rfl rfl, PC_.pre hF hK hP hD hS hA [0, 1] [0] rfl (by decide) rfl⟩ rfl rfl hl.1 rfl (lv_room (Nat.le_of_ble_eq_true rfl)) dX11_distanceAgain_3 ⟨Nat.le_of_ble_eq_true rfl, Nat.le_of_ble_eq_true rfl⟩) hK hP hD hS hA [0, 1] [] [] rfl rfl (by decide) (by decide) rfl (fun qa_1 ka_1 ia_1 H locs hpo hP hD hK hS => ?_)
  have hP : va_P D vwCl [(h0, .inr (14, [.ref h1, v0, v1, v2, v3, v4, v5, v6, v7, v8, v9, v10, v11, v12, v13, v14, v15, v16, v17, v18, v19, v20, v21, .int 1, v23])), (h1, .inl (k1, 8277, .inl (fun _ => 0)))] H := hP
  have hD : va_D A [(h0, .inr (14, [.ref h1, v0, v1, v2, v3, v4, v5, v6, v7, v8, v9, v10, v11, v12, v13, v14, v15, v16, v17, v18, v19, v20, v21, .int 1, v23])), (h1, .inl (k1, 8277, .inl (fun _ => 0)))] := hD
  have hK : va_K D vwCl [(k1, .int)] s := hK
  refine W.eq (g2 := F0 m 6 ls [.int 0]) rfl ?_
  refine W.widen (k := 0) (n := 0) (Nat.le_of_ble_eq_true rfl) (Nat.le_of_ble_eq_true rfl) ?_
  exact W.iret (v := 0) hx hb hr (QG_.mk (fun _ => 0) (fun _ => 0) (fun _ => 0) [0, 1] [0] hP hD hK hS rfl trivial rfl (by decide) rfl) hS.2.2 dX11_distanceAgain_6
set_option maxHeartbeats 4000000 in
set_option maxRecDepth 100000 in
theorem c_X10_next_0 (l : Launch) (hl0 : l.stackTraces = false) (D : va_G) (ad : Nat → Nat) (sz : Nat) (h0 : Nat) (h1 : Nat) (v0 : Value) (v1 : Value) (v2 : Value) (v3 : Value) (v4 : Value) (v5 : Value) (v6 : Value) (v7 : Value) (v8 : Value) (v9 : Value) (v10 : Value) (v11 : Value) (v12 : Value) (v13 : Value) (v14 : Value) (v15 : Value) (v16 : Value) (v17 : Value) (p0 : Int32) (p1 : Int32) : vx_Met l yX10_next wsX10_next ({ frames := 7, cells := 1, slots := 6, locals := 123 }) (PC_ D ad [(h0, .inr (13, [.ref h1, v0, v1, v2, v3, v4, v5, v6, v7, v8])), (h1, .inr (11, [v9, v10, v11, v12, v13, .int 0, v14, v15, v16, v17]))] [] sz [.ref h0, .int p0, .int p1]) QN_ (XT_ "java/lang/IndexOutOfBoundsException" (va_A [(h0, .inr (13, [.ref h1, v0, v1, v2, v3, v4, v5, v6, v7, v8])), (h1, .inr (11, [v9, v10, v11, v12, v13, .int 0, v14, v15, v16, v17]))] sz)) 1 6 (va_A [(h0, .inr (13, [.ref h1, v0, v1, v2, v3, v4, v5, v6, v7, v8])), (h1, .inr (11, [v9, v10, v11, v12, v13, .int 0, v14, v15, v16, v17]))] sz) := by
  refine vx_ofW (cc := cX10_next) (maxL := 4) (ret := (some .int)) (by decide) rfl ?_
  intro p e s m args below meth c s₁ B hml htab hv
  obtain ⟨rfl, hsz, hP, hK, hD0, hF⟩ := hv
  have hx := B.exec
  have hb := B.bytes
  have hr := B.returns
  have hts := atoms_spec (ws := wsX10_next) B.pre
  have hown : s.vm.findClass RX10 = some m.cls := findClass_of_methodNamed B.named
  have hlocks := B.notSynchronized
  subst hsz
  have hD := hD0.self (sz := s.heap.size)
  generalize hAe : va_A [(h0, .inr (13, [.ref h1, v0, v1, v2, v3, v4, v5, v6, v7, v8])), (h1, .inr (11, [v9, v10, v11, v12, v13, .int 0, v14, v15, v16, v17]))] s.heap.size = A at hD hF ⊢
  have hA : ∀ q : Nat, s.heap.size ≤ q → A q := fun q h => by rw [← hAe]; exact Or.inr h
  obtain ⟨H, hHe⟩ : ∃ H : Heap, H = s.heap := ⟨_, rfl⟩
  have hS : va_S A s.heap H [] := by rw [hHe]; exact va_S.rf
  have hP : va_P D vwCl [(h0, .inr (13, [.ref h1, v0, v1, v2, v3, v4, v5, v6, v7, v8])), (h1, .inr (11, [v9, v10, v11, v12, v13, .int 0, v14, v15, v16, v17]))] H := by rw [hHe]; exact hP
  rw [← hHe]
  have hi_X10 : ∀ w ∈ wsX100, w ∈ wsX10_next := by decide +kernel
  have hi_X8 : ∀ w ∈ wsX80, w ∈ wsX10_next := by decide +kernel
  have hl := lv_entry [.ref h0, .int p0, .int p1] (n := 4) (Nat.le_of_ble_eq_true rfl)
  rw [lg_entry_eq]
  generalize (lg_sl [.ref h0, .int p0, .int p1] ++ List.replicate (4 - (lg_sl [.ref h0, .int p0, .int p1]).length) Slot.unset).toArray = ls at hl ⊢
  have hl : lv_has ls 4 [(0, .ref h0), (1, .int p0), (2, .int p1)] := hl
  refine lv_aload_n hx hb dX10_next_0 rfl (lv_at hl 0 rfl) ?_
  refine lv_iload_n hx hb dX10_next_1 rfl (lv_at hl 1 rfl) ?_
  refine kx_ (E0 := "java/lang/IndexOutOfBoundsException") (wc := [(h0, .inr (13, [.ref h1, v0, v1, v2, v3, v4, v5, v6, v7, v8])), (h1, .inr (11, [v9, v10, v11, v12, v13, .int 0, v14, v15, v16, v17]))]) (vx_runV (As := [.int p0]) (rest := []) ⟨hx, hb, hml, hown, hts⟩ (c_X10_needSurveyor_0 l hl0 D ad H.size h0 h1 (v0) (v1) (v2) (v3) (v4) (v5) (v6) (v7) (v8) (v9) (v10) (v11) (v12) (v13) (v14) (v15) (v16) (v17) p0) (cwV 1 hts gX10_next_X10_needSurveyor rfl rfl rfl (by decide +kernel) ⟨Nat.le_of_ble_eq_true rfl, Nat.le_of_ble_eq_true rfl⟩) ⟨PC_.blind, va_recv hK hP (ci := 13) (q0 := 0) rfl rfl, PC_.pre hF hK hP hD hS hA [0, 1] [] rfl (by decide) rfl⟩ rfl rfl hl.1 rfl (lv_room (Nat.le_of_ble_eq_true rfl)) dX10_next_2 ⟨Nat.le_of_ble_eq_true rfl, Nat.le_of_ble_eq_true rfl⟩) hD hS hA [0, 1] rfl (fun ce q9 H locs hS hce hvm hcl => ?_)
  exact vx_out (E := "java/lang/IndexOutOfBoundsException") (fun x9 hx9 => (htab x9 hx9).elim) hlocks hce hvm hcl (fun t9 ht9 _ => ⟨rfl, hS.F ht9⟩) hS.2.2 (Nat.le_of_ble_eq_true rfl) (Nat.le_of_ble_eq_true rfl)
