set_option maxHeartbeats 4000000 in
set_option maxRecDepth 100000 in
theorem c_J5_length_8abf5_0 (l : Launch) (hl0 : l.stackTraces = false) (D : va_G) (ad : Nat → Nat) (sz : Nat) (h0 : Nat) (v0 : Value) (v1 : Value) (v2 : Value) : Met l yJ5_length_8abf5 wsJ5_length_8abf5 ({ frames := 0, cells := 0, slots := 0, locals := 0 }) (PC_ D ad [(h0, .inr (1, [v0, v1, v2, .int 0]))] [] sz [.ref h0]) (QG_ D (fun q i => some (.int 0)) (fun q i => True) (fun q k i => [(h0, .inr (1, [v0, v1, v2, .int 0]))]) (fun q k i => []) (va_A [(h0, .inr (1, [v0, v1, v2, .int 0]))] sz)) 0 0 (va_A [(h0, .inr (1, [v0, v1, v2, .int 0]))] sz) := by
  refine Met.ofW (cc := cJ5_length_8abf5) (maxL := 1) (ret := (some .int)) (by decide) rfl ?_
  intro p e s m args below meth c s₁ B hml hv
  obtain ⟨rfl, hsz, hP, hK, hD0, hF⟩ := hv
  have hx := B.exec
  have hb := B.bytes
  have hr := B.returns
  have hts := atoms_spec (ws := wsJ5_length_8abf5) B.pre
  have hown : s.vm.findClass RJ5 = some m.cls := findClass_of_methodNamed B.named
  have hlocks := B.notSynchronized
  subst hsz
  have hD := hD0.self (sz := s.heap.size)
  generalize hAe : va_A [(h0, .inr (1, [v0, v1, v2, .int 0]))] s.heap.size = A at hD hF ⊢
  have hA : ∀ q : Nat, s.heap.size ≤ q → A q := fun q h => by rw [← hAe]; exact Or.inr h
  obtain ⟨H, hHe⟩ : ∃ H : Heap, H = s.heap := ⟨_, rfl⟩
  have hS : va_S A s.heap H [] := by rw [hHe]; exact va_S.rf
  have hP : va_P D vwCl [(h0, .inr (1, [v0, v1, v2, .int 0]))] H := by rw [hHe]; exact hP
  rw [← hHe]
  have hi_J4 : ∀ w ∈ wsJ40, w ∈ wsJ5_length_8abf5 := by decide +kernel
  have hl := lv_entry [.ref h0] (n := 1) (Nat.le_of_ble_eq_true rfl)
  rw [lg_entry_eq]
  generalize (lg_sl [.ref h0] ++ List.replicate (1 - (lg_sl [.ref h0]).length) Slot.unset).toArray = ls at hl ⊢
  have hl : lv_has ls 1 [(0, .ref h0)] := hl
  refine lv_aload_n hx hb dJ5_length_8abf5_0 rfl (lv_at hl 0 rfl) ?_
  refine va_get (D := D) (ci := 1) (v := .int 0) (own := RJ5) (C := RJ4) (T := TJ4) (N := 4) hx hb hts hi_J4 hown hK hP 0 rfl rfl 3 (by decide) (hts (.fieldLink RJ5 79 "java/lang/AbstractStringBuilder" "count" "I") (List.mem_of_getElem? (i := 1) (by decide +kernel))) (fun _ h9 => h9) rfl dJ5_length_8abf5_1 ?_
  refine W.widen (k := 0) (n := 0) (Nat.le_of_ble_eq_true rfl) (Nat.le_of_ble_eq_true rfl) ?_
  exact W.iret (v := 0) hx hb hr (QG_.mk (fun _ => 0) (fun _ => 0) (fun _ => 0) [0] [] hP hD hK hS rfl trivial rfl (by decide) rfl) hS.2.2 dJ5_length_8abf5_4
set_option maxHeartbeats 4000000 in
set_option maxRecDepth 100000 in
theorem c_J4_length_8abf5_0 (l : Launch) (hl0 : l.stackTraces = false) (D : va_G) (ad : Nat → Nat) (sz : Nat) (h0 : Nat) (v0 : Value) (v1 : Value) (v2 : Value) : Met l yJ4_length_8abf5 wsJ4_length_8abf5 ({ frames := 1, cells := 0, slots := 0, locals := 22 }) (PC_ D ad [(h0, .inr (1, [v0, v1, v2, .int 0]))] [] sz [.ref h0]) (QG_ D (fun q i => some (.int 0)) (fun q i => True) (fun q k i => [(h0, .inr (1, [v0, v1, v2, .int 0]))]) (fun q k i => []) (va_A [(h0, .inr (1, [v0, v1, v2, .int 0]))] sz)) 0 0 (va_A [(h0, .inr (1, [v0, v1, v2, .int 0]))] sz) := by
  refine Met.ofW (cc := cJ4_length_8abf5) (maxL := 1) (ret := (some .int)) (by decide) rfl ?_
  intro p e s m args below meth c s₁ B hml hv
  obtain ⟨rfl, hsz, hP, hK, hD0, hF⟩ := hv
  have hx := B.exec
  have hb := B.bytes
  have hr := B.returns
  have hts := atoms_spec (ws := wsJ4_length_8abf5) B.pre
  have hown : s.vm.findClass RJ4 = some m.cls := findClass_of_methodNamed B.named
  have hlocks := B.notSynchronized
  subst hsz
  have hD := hD0.self (sz := s.heap.size)
  generalize hAe : va_A [(h0, .inr (1, [v0, v1, v2, .int 0]))] s.heap.size = A at hD hF ⊢
  have hA : ∀ q : Nat, s.heap.size ≤ q → A q := fun q h => by rw [← hAe]; exact Or.inr h
  obtain ⟨H, hHe⟩ : ∃ H : Heap, H = s.heap := ⟨_, rfl⟩
  have hS : va_S A s.heap H [] := by rw [hHe]; exact va_S.rf
  have hP : va_P D vwCl [(h0, .inr (1, [v0, v1, v2, .int 0]))] H := by rw [hHe]; exact hP
  rw [← hHe]
  have hl := lv_entry [.ref h0] (n := 1) (Nat.le_of_ble_eq_true rfl)
  rw [lg_entry_eq]
  generalize (lg_sl [.ref h0] ++ List.replicate (1 - (lg_sl [.ref h0]).length) Slot.unset).toArray = ls at hl ⊢
  have hl : lv_has ls 1 [(0, .ref h0)] := hl
  refine lv_aload_n hx hb dJ4_length_8abf5_0 rfl (lv_at hl 0 rfl) ?_
  refine kc_ (wc := [(h0, .inr (1, [v0, v1, v2, .int 0]))]) (wr := []) (va_runSU (hK.1 1 _ rfl).2 (As := []) (rest := []) ⟨hx, hb, hml, hown, hts⟩ (c_J5_length_8abf5_0 l hl0 D ad H.size h0 (v0) (v1) (v2)) (va_cwSU 0 hts gJ4_length_8abf5_J5_length_8abf5_s343 rfl rfl rfl (by decide +kernel) ⟨Nat.le_of_ble_eq_true rfl, Nat.le_of_ble_eq_true rfl⟩) ⟨PC_.blind, va_recv hK hP (ci := 1) (q0 := 0) rfl rfl, PC_.pre hF hK hP hD hS hA [0] [] rfl (by decide) rfl⟩ rfl rfl hl.1 rfl (lv_room (Nat.le_of_ble_eq_true rfl)) dJ4_length_8abf5_1 ⟨Nat.le_of_ble_eq_true rfl, Nat.le_of_ble_eq_true rfl⟩) hK hP hD hS hA [0] [] [] rfl rfl (by decide) (by decide) rfl (fun qa_1 ka_1 ia_1 H locs hpo hP hD hK hS => ?_)
  have hP : va_P D vwCl [(h0, .inr (1, [v0, v1, v2, .int 0]))] H := hP
  have hD : va_D A [(h0, .inr (1, [v0, v1, v2, .int 0]))] := hD
  have hK : va_K D vwCl [] s := hK
  refine W.eq (g2 := F0 m 4 ls [.int 0]) rfl ?_
  refine W.widen (k := 0) (n := 0) (Nat.le_of_ble_eq_true rfl) (Nat.le_of_ble_eq_true rfl) ?_
  exact W.iret (v := 0) hx hb hr (QG_.mk (fun _ => 0) (fun _ => 0) (fun _ => 0) [0] [] hP hD hK hS rfl trivial rfl (by decide) rfl) hS.2.2 dJ4_length_8abf5_4
set_option maxHeartbeats 4000000 in
set_option maxRecDepth 100000 in
theorem c_X10_character_0 (l : Launch) (hl0 : l.stackTraces = false) (D : va_G) (ad : Nat → Nat) (sz : Nat) (h0 : Nat) (h1 : Nat) (v0 : Value) (v1 : Value) (v2 : Value) (v3 : Value) (v4 : Value) (v5 : Value) (v6 : Value) (v7 : Value) (v8 : Value) (v9 : Value) (v10 : Value) (v11 : Value) (p0 : Int32) : vx_Met l yX10_character wsX10_character ({ frames := 6, cells := 1, slots := 6, locals := 100 }) (PC_ D ad [(h0, .inr (13, [v0, v1, v2, v3, v4, v5, .ref h1, v6, v7, v8])), (h1, .inr (1, [v9, v10, v11, .int 0]))] [] sz [.ref h0, .int p0]) QN_ (XT_ "java/lang/IndexOutOfBoundsException" (va_A [(h0, .inr (13, [v0, v1, v2, v3, v4, v5, .ref h1, v6, v7, v8])), (h1, .inr (1, [v9, v10, v11, .int 0]))] sz)) 1 6 (va_A [(h0, .inr (13, [v0, v1, v2, v3, v4, v5, .ref h1, v6, v7, v8])), (h1, .inr (1, [v9, v10, v11, .int 0]))] sz) := by
  refine vx_ofW (cc := cX10_character) (maxL := 2) (ret := (some .char)) (by decide) rfl ?_
  intro p e s m args below meth c s₁ B hml htab hv
  obtain ⟨rfl, hsz, hP, hK, hD0, hF⟩ := hv
  have hx := B.exec
  have hb := B.bytes
  have hr := B.returns
  have hts := atoms_spec (ws := wsX10_character) B.pre
  have hown : s.vm.findClass RX10 = some m.cls := findClass_of_methodNamed B.named
  have hlocks := B.notSynchronized
  subst hsz
  have hD := hD0.self (sz := s.heap.size)
  generalize hAe : va_A [(h0, .inr (13, [v0, v1, v2, v3, v4, v5, .ref h1, v6, v7, v8])), (h1, .inr (1, [v9, v10, v11, .int 0]))] s.heap.size = A at hD hF ⊢
  have hA : ∀ q : Nat, s.heap.size ≤ q → A q := fun q h => by rw [← hAe]; exact Or.inr h
  obtain ⟨H, hHe⟩ : ∃ H : Heap, H = s.heap := ⟨_, rfl⟩
  have hS : va_S A s.heap H [] := by rw [hHe]; exact va_S.rf
  have hP : va_P D vwCl [(h0, .inr (13, [v0, v1, v2, v3, v4, v5, .ref h1, v6, v7, v8])), (h1, .inr (1, [v9, v10, v11, .int 0]))] H := by rw [hHe]; exact hP
  rw [← hHe]
  have hi_X10 : ∀ w ∈ wsX100, w ∈ wsX10_character := by decide +kernel
  have hl := lv_entry [.ref h0, .int p0] (n := 2) (Nat.le_of_ble_eq_true rfl)
  rw [lg_entry_eq]
  generalize (lg_sl [.ref h0, .int p0] ++ List.replicate (2 - (lg_sl [.ref h0, .int p0]).length) Slot.unset).toArray = ls at hl ⊢
  have hl : lv_has ls 2 [(0, .ref h0), (1, .int p0)] := hl
  refine lv_iload_n hx hb dX10_character_0 rfl (lv_at hl 1 rfl) ?_
  refine lv_if_lt (tgt := 15) hx hb dX10_character_1 (by decide) (fun c_1 => ?_) (fun c_1 => ?_)
  · obtain ⟨sa9, hstr⟩ := fxs_ hF RX10 343 "the line has no such index"
    exact vx_throwSW (own := RX10) (cls := "java/lang/IndexOutOfBoundsException") (names := ["java/lang/RuntimeException", "java/lang/Exception"]) hx hb hl0 hown (by decide +kernel) (by decide +kernel) (hts (.classLink RX10 341 "java/lang/IndexOutOfBoundsException") (List.mem_of_getElem? (i := 1) (by decide +kernel))) (hts (.initialized "java/lang/IndexOutOfBoundsException") (List.mem_of_getElem? (i := 2) (by decide +kernel))) hstr (fxw_ hts (by decide +kernel) (by decide +kernel) (fxb_ hF "java/lang/IndexOutOfBoundsException")) (by decide +kernel) hF.2.2.2.2.1 hF.2.2.2.2.2.1 hS (by rw [hml]; exact hl.1) dX10_character_15 dX10_character_18 dX10_character_19 dX10_character_22 dX10_character_25 (fun x9 hx9 => (htab x9 hx9).elim) (Nat.le_of_ble_eq_true rfl) (Nat.le_of_ble_eq_true rfl) (Nat.le_of_ble_eq_true rfl) (Nat.le_of_ble_eq_true rfl) hlocks (fun t9 _ hz9 hq9 => ⟨rfl, xt_ hS hz9 hq9⟩) hS.2.2 (Nat.le_of_ble_eq_true rfl) (Nat.le_of_ble_eq_true rfl)
  · refine lv_iload_n hx hb dX10_character_4 rfl (lv_at hl 1 rfl) ?_
    refine lv_aload_n hx hb dX10_character_5 rfl (lv_at hl 0 rfl) ?_
    refine va_get (D := D) (ci := 13) (v := .ref h1) (own := RX10) (C := RX10) (T := TX10) (N := 10) hx hb hts hi_X10 hown hK hP 0 rfl rfl 6 (by decide) (hts (.fieldLink RX10 26 "CanalMaps" "written" "Ljava/lang/StringBuilder;") (List.mem_of_getElem? (i := 3) (by decide +kernel))) (fun _ h9 => h9) rfl dX10_character_6 ?_
    refine kc_ (wc := [(h1, .inr (1, [v9, v10, v11, .int 0]))]) (wr := [(h0, .inr (13, [v0, v1, v2, v3, v4, v5, .ref h1, v6, v7, v8]))]) (va_runV (As := []) (rest := [.int p0]) ⟨hx, hb, hml, hown, hts⟩ (c_J4_length_8abf5_0 l hl0 D ad H.size h1 (v9) (v10) (v11)) (cwV 0 hts gX10_character_J4_length_8abf5 rfl rfl rfl (by decide +kernel) ⟨Nat.le_of_ble_eq_true rfl, Nat.le_of_ble_eq_true rfl⟩) ⟨PC_.blind, va_recv hK hP (ci := 1) (q0 := 1) rfl rfl, PC_.pre hF hK hP hD hS hA [1] [] rfl (by decide) rfl⟩ rfl rfl hl.1 rfl (lv_room (Nat.le_of_ble_eq_true rfl)) dX10_character_9 ⟨Nat.le_of_ble_eq_true rfl, Nat.le_of_ble_eq_true rfl⟩) hK hP hD hS hA [1] [0] [] rfl rfl (by decide) (by decide) rfl (fun qa_2 ka_2 ia_2 H locs hpo hP hD hK hS => ?_)
    have hP : va_P D vwCl [(h0, .inr (13, [v0, v1, v2, v3, v4, v5, .ref h1, v6, v7, v8])), (h1, .inr (1, [v9, v10, v11, .int 0]))] H := hP
    have hD : va_D A [(h0, .inr (13, [v0, v1, v2, v3, v4, v5, .ref h1, v6, v7, v8])), (h1, .inr (1, [v9, v10, v11, .int 0]))] := hD
    have hK : va_K D vwCl [] s := hK
    refine W.eq (g2 := F0 m 12 ls [.int 0, .int p0]) rfl ?_
    refine lv_icmp_lt (tgt := 26) hx hb dX10_character_12 (by decide) (fun c9 => absurd c9 c_1) (fun _ => ?_)
    obtain ⟨sa9, hstr⟩ := fxs_ hF RX10 343 "the line has no such index"
    exact vx_throwSW (own := RX10) (cls := "java/lang/IndexOutOfBoundsException") (names := ["java/lang/RuntimeException", "java/lang/Exception"]) hx hb hl0 hown (by decide +kernel) (by decide +kernel) (hts (.classLink RX10 341 "java/lang/IndexOutOfBoundsException") (List.mem_of_getElem? (i := 1) (by decide +kernel))) (hts (.initialized "java/lang/IndexOutOfBoundsException") (List.mem_of_getElem? (i := 2) (by decide +kernel))) hstr (fxw_ hts (by decide +kernel) (by decide +kernel) (fxb_ hF "java/lang/IndexOutOfBoundsException")) (by decide +kernel) hF.2.2.2.2.1 hF.2.2.2.2.2.1 hS (by rw [hml]; exact hl.1) dX10_character_15 dX10_character_18 dX10_character_19 dX10_character_22 dX10_character_25 (fun x9 hx9 => (htab x9 hx9).elim) (Nat.le_of_ble_eq_true rfl) (Nat.le_of_ble_eq_true rfl) (Nat.le_of_ble_eq_true rfl) (Nat.le_of_ble_eq_true rfl) hlocks (fun t9 _ hz9 hq9 => ⟨rfl, xt_ hS hz9 hq9⟩) hS.2.2 (Nat.le_of_ble_eq_true rfl) (Nat.le_of_ble_eq_true rfl)
set_option maxHeartbeats 4000000 in
set_option maxRecDepth 100000 in
theorem c_L_character_0 (l : Launch) (hl0 : l.stackTraces = false) (D : va_G) (ad : Nat → Nat) (sz : Nat) (h0 : Nat) (h1 : Nat) (r0 : Nat) (v0 : Value) (v1 : Value) (v2 : Value) (v3 : Value) (v4 : Value) (v5 : Value) (v6 : Value) (v7 : Value) (v8 : Value) (v9 : Value) (v10 : Value) (v11 : Value) (p0 : Int32) : Met l yL_character wsL_character ({ frames := 7, cells := 1, slots := 6, locals := 123 }) (PC_ D ad [(h0, .inr (13, [v0, v1, v2, v3, v4, v5, .ref h1, v6, v7, v8])), (h1, .inr (1, [v9, v10, v11, .int 0]))] [] sz [.ref h0, .int p0, .ref r0]) (QG_ D (fun q i => some (.int 1)) (fun q i => True) (fun q k i => []) (fun q k i => []) (va_A [(h0, .inr (13, [v0, v1, v2, v3, v4, v5, .ref h1, v6, v7, v8])), (h1, .inr (1, [v9, v10, v11, .int 0]))] sz)) 1 6 (va_A [(h0, .inr (13, [v0, v1, v2, v3, v4, v5, .ref h1, v6, v7, v8])), (h1, .inr (1, [v9, v10, v11, .int 0]))] sz) := by
  refine va_MetW (cc := cL_character) (maxL := 4) (ret := (some .int)) (by decide) rfl ?_
  intro p e s m args below meth c s₁ B hml hv
  obtain ⟨rfl, hsz, hP, hK, hD0, hF⟩ := hv
  have hx := B.exec
  have hb := B.bytes
  have hr := B.returns
  have hts := atoms_spec (ws := wsL_character) B.pre
  have hown : s.vm.findClass RL = some m.cls := findClass_of_methodNamed B.named
  have hlocks := B.notSynchronized
  have htb := vx_table (x := yL_character) B (hts _ (List.mem_cons_self))
  subst hsz
  have hD := hD0.self (sz := s.heap.size)
  generalize hAe : va_A [(h0, .inr (13, [v0, v1, v2, v3, v4, v5, .ref h1, v6, v7, v8])), (h1, .inr (1, [v9, v10, v11, .int 0]))] s.heap.size = A at hD hF ⊢
  have hA : ∀ q : Nat, s.heap.size ≤ q → A q := fun q h => by rw [← hAe]; exact Or.inr h
  obtain ⟨H, hHe⟩ : ∃ H : Heap, H = s.heap := ⟨_, rfl⟩
  have hS : va_S A s.heap H [] := by rw [hHe]; exact va_S.rf
  have hP : va_P D vwCl [(h0, .inr (13, [v0, v1, v2, v3, v4, v5, .ref h1, v6, v7, v8])), (h1, .inr (1, [v9, v10, v11, .int 0]))] H := by rw [hHe]; exact hP
  rw [← hHe]
  have hl := lv_entry [.ref h0, .int p0, .ref r0] (n := 4) (Nat.le_of_ble_eq_true rfl)
  rw [lg_entry_eq]
  generalize (lg_sl [.ref h0, .int p0, .ref r0] ++ List.replicate (4 - (lg_sl [.ref h0, .int p0, .ref r0]).length) Slot.unset).toArray = ls at hl ⊢
  have hl : lv_has ls 4 [(0, .ref h0), (1, .int p0), (2, .ref r0)] := hl
  refine lv_aload_n hx hb dL_character_0 rfl (lv_at hl 2 rfl) ?_
  refine lv_iconst (v := 0) hx hb dL_character_1 (by decide) ?_
  refine lv_aload_n hx hb dL_character_2 rfl (lv_at hl 0 rfl) ?_
  refine lv_iload_n hx hb dL_character_3 rfl (lv_at hl 1 rfl) ?_
  refine kx_ (E0 := "java/lang/IndexOutOfBoundsException") (wc := [(h0, .inr (13, [v0, v1, v2, v3, v4, v5, .ref h1, v6, v7, v8])), (h1, .inr (1, [v9, v10, v11, .int 0]))]) (vx_runV (As := [.int p0]) (rest := [.int 0, .ref r0]) ⟨hx, hb, hml, hown, hts⟩ (c_X10_character_0 l hl0 D ad H.size h0 h1 (v0) (v1) (v2) (v3) (v4) (v5) (v6) (v7) (v8) (v9) (v10) (v11) p0) (cwV 1 hts gL_character_X10_character rfl rfl rfl (by decide +kernel) ⟨Nat.le_of_ble_eq_true rfl, Nat.le_of_ble_eq_true rfl⟩) ⟨PC_.blind, va_recv hK hP (ci := 13) (q0 := 0) rfl rfl, PC_.pre hF hK hP hD hS hA [0, 1] [] rfl (by decide) rfl⟩ rfl rfl hl.1 rfl (lv_room (Nat.le_of_ble_eq_true rfl)) dL_character_4 ⟨Nat.le_of_ble_eq_true rfl, Nat.le_of_ble_eq_true rfl⟩) hD hS hA [0, 1] rfl (fun ce q9 H locs hS hce hvm hcl => ?_)
  refine vx_catch (own := RL) (name := "java/lang/IndexOutOfBoundsException") (E := "java/lang/IndexOutOfBoundsException") hown [] (⟨0, 9, 12, 36⟩ : ExceptionTableEntry) [] (htb.trans rfl) (fun z hz => by cases hz) (by decide) (by decide) (hts (.classLink RL 36 "java/lang/IndexOutOfBoundsException") (List.mem_of_getElem? (i := 1) (by decide +kernel))) (fxk_ hF "java/lang/IndexOutOfBoundsException" "java/lang/IndexOutOfBoundsException") hce hvm hcl ?_
  have hP : va_P D vwCl [] H := fun k q h => by simp at h
  have hD : va_D A [] := ⟨fun i j p q h => by simp at h, fun k q h => by simp at h⟩
  have hK : va_K D vwCl [] s := ⟨hK.1, fun k q h => by simp at h⟩
  refine W.eq (g2 := F0 m 12 ls [.ref q9]) rfl ?_
  refine lv_astore_n (lv' := [(3, .ref q9), (0, .ref h0), (1, .int p0), (2, .ref r0)]) hx hb dL_character_12 rfl hl (by decide) rfl (fun ls hl => ?_)
  refine lv_iconst (v := 1) hx hb dL_character_13 (by decide) ?_
  refine W.widen (k := 1) (n := 6) (Nat.le_of_ble_eq_true rfl) (Nat.le_of_ble_eq_true rfl) ?_
  exact W.iret (v := 1) hx hb hr (QG_.mk (fun _ => 0) (fun _ => 0) (fun _ => 0) [] [] hP hD hK hS rfl trivial rfl (by decide) rfl) hS.2.2 dL_character_14
set_option maxHeartbeats 4000000 in
set_option maxRecDepth 100000 in
theorem c_X11_character_0 (l : Launch) (hl0 : l.stackTraces = false) (D : va_G) (ad : Nat → Nat) (sz : Nat) (h0 : Nat) (v0 : Value) (v1 : Value) (v2 : Value) (v3 : Value) (v4 : Value) (v5 : Value) (v6 : Value) (v7 : Value) (v8 : Value) (v9 : Value) (v10 : Value) (v11 : Value) (v12 : Value) (v13 : Value) (v14 : Value) (v15 : Value) (v16 : Value) (v17 : Value) (v18 : Value) (v19 : Value) (v20 : Value) (v21 : Value) (v22 : Value) (p0 : Int32) : Met l yX11_character wsX11_character ({ frames := 1, cells := 0, slots := 0, locals := 24 }) (PC_ D ad [(h0, .inr (14, [v0, v1, v2, v3, v4, v5, v6, v7, v8, v9, v10, .int 0, v11, v12, v13, v14, v15, v16, v17, v18, v19, v20, v21, .int 0, v22]))] [] sz [.ref h0, .int p0]) (QG_ D (fun q i => some (.int 97)) (fun q i => True) (fun q k i => [(h0, .inr (14, [v0, v1, v2, v3, v4, v5, v6, v7, v8, v9, v10, .int 0, v11, v12, v13, v14, v15, v16, v17, v18, v19, v20, v21, .int 1, v22]))]) (fun q k i => []) (va_A [(h0, .inr (14, [v0, v1, v2, v3, v4, v5, v6, v7, v8, v9, v10, .int 0, v11, v12, v13, v14, v15, v16, v17, v18, v19, v20, v21, .int 0, v22]))] sz)) 0 0 (va_A [(h0, .inr (14, [v0, v1, v2, v3, v4, v5, v6, v7, v8, v9, v10, .int 0, v11, v12, v13, v14, v15, v16, v17, v18, v19, v20, v21, .int 0, v22]))] sz) := by
  refine Met.ofW (cc := cX11_character) (maxL := 2) (ret := (some .char)) (by decide) rfl ?_
  intro p e s m args below meth c s₁ B hml hv
  obtain ⟨rfl, hsz, hP, hK, hD0, hF⟩ := hv
  have hx := B.exec
  have hb := B.bytes
  have hr := B.returns
  have hts := atoms_spec (ws := wsX11_character) B.pre
  have hown : s.vm.findClass RX11 = some m.cls := findClass_of_methodNamed B.named
  have hlocks := B.notSynchronized
  subst hsz
  have hD := hD0.self (sz := s.heap.size)
  generalize hAe : va_A [(h0, .inr (14, [v0, v1, v2, v3, v4, v5, v6, v7, v8, v9, v10, .int 0, v11, v12, v13, v14, v15, v16, v17, v18, v19, v20, v21, .int 0, v22]))] s.heap.size = A at hD hF ⊢
  have hA : ∀ q : Nat, s.heap.size ≤ q → A q := fun q h => by rw [← hAe]; exact Or.inr h
  obtain ⟨H, hHe⟩ : ∃ H : Heap, H = s.heap := ⟨_, rfl⟩
  have hS : va_S A s.heap H [] := by rw [hHe]; exact va_S.rf
  have hP : va_P D vwCl [(h0, .inr (14, [v0, v1, v2, v3, v4, v5, v6, v7, v8, v9, v10, .int 0, v11, v12, v13, v14, v15, v16, v17, v18, v19, v20, v21, .int 0, v22]))] H := by rw [hHe]; exact hP
  rw [← hHe]
  have hi_X11 : ∀ w ∈ wsX110, w ∈ wsX11_character := by decide +kernel
  have hl := lv_entry [.ref h0, .int p0] (n := 2) (Nat.le_of_ble_eq_true rfl)
  rw [lg_entry_eq]
  generalize (lg_sl [.ref h0, .int p0] ++ List.replicate (2 - (lg_sl [.ref h0, .int p0]).length) Slot.unset).toArray = ls at hl ⊢
  have hl : lv_has ls 2 [(0, .ref h0), (1, .int p0)] := hl
  refine lv_aload_n hx hb dX11_character_0 rfl (lv_at hl 0 rfl) ?_
  refine lv_iload_n hx hb dX11_character_1 rfl (lv_at hl 1 rfl) ?_
  refine lv_iconst (v := 0) hx hb dX11_character_2 (by decide) ?_
  refine lv_aload_n hx hb dX11_character_3 rfl (lv_at hl 0 rfl) ?_
  refine va_get (D := D) (ci := 14) (v := .int 0) (own := RX11) (C := RX11) (T := TX11) (N := 25) hx hb hts hi_X11 hown hK hP 0 rfl rfl 11 (by decide) (hts (.fieldLink RX11 256 "CanalMapsModel" "lined" "I") (List.mem_of_getElem? (i := 1) (by decide +kernel))) (fun _ h9 => h9) rfl dX11_character_4 ?_
  refine lv_iconst (v := 1) hx hb dX11_character_7 (by decide) ?_
  refine lv_isub hx hb dX11_character_8 ?_
  refine kt_ (v := (-1)) (by decide +kernel) ?_
  refine kc_ (wc := []) (wr := [(h0, .inr (14, [v0, v1, v2, v3, v4, v5, v6, v7, v8, v9, v10, .int 0, v11, v12, v13, v14, v15, v16, v17, v18, v19, v20, v21, .int 0, v22]))]) (va_runS (As := [.int p0, .int 0, .int (-1)]) (rest := [.ref h0]) ⟨hx, hb, hml, hown, hts⟩ (c_X11_in_0 l hl0 D ad H.size p0) (va_cwS 3 hts gX11_character_X11_in rfl rfl rfl (by decide +kernel) ⟨Nat.le_of_ble_eq_true rfl, Nat.le_of_ble_eq_true rfl⟩) ⟨PC_.blind, PC_.pre hF hK hP hD hS hA [] [] rfl (by decide) rfl⟩ rfl rfl hl.1 rfl (lv_room (Nat.le_of_ble_eq_true rfl)) dX11_character_9 ⟨Nat.le_of_ble_eq_true rfl, Nat.le_of_ble_eq_true rfl⟩) hK hP hD hS hA [] [0] [] rfl rfl (by decide) (by decide) rfl (fun qa_1 ka_1 ia_1 H locs hpo hP hD hK hS => ?_)
  have hP : va_P D vwCl [(h0, .inr (14, [v0, v1, v2, v3, v4, v5, v6, v7, v8, v9, v10, .int 0, v11, v12, v13, v14, v15, v16, v17, v18, v19, v20, v21, .int 0, v22]))] H := hP
  have hD : va_D A [(h0, .inr (14, [v0, v1, v2, v3, v4, v5, v6, v7, v8, v9, v10, .int 0, v11, v12, v13, v14, v15, v16, v17, v18, v19, v20, v21, .int 0, v22]))] := hD
  have hK : va_K D vwCl [] s := hK
  refine W.eq (g2 := F0 m 12 ls [.int 0, .ref h0]) rfl ?_
  refine lv_if_eq (tgt := 19) hx hb dX11_character_12 (by decide) (fun _ => ?_) (fun c9 => absurd (by decide +kernel) c9)
  refine lv_iconst (v := 1) hx hb dX11_character_19 (by decide) ?_
  refine va_put (D := D) (ci := 14) (v := .int 1) (ty := .int) (own := RX11) (C := RX11) (T := TX11) (N := 25) hx hb hts hi_X11 tyX11 tyX11_ok nmX11 hown hK hP hD hS 0 rfl rfl 23 (by decide) (hts (.fieldLink RX11 47 "CanalMapsModel" "thrown" "I") (List.mem_of_getElem? (i := 2) (by decide +kernel))) (fun _ h9 => h9) rfl (by decide +kernel) rfl rfl (Nat.le_of_ble_eq_true rfl) dX11_character_20 (fun H locs hP hD hS => ?_)
  have hP : va_P D vwCl [(h0, .inr (14, [v0, v1, v2, v3, v4, v5, v6, v7, v8, v9, v10, .int 0, v11, v12, v13, v14, v15, v16, v17, v18, v19, v20, v21, .int 1, v22]))] H := hP
  have hD : va_D A [(h0, .inr (14, [v0, v1, v2, v3, v4, v5, v6, v7, v8, v9, v10, .int 0, v11, v12, v13, v14, v15, v16, v17, v18, v19, v20, v21, .int 1, v22]))] := hD
  refine lv_aload_n hx hb dX11_character_23 rfl (lv_at hl 0 rfl) ?_
  refine va_get (D := D) (ci := 14) (v := .int 1) (own := RX11) (C := RX11) (T := TX11) (N := 25) hx hb hts hi_X11 hown hK hP 0 rfl rfl 23 (by decide) (hts (.fieldLink RX11 47 "CanalMapsModel" "thrown" "I") (List.mem_of_getElem? (i := 2) (by decide +kernel))) (fun _ h9 => h9) rfl dX11_character_24 ?_
  refine lv_if_ne (tgt := 39) hx hb dX11_character_27 (by decide) (fun _ => ?_) (fun c9 => absurd c9 (by decide +kernel))
  refine lv_bipush (v := 97) hx hb dX11_character_39 (by decide) ?_
  refine W.widen (k := 0) (n := 0) (Nat.le_of_ble_eq_true rfl) (Nat.le_of_ble_eq_true rfl) ?_
  exact W.zret (v := 97) hx hb hr rfl (QG_.mk (fun _ => 0) (fun _ => 0) (fun _ => 0) [0] [] hP hD hK hS rfl trivial rfl (by decide) rfl) hS.2.2 dX11_character_41
set_option maxHeartbeats 4000000 in
set_option maxRecDepth 100000 in
theorem c_X8_countCanals_0 (l : Launch) (hl0 : l.stackTraces = false) (D : va_G) (ad : Nat → Nat) (sz : Nat) (h0 : Nat) (v0 : Value) (v1 : Value) (v2 : Value) (v3 : Value) (v4 : Value) (v5 : Value) (v6 : Value) (v7 : Value) (v8 : Value) : Met l yX8_countCanals wsX8_countCanals ({ frames := 0, cells := 0, slots := 0, locals := 0 }) (PC_ D ad [(h0, .inr (11, [v0, v1, v2, v3, v4, .int 0, v5, v6, v7, v8]))] [] sz [.ref h0]) (QG_ D (fun q i => some (.int 0)) (fun q i => True) (fun q k i => [(h0, .inr (11, [v0, v1, v2, v3, v4, .int 0, v5, v6, v7, v8]))]) (fun q k i => []) (va_A [(h0, .inr (11, [v0, v1, v2, v3, v4, .int 0, v5, v6, v7, v8]))] sz)) 0 0 (va_A [(h0, .inr (11, [v0, v1, v2, v3, v4, .int 0, v5, v6, v7, v8]))] sz) := by
  refine Met.ofW (cc := cX8_countCanals) (maxL := 3) (ret := (some .int)) (by decide) rfl ?_
  intro p e s m args below meth c s₁ B hml hv
  obtain ⟨rfl, hsz, hP, hK, hD0, hF⟩ := hv
  have hx := B.exec
  have hb := B.bytes
  have hr := B.returns
  have hts := atoms_spec (ws := wsX8_countCanals) B.pre
  have hown : s.vm.findClass RX8 = some m.cls := findClass_of_methodNamed B.named
  have hlocks := B.notSynchronized
  subst hsz
  have hD := hD0.self (sz := s.heap.size)
  generalize hAe : va_A [(h0, .inr (11, [v0, v1, v2, v3, v4, .int 0, v5, v6, v7, v8]))] s.heap.size = A at hD hF ⊢
  have hA : ∀ q : Nat, s.heap.size ≤ q → A q := fun q h => by rw [← hAe]; exact Or.inr h
  obtain ⟨H, hHe⟩ : ∃ H : Heap, H = s.heap := ⟨_, rfl⟩
  have hS : va_S A s.heap H [] := by rw [hHe]; exact va_S.rf
  have hP : va_P D vwCl [(h0, .inr (11, [v0, v1, v2, v3, v4, .int 0, v5, v6, v7, v8]))] H := by rw [hHe]; exact hP
  rw [← hHe]
  have hi_X8 : ∀ w ∈ wsX80, w ∈ wsX8_countCanals := by decide +kernel
  have hl := lv_entry [.ref h0] (n := 3) (Nat.le_of_ble_eq_true rfl)
  rw [lg_entry_eq]
  generalize (lg_sl [.ref h0] ++ List.replicate (3 - (lg_sl [.ref h0]).length) Slot.unset).toArray = ls at hl ⊢
  have hl : lv_has ls 3 [(0, .ref h0)] := hl
  refine lv_iconst (v := 0) hx hb dX8_countCanals_0 (by decide) ?_
  refine lv_istore_n (lv' := [(1, .int 0), (0, .ref h0)]) hx hb dX8_countCanals_1 rfl hl (by decide) rfl (fun ls hl => ?_)
  refine lv_iconst (v := 0) hx hb dX8_countCanals_2 (by decide) ?_
  refine lv_istore_n (lv' := [(2, .int 0), (1, .int 0), (0, .ref h0)]) hx hb dX8_countCanals_3 rfl hl (by decide) rfl (fun ls hl => ?_)
  refine lv_iload_n hx hb dX8_countCanals_4 rfl (lv_at hl 0 rfl) ?_
  refine lv_aload_n hx hb dX8_countCanals_5 rfl (lv_at hl 2 rfl) ?_
  refine va_get (D := D) (ci := 11) (v := .int 0) (own := RX8) (C := RX8) (T := TX8) (N := 10) hx hb hts hi_X8 hown hK hP 0 rfl rfl 5 (by decide) (hts (.fieldLink RX8 28 "CanalMaps$Survey" "surveyors" "I") (List.mem_of_getElem? (i := 1) (by decide +kernel))) (fun _ h9 => h9) rfl dX8_countCanals_6 ?_
  refine lv_icmp_ge (tgt := 26) hx hb dX8_countCanals_9 (by decide) (fun _ => ?_) (fun c9 => absurd (by decide +kernel) c9)
  refine lv_iload_n hx hb dX8_countCanals_26 rfl (lv_at hl 1 rfl) ?_
  refine lv_iconst (v := 2) hx hb dX8_countCanals_27 (by decide) ?_
  refine lv_idiv hx hb dX8_countCanals_28 (by decide +kernel) ?_
  refine kt_ (v := 0) (by decide +kernel) ?_
  refine W.widen (k := 0) (n := 0) (Nat.le_of_ble_eq_true rfl) (Nat.le_of_ble_eq_true rfl) ?_
  exact W.iret (v := 0) hx hb hr (QG_.mk (fun _ => 0) (fun _ => 0) (fun _ => 0) [0] [] hP hD hK hS rfl trivial rfl (by decide) rfl) hS.2.2 dX8_countCanals_29
set_option maxHeartbeats 4000000 in
set_option maxRecDepth 100000 in
theorem c_X10_meanCost_0 (l : Launch) (hl0 : l.stackTraces = false) (D : va_G) (ad : Nat → Nat) (sz : Nat) (h0 : Nat) (h1 : Nat) (v0 : Value) (v1 : Value) (v2 : Value) (v3 : Value) (v4 : Value) (v5 : Value) (v6 : Value) (v7 : Value) (v8 : Value) (v9 : Value) (v10 : Value) (v11 : Value) (v12 : Value) (v13 : Value) (v14 : Value) (v15 : Value) (v16 : Value) (v17 : Value) : vx_Met l yX10_meanCost wsX10_meanCost ({ frames := 6, cells := 1, slots := 6, locals := 100 }) (PC_ D ad [(h0, .inr (13, [.ref h1, v0, v1, v2, v3, v4, v5, v6, v7, v8])), (h1, .inr (11, [v9, v10, v11, v12, v13, .int 0, v14, v15, v16, v17]))] [] sz [.ref h0]) QN_ (XT_ "java/lang/ArithmeticException" (va_A [(h0, .inr (13, [.ref h1, v0, v1, v2, v3, v4, v5, v6, v7, v8])), (h1, .inr (11, [v9, v10, v11, v12, v13, .int 0, v14, v15, v16, v17]))] sz)) 1 6 (va_A [(h0, .inr (13, [.ref h1, v0, v1, v2, v3, v4, v5, v6, v7, v8])), (h1, .inr (11, [v9, v10, v11, v12, v13, .int 0, v14, v15, v16, v17]))] sz) := by
  refine vx_ofW (cc := cX10_meanCost) (maxL := 2) (ret := (some .double)) (by decide) rfl ?_
  intro p e s m args below meth c s₁ B hml htab hv
  obtain ⟨rfl, hsz, hP, hK, hD0, hF⟩ := hv
  have hx := B.exec
  have hb := B.bytes
  have hr := B.returns
  have hts := atoms_spec (ws := wsX10_meanCost) B.pre
  have hown : s.vm.findClass RX10 = some m.cls := findClass_of_methodNamed B.named
  have hlocks := B.notSynchronized
  subst hsz
  have hD := hD0.self (sz := s.heap.size)
  generalize hAe : va_A [(h0, .inr (13, [.ref h1, v0, v1, v2, v3, v4, v5, v6, v7, v8])), (h1, .inr (11, [v9, v10, v11, v12, v13, .int 0, v14, v15, v16, v17]))] s.heap.size = A at hD hF ⊢
  have hA : ∀ q : Nat, s.heap.size ≤ q → A q := fun q h => by rw [← hAe]; exact Or.inr h
  obtain ⟨H, hHe⟩ : ∃ H : Heap, H = s.heap := ⟨_, rfl⟩
  have hS : va_S A s.heap H [] := by rw [hHe]; exact va_S.rf
  have hP : va_P D vwCl [(h0, .inr (13, [.ref h1, v0, v1, v2, v3, v4, v5, v6, v7, v8])), (h1, .inr (11, [v9, v10, v11, v12, v13, .int 0, v14, v15, v16, v17]))] H := by rw [hHe]; exact hP
  rw [← hHe]
  have hi_X10 : ∀ w ∈ wsX100, w ∈ wsX10_meanCost := by decide +kernel
  have hl := lv_entry [.ref h0] (n := 2) (Nat.le_of_ble_eq_true rfl)
  rw [lg_entry_eq]
  generalize (lg_sl [.ref h0] ++ List.replicate (2 - (lg_sl [.ref h0]).length) Slot.unset).toArray = ls at hl ⊢
  have hl : lv_has ls 2 [(0, .ref h0)] := hl
  refine lv_aload_n hx hb dX10_meanCost_0 rfl (lv_at hl 0 rfl) ?_
  refine va_get (D := D) (ci := 13) (v := .ref h1) (own := RX10) (C := RX10) (T := TX10) (N := 10) hx hb hts hi_X10 hown hK hP 0 rfl rfl 0 (by decide) (hts (.fieldLink RX10 50 "CanalMaps" "now" "LCanalMaps$Survey;") (List.mem_of_getElem? (i := 3) (by decide +kernel))) (fun _ h9 => h9) rfl dX10_meanCost_1 ?_
  refine kc_ (wc := [(h1, .inr (11, [v9, v10, v11, v12, v13, .int 0, v14, v15, v16, v17]))]) (wr := [(h0, .inr (13, [.ref h1, v0, v1, v2, v3, v4, v5, v6, v7, v8]))]) (va_runV (As := []) (rest := []) ⟨hx, hb, hml, hown, hts⟩ (c_X8_countCanals_0 l hl0 D ad H.size h1 (v9) (v10) (v11) (v12) (v13) (v14) (v15) (v16) (v17)) (cwV 0 hts gX10_meanCost_X8_countCanals rfl rfl rfl (by decide +kernel) ⟨Nat.le_of_ble_eq_true rfl, Nat.le_of_ble_eq_true rfl⟩) ⟨PC_.blind, va_recv hK hP (ci := 11) (q0 := 1) rfl rfl, PC_.pre hF hK hP hD hS hA [1] [] rfl (by decide) rfl⟩ rfl rfl hl.1 rfl (lv_room (Nat.le_of_ble_eq_true rfl)) dX10_meanCost_4 ⟨Nat.le_of_ble_eq_true rfl, Nat.le_of_ble_eq_true rfl⟩) hK hP hD hS hA [1] [0] [] rfl rfl (by decide) (by decide) rfl (fun qa_1 ka_1 ia_1 H locs hpo hP hD hK hS => ?_)
  have hP : va_P D vwCl [(h0, .inr (13, [.ref h1, v0, v1, v2, v3, v4, v5, v6, v7, v8])), (h1, .inr (11, [v9, v10, v11, v12, v13, .int 0, v14, v15, v16, v17]))] H := hP
  have hD : va_D A [(h0, .inr (13, [.ref h1, v0, v1, v2, v3, v4, v5, v6, v7, v8])), (h1, .inr (11, [v9, v10, v11, v12, v13, .int 0, v14, v15, v16, v17]))] := hD
  have hK : va_K D vwCl [] s := hK
  refine W.eq (g2 := F0 m 7 ls [.int 0]) rfl ?_
  refine lv_istore_n (lv' := [(1, .int 0), (0, .ref h0)]) hx hb dX10_meanCost_7 rfl hl (by decide) rfl (fun ls hl => ?_)
  refine lv_iload_n hx hb dX10_meanCost_8 rfl (lv_at hl 0 rfl) ?_
  refine lv_if_ne (tgt := 23) hx hb dX10_meanCost_9 (by decide) (fun c9 => absurd (by decide +kernel) c9) (fun _ => ?_)
  obtain ⟨sa9, hstr⟩ := fxs_ hF RX10 355 "there are no canals"
  exact vx_throwSW (own := RX10) (cls := "java/lang/ArithmeticException") (names := ["java/lang/RuntimeException", "java/lang/Exception"]) hx hb hl0 hown (by decide +kernel) (by decide +kernel) (hts (.classLink RX10 353 "java/lang/ArithmeticException") (List.mem_of_getElem? (i := 1) (by decide +kernel))) (hts (.initialized "java/lang/ArithmeticException") (List.mem_of_getElem? (i := 2) (by decide +kernel))) hstr (fxw_ hts (by decide +kernel) (by decide +kernel) (fxb_ hF "java/lang/ArithmeticException")) (by decide +kernel) hF.2.2.2.2.1 hF.2.2.2.2.2.1 hS (by rw [hml]; exact hl.1) dX10_meanCost_12 dX10_meanCost_15 dX10_meanCost_16 dX10_meanCost_19 dX10_meanCost_22 (fun x9 hx9 => (htab x9 hx9).elim) (Nat.le_of_ble_eq_true rfl) (Nat.le_of_ble_eq_true rfl) (Nat.le_of_ble_eq_true rfl) (Nat.le_of_ble_eq_true rfl) hlocks (fun t9 _ hz9 hq9 => ⟨rfl, xt_ hS hz9 hq9⟩) hS.2.2 (Nat.le_of_ble_eq_true rfl) (Nat.le_of_ble_eq_true rfl)
set_option maxHeartbeats 4000000 in
set_option maxRecDepth 100000 in
theorem c_L_meanCost_0 (l : Launch) (hl0 : l.stackTraces = false) (D : va_G) (ad : Nat → Nat) (sz : Nat) (h0 : Nat) (h1 : Nat) (r0 : Nat) (v0 : Value) (v1 : Value) (v2 : Value) (v3 : Value) (v4 : Value) (v5 : Value) (v6 : Value) (v7 : Value) (v8 : Value) (v9 : Value) (v10 : Value) (v11 : Value) (v12 : Value) (v13 : Value) (v14 : Value) (v15 : Value) (v16 : Value) (v17 : Value) : Met l yL_meanCost wsL_meanCost ({ frames := 7, cells := 1, slots := 6, locals := 123 }) (PC_ D ad [(h0, .inr (13, [.ref h1, v0, v1, v2, v3, v4, v5, v6, v7, v8])), (h1, .inr (11, [v9, v10, v11, v12, v13, .int 0, v14, v15, v16, v17]))] [] sz [.ref h0, .ref r0]) (QG_ D (fun q i => some (.int 1)) (fun q i => True) (fun q k i => []) (fun q k i => []) (va_A [(h0, .inr (13, [.ref h1, v0, v1, v2, v3, v4, v5, v6, v7, v8])), (h1, .inr (11, [v9, v10, v11, v12, v13, .int 0, v14, v15, v16, v17]))] sz)) 1 6 (va_A [(h0, .inr (13, [.ref h1, v0, v1, v2, v3, v4, v5, v6, v7, v8])), (h1, .inr (11, [v9, v10, v11, v12, v13, .int 0, v14, v15, v16, v17]))] sz) := by
  refine va_MetW (cc := cL_meanCost) (maxL := 3) (ret := (some .int)) (by decide) rfl ?_
  intro p e s m args below meth c s₁ B hml hv
  obtain ⟨rfl, hsz, hP, hK, hD0, hF⟩ := hv
  have hx := B.exec
  have hb := B.bytes
  have hr := B.returns
  have hts := atoms_spec (ws := wsL_meanCost) B.pre
  have hown : s.vm.findClass RL = some m.cls := findClass_of_methodNamed B.named
  have hlocks := B.notSynchronized
  have htb := vx_table (x := yL_meanCost) B (hts _ (List.mem_cons_self))
  subst hsz
  have hD := hD0.self (sz := s.heap.size)
  generalize hAe : va_A [(h0, .inr (13, [.ref h1, v0, v1, v2, v3, v4, v5, v6, v7, v8])), (h1, .inr (11, [v9, v10, v11, v12, v13, .int 0, v14, v15, v16, v17]))] s.heap.size = A at hD hF ⊢
  have hA : ∀ q : Nat, s.heap.size ≤ q → A q := fun q h => by rw [← hAe]; exact Or.inr h
  obtain ⟨H, hHe⟩ : ∃ H : Heap, H = s.heap := ⟨_, rfl⟩
  have hS : va_S A s.heap H [] := by rw [hHe]; exact va_S.rf
  have hP : va_P D vwCl [(h0, .inr (13, [.ref h1, v0, v1, v2, v3, v4, v5, v6, v7, v8])), (h1, .inr (11, [v9, v10, v11, v12, v13, .int 0, v14, v15, v16, v17]))] H := by rw [hHe]; exact hP
  rw [← hHe]
  have hl := lv_entry [.ref h0, .ref r0] (n := 3) (Nat.le_of_ble_eq_true rfl)
  rw [lg_entry_eq]
  generalize (lg_sl [.ref h0, .ref r0] ++ List.replicate (3 - (lg_sl [.ref h0, .ref r0]).length) Slot.unset).toArray = ls at hl ⊢
  have hl : lv_has ls 3 [(0, .ref h0), (1, .ref r0)] := hl
  refine lv_aload_n hx hb dL_meanCost_0 rfl (lv_at hl 1 rfl) ?_
  refine lv_iconst (v := 0) hx hb dL_meanCost_1 (by decide) ?_
  refine lv_aload_n hx hb dL_meanCost_2 rfl (lv_at hl 0 rfl) ?_
  refine kx_ (E0 := "java/lang/ArithmeticException") (wc := [(h0, .inr (13, [.ref h1, v0, v1, v2, v3, v4, v5, v6, v7, v8])), (h1, .inr (11, [v9, v10, v11, v12, v13, .int 0, v14, v15, v16, v17]))]) (vx_runV (As := []) (rest := [.int 0, .ref r0]) ⟨hx, hb, hml, hown, hts⟩ (c_X10_meanCost_0 l hl0 D ad H.size h0 h1 (v0) (v1) (v2) (v3) (v4) (v5) (v6) (v7) (v8) (v9) (v10) (v11) (v12) (v13) (v14) (v15) (v16) (v17)) (cwV 0 hts gL_meanCost_X10_meanCost rfl rfl rfl (by decide +kernel) ⟨Nat.le_of_ble_eq_true rfl, Nat.le_of_ble_eq_true rfl⟩) ⟨PC_.blind, va_recv hK hP (ci := 13) (q0 := 0) rfl rfl, PC_.pre hF hK hP hD hS hA [0, 1] [] rfl (by decide) rfl⟩ rfl rfl hl.1 rfl (lv_room (Nat.le_of_ble_eq_true rfl)) dL_meanCost_3 ⟨Nat.le_of_ble_eq_true rfl, Nat.le_of_ble_eq_true rfl⟩) hD hS hA [0, 1] rfl (fun ce q9 H locs hS hce hvm hcl => ?_)
  refine vx_catch (own := RL) (name := "java/lang/ArithmeticException") (E := "java/lang/ArithmeticException") hown [] (⟨0, 7, 10, 115⟩ : ExceptionTableEntry) [] (htb.trans rfl) (fun z hz => by cases hz) (by decide) (by decide) (hts (.classLink RL 115 "java/lang/ArithmeticException") (List.mem_of_getElem? (i := 1) (by decide +kernel))) (fxk_ hF "java/lang/ArithmeticException" "java/lang/ArithmeticException") hce hvm hcl ?_
  have hP : va_P D vwCl [] H := fun k q h => by simp at h
  have hD : va_D A [] := ⟨fun i j p q h => by simp at h, fun k q h => by simp at h⟩
  have hK : va_K D vwCl [] s := ⟨hK.1, fun k q h => by simp at h⟩
  refine W.eq (g2 := F0 m 10 ls [.ref q9]) rfl ?_
  refine lv_astore_n (lv' := [(2, .ref q9), (0, .ref h0), (1, .ref r0)]) hx hb dL_meanCost_10 rfl hl (by decide) rfl (fun ls hl => ?_)
  refine lv_iconst (v := 1) hx hb dL_meanCost_11 (by decide) ?_
  refine W.widen (k := 1) (n := 6) (Nat.le_of_ble_eq_true rfl) (Nat.le_of_ble_eq_true rfl) ?_
  exact W.iret (v := 1) hx hb hr (QG_.mk (fun _ => 0) (fun _ => 0) (fun _ => 0) [] [] hP hD hK hS rfl trivial rfl (by decide) rfl) hS.2.2 dL_meanCost_12
set_option maxHeartbeats 4000000 in
set_option maxRecDepth 100000 in
theorem c_X11_canals_0 (l : Launch) (hl0 : l.stackTraces = false) (D : va_G) (ad : Nat → Nat) (sz : Nat) (h0 : Nat) (h1 : Nat) (k1 : ClassId) (v0 : Value) (v1 : Value) (v2 : Value) (v3 : Value) (v4 : Value) (v5 : Value) (v6 : Value) (v7 : Value) (v8 : Value) (v9 : Value) (v10 : Value) (v11 : Value) (v12 : Value) (v13 : Value) (v14 : Value) (v15 : Value) (v16 : Value) (v17 : Value) (v18 : Value) (v19 : Value) (v20 : Value) (v21 : Value) (v22 : Value) (v23 : Value) : Met l yX11_canals wsX11_canals ({ frames := 0, cells := 0, slots := 0, locals := 0 }) (PC_ D ad [(h0, .inr (14, [.ref h1, v0, v1, v2, v3, v4, v5, v6, v7, v8, v9, v10, v11, v12, v13, v14, v15, v16, v17, v18, v19, v20, v21, v22, v23])), (h1, .inl (k1, 8277, .inl (fun _ => 0)))] [(k1, .int)] sz [.ref h0, .int 0]) (QG_ D (fun q i => some (.int 0)) (fun q i => True) (fun q k i => [(h0, .inr (14, [.ref h1, v0, v1, v2, v3, v4, v5, v6, v7, v8, v9, v10, v11, v12, v13, v14, v15, v16, v17, v18, v19, v20, v21, v22, v23])), (h1, .inl (k1, 8277, .inl (fun _ => 0)))]) (fun q k i => [(k1, .int)]) (va_A [(h0, .inr (14, [.ref h1, v0, v1, v2, v3, v4, v5, v6, v7, v8, v9, v10, v11, v12, v13, v14, v15, v16, v17, v18, v19, v20, v21, v22, v23])), (h1, .inl (k1, 8277, .inl (fun _ => 0)))] sz)) 0 0 (va_A [(h0, .inr (14, [.ref h1, v0, v1, v2, v3, v4, v5, v6, v7, v8, v9, v10, v11, v12, v13, v14, v15, v16, v17, v18, v19, v20, v21, v22, v23])), (h1, .inl (k1, 8277, .inl (fun _ => 0)))] sz) := by
  refine Met.ofW (cc := cX11_canals) (maxL := 5) (ret := (some .int)) (by decide) rfl ?_
  intro p e s m args below meth c s₁ B hml hv
  obtain ⟨rfl, hsz, hP, hK, hD0, hF⟩ := hv
  have hx := B.exec
  have hb := B.bytes
  have hr := B.returns
  have hts := atoms_spec (ws := wsX11_canals) B.pre
  have hown : s.vm.findClass RX11 = some m.cls := findClass_of_methodNamed B.named
  have hlocks := B.notSynchronized
  subst hsz
  have hD := hD0.self (sz := s.heap.size)
  generalize hAe : va_A [(h0, .inr (14, [.ref h1, v0, v1, v2, v3, v4, v5, v6, v7, v8, v9, v10, v11, v12, v13, v14, v15, v16, v17, v18, v19, v20, v21, v22, v23])), (h1, .inl (k1, 8277, .inl (fun _ => 0)))] s.heap.size = A at hD hF ⊢
  have hA : ∀ q : Nat, s.heap.size ≤ q → A q := fun q h => by rw [← hAe]; exact Or.inr h
  obtain ⟨H, hHe⟩ : ∃ H : Heap, H = s.heap := ⟨_, rfl⟩
  have hS : va_S A s.heap H [] := by rw [hHe]; exact va_S.rf
  have hP : va_P D vwCl [(h0, .inr (14, [.ref h1, v0, v1, v2, v3, v4, v5, v6, v7, v8, v9, v10, v11, v12, v13, v14, v15, v16, v17, v18, v19, v20, v21, v22, v23])), (h1, .inl (k1, 8277, .inl (fun _ => 0)))] H := by rw [hHe]; exact hP
  rw [← hHe]
  have hi_X11 : ∀ w ∈ wsX110, w ∈ wsX11_canals := by decide +kernel
  have hl := lv_entry [.ref h0, .int 0] (n := 5) (Nat.le_of_ble_eq_true rfl)
  rw [lg_entry_eq]
  generalize (lg_sl [.ref h0, .int 0] ++ List.replicate (5 - (lg_sl [.ref h0, .int 0]).length) Slot.unset).toArray = ls at hl ⊢
  have hl : lv_has ls 5 [(0, .ref h0), (1, .int 0)] := hl
  refine lv_iconst (v := 0) hx hb dX11_canals_0 (by decide) ?_
  refine lv_istore_n (lv' := [(2, .int 0), (0, .ref h0), (1, .int 0)]) hx hb dX11_canals_1 rfl hl (by decide) rfl (fun ls hl => ?_)
  refine lv_iconst (v := 0) hx hb dX11_canals_2 (by decide) ?_
  refine lv_istore_n (lv' := [(3, .int 0), (2, .int 0), (0, .ref h0), (1, .int 0)]) hx hb dX11_canals_3 rfl hl (by decide) rfl (fun ls hl => ?_)
  refine lv_iload_n hx hb dX11_canals_4 rfl (lv_at hl 0 rfl) ?_
  refine lv_aload_n hx hb dX11_canals_5 rfl (lv_at hl 2 rfl) ?_
  refine va_get (D := D) (ci := 14) (v := .ref h1) (own := RX11) (C := RX11) (T := TX11) (N := 25) hx hb hts hi_X11 hown hK hP 0 rfl rfl 0 (by decide) (hts (.fieldLink RX11 9 "CanalMapsModel" "now" "[I") (List.mem_of_getElem? (i := 1) (by decide +kernel))) (fun _ h9 => h9) rfl dX11_canals_6 ?_
  refine lv_iconst (v := 0) hx hb dX11_canals_9 (by decide) ?_
  refine va_iald hx hb hK hP 1 0 rfl rfl (vin_ (by decide +kernel)) dX11_canals_10 ?_
  refine kt_ (v := 0) (by decide +kernel) ?_
  refine lv_icmp_ge (tgt := 74) hx hb dX11_canals_11 (by decide) (fun _ => ?_) (fun c9 => absurd (by decide +kernel) c9)
  refine lv_iload_n hx hb dX11_canals_74 rfl (lv_at hl 1 rfl) ?_
  refine W.widen (k := 0) (n := 0) (Nat.le_of_ble_eq_true rfl) (Nat.le_of_ble_eq_true rfl) ?_
  exact W.iret (v := 0) hx hb hr (QG_.mk (fun _ => 0) (fun _ => 0) (fun _ => 0) [0, 1] [0] hP hD hK hS rfl trivial rfl (by decide) rfl) hS.2.2 dX11_canals_75
set_option maxHeartbeats 4000000 in
set_option maxRecDepth 100000 in
theorem c_X11_meanCost_0 (l : Launch) (hl0 : l.stackTraces = false) (D : va_G) (ad : Nat → Nat) (sz : Nat) (h0 : Nat) (h1 : Nat) (k1 : ClassId) (v0 : Value) (v1 : Value) (v2 : Value) (v3 : Value) (v4 : Value) (v5 : Value) (v6 : Value) (v7 : Value) (v8 : Value) (v9 : Value) (v10 : Value) (v11 : Value) (v12 : Value) (v13 : Value) (v14 : Value) (v15 : Value) (v16 : Value) (v17 : Value) (v18 : Value) (v19 : Value) (v20 : Value) (v21 : Value) (v22 : Value) (v23 : Value) : Met l yX11_meanCost wsX11_meanCost ({ frames := 1, cells := 0, slots := 0, locals := 26 }) (PC_ D ad [(h0, .inr (14, [.ref h1, v0, v1, v2, v3, v4, v5, v6, v7, v8, v9, v10, v11, v12, v13, v14, v15, v16, v17, v18, v19, v20, v21, v22, v23])), (h1, .inl (k1, 8277, .inl (fun _ => 0)))] [(k1, .int)] sz [.ref h0]) (QG_ D (fun q i => some (.double (FP.i2d 0))) (fun q i => True) (fun q k i => [(h0, .inr (14, [.ref h1, v0, v1, v2, v3, v4, v5, v6, v7, v8, v9, v10, v11, v12, v13, v14, v15, v16, v17, v18, v19, v20, v21, .int 1, v23])), (h1, .inl (k1, 8277, .inl (fun _ => 0)))]) (fun q k i => [(k1, .int)]) (va_A [(h0, .inr (14, [.ref h1, v0, v1, v2, v3, v4, v5, v6, v7, v8, v9, v10, v11, v12, v13, v14, v15, v16, v17, v18, v19, v20, v21, v22, v23])), (h1, .inl (k1, 8277, .inl (fun _ => 0)))] sz)) 0 0 (va_A [(h0, .inr (14, [.ref h1, v0, v1, v2, v3, v4, v5, v6, v7, v8, v9, v10, v11, v12, v13, v14, v15, v16, v17, v18, v19, v20, v21, v22, v23])), (h1, .inl (k1, 8277, .inl (fun _ => 0)))] sz) := by
  refine Met.ofW (cc := cX11_meanCost) (maxL := 1) (ret := (some .double)) (by decide) rfl ?_
  intro p e s m args below meth c s₁ B hml hv
  obtain ⟨rfl, hsz, hP, hK, hD0, hF⟩ := hv
  have hx := B.exec
  have hb := B.bytes
  have hr := B.returns
  have hts := atoms_spec (ws := wsX11_meanCost) B.pre
  have hown : s.vm.findClass RX11 = some m.cls := findClass_of_methodNamed B.named
  have hlocks := B.notSynchronized
  subst hsz
  have hD := hD0.self (sz := s.heap.size)
  generalize hAe : va_A [(h0, .inr (14, [.ref h1, v0, v1, v2, v3, v4, v5, v6, v7, v8, v9, v10, v11, v12, v13, v14, v15, v16, v17, v18, v19, v20, v21, v22, v23])), (h1, .inl (k1, 8277, .inl (fun _ => 0)))] s.heap.size = A at hD hF ⊢
  have hA : ∀ q : Nat, s.heap.size ≤ q → A q := fun q h => by rw [← hAe]; exact Or.inr h
  obtain ⟨H, hHe⟩ : ∃ H : Heap, H = s.heap := ⟨_, rfl⟩
  have hS : va_S A s.heap H [] := by rw [hHe]; exact va_S.rf
  have hP : va_P D vwCl [(h0, .inr (14, [.ref h1, v0, v1, v2, v3, v4, v5, v6, v7, v8, v9, v10, v11, v12, v13, v14, v15, v16, v17, v18, v19, v20, v21, v22, v23])), (h1, .inl (k1, 8277, .inl (fun _ => 0)))] H := by rw [hHe]; exact hP
  rw [← hHe]
  have hi_X11 : ∀ w ∈ wsX110, w ∈ wsX11_meanCost := by decide +kernel
  have hl := lv_entry [.ref h0] (n := 1) (Nat.le_of_ble_eq_true rfl)
  rw [lg_entry_eq]
  generalize (lg_sl [.ref h0] ++ List.replicate (1 - (lg_sl [.ref h0]).length) Slot.unset).toArray = ls at hl ⊢
  have hl : lv_has ls 1 [(0, .ref h0)] := hl
  refine lv_aload_n hx hb dX11_meanCost_0 rfl (lv_at hl 0 rfl) ?_
  refine lv_iconst (v := 0) hx hb dX11_meanCost_1 (by decide) ?_
  refine va_put (D := D) (ci := 14) (v := .int 0) (ty := .int) (own := RX11) (C := RX11) (T := TX11) (N := 25) hx hb hts hi_X11 tyX11 tyX11_ok nmX11 hown hK hP hD hS 0 rfl rfl 23 (by decide) (hts (.fieldLink RX11 47 "CanalMapsModel" "thrown" "I") (List.mem_of_getElem? (i := 1) (by decide +kernel))) (fun _ h9 => h9) rfl (by decide +kernel) rfl rfl (Nat.le_of_ble_eq_true rfl) dX11_meanCost_2 (fun H locs hP hD hS => ?_)
  have hP : va_P D vwCl [(h0, .inr (14, [.ref h1, v0, v1, v2, v3, v4, v5, v6, v7, v8, v9, v10, v11, v12, v13, v14, v15, v16, v17, v18, v19, v20, v21, .int 0, v23])), (h1, .inl (k1, 8277, .inl (fun _ => 0)))] H := hP
  have hD : va_D A [(h0, .inr (14, [.ref h1, v0, v1, v2, v3, v4, v5, v6, v7, v8, v9, v10, v11, v12, v13, v14, v15, v16, v17, v18, v19, v20, v21, .int 0, v23])), (h1, .inl (k1, 8277, .inl (fun _ => 0)))] := hD
  refine lv_aload_n hx hb dX11_meanCost_5 rfl (lv_at hl 0 rfl) ?_
  refine lv_iconst (v := 0) hx hb dX11_meanCost_6 (by decide) ?_
  refine kc_ (wc := [(h0, .inr (14, [.ref h1, v0, v1, v2, v3, v4, v5, v6, v7, v8, v9, v10, v11, v12, v13, v14, v15, v16, v17, v18, v19, v20, v21, .int 0, v23])), (h1, .inl (k1, 8277, .inl (fun _ => 0)))]) (wr := []) (va_runV (As := [.int 0]) (rest := []) ⟨hx, hb, hml, hown, hts⟩ (c_X11_canals_0 l hl0 D ad H.size h0 h1 k1 (v0) (v1) (v2) (v3) (v4) (v5) (v6) (v7) (v8) (v9) (v10) (v11) (v12) (v13) (v14) (v15) (v16) (v17) (v18) (v19) (v20) (v21) (.int 0) (v23)) (cwV 1 hts gX11_meanCost_X11_canals rfl rfl rfl (by decide +kernel) ⟨Nat.le_of_ble_eq_true rfl, Nat.le_of_ble_eq_true rfl⟩) ⟨PC_.blind, va_recv hK hP (ci := 14) (q0 := 0) rfl rfl, PC_.pre hF hK hP hD hS hA [0, 1] [0] rfl (by decide) rfl⟩ rfl rfl hl.1 rfl (lv_room (Nat.le_of_ble_eq_true rfl)) dX11_meanCost_7 ⟨Nat.le_of_ble_eq_true rfl, Nat.le_of_ble_eq_true rfl⟩) hK hP hD hS hA [0, 1] [] [] rfl rfl (by decide) (by decide) rfl (fun qa_1 ka_1 ia_1 H locs hpo hP hD hK hS => ?_)
  have hP : va_P D vwCl [(h0, .inr (14, [.ref h1, v0, v1, v2, v3, v4, v5, v6, v7, v8, v9, v10, v11, v12, v13, v14, v15, v16, v17, v18, v19, v20, v21, .int 0, v23])), (h1, .inl (k1, 8277, .inl (fun _ => 0)))] H := hP
  have hD : va_D A [(h0, .inr (14, [.ref h1, v0, v1, v2, v3, v4, v5, v6, v7, v8, v9, v10, v11, v12, v13, v14, v15, v16, v17, v18, v19, v20, v21, .int 0, v23])), (h1, .inl (k1, 8277, .inl (fun _ => 0)))] := hD
  have hK : va_K D vwCl [(k1, .int)] s := hK
  refine W.eq (g2 := F0 m 10 ls [.int 0]) rfl ?_
  refine lv_if_ne (tgt := 22) hx hb dX11_meanCost_10 (by decide) (fun c9 => absurd (by decide +kernel) c9) (fun _ => ?_)
  refine lv_aload_n hx hb dX11_meanCost_13 rfl (lv_at hl 0 rfl) ?_
  refine lv_iconst (v := 1) hx hb dX11_meanCost_14 (by decide) ?_
  refine kc_ (wc := [(h0, .inr (14, [.ref h1, v0, v1, v2, v3, v4, v5, v6, v7, v8, v9, v10, v11, v12, v13, v14, v15, v16, v17, v18, v19, v20, v21, .int 0, v23]))]) (wr := [(h1, .inl (k1, 8277, .inl (fun _ => 0)))]) (va_runV (As := [.int 1]) (rest := []) ⟨hx, hb, hml, hown, hts⟩ (c_X11_raises_0 l hl0 D ad H.size h0 (.ref h1) (v0) (v1) (v2) (v3) (v4) (v5) (v6) (v7) (v8) (v9) (v10) (v11) (v12) (v13) (v14) (v15) (v16) (v17) (v18) (v19) (v20) (v21) (.int 0) (v23)) (cwV 1 hts gX11_meanCost_X11_raises rfl rfl rfl (by decide +kernel) ⟨Nat.le_of_ble_eq_true rfl, Nat.le_of_ble_eq_true rfl⟩) ⟨PC_.blind, va_recv hK hP (ci := 14) (q0 := 0) rfl rfl, PC_.pre hF hK hP hD hS hA [0] [] rfl (by decide) rfl⟩ rfl rfl hl.1 rfl (lv_room (Nat.le_of_ble_eq_true rfl)) dX11_meanCost_15 ⟨Nat.le_of_ble_eq_true rfl, Nat.le_of_ble_eq_true rfl⟩) hK hP hD hS hA [0] [1] [0] rfl rfl (by decide) (by decide) rfl (fun qa_2 ka_2 ia_2 H locs hpo hP hD hK hS => ?_)
  have hP : va_P D vwCl [(h1, .inl (k1, 8277, .inl (fun _ => 0))), (h0, .inr (14, [.ref h1, v0, v1, v2, v3, v4, v5, v6, v7, v8, v9, v10, v11, v12, v13, v14, v15, v16, v17, v18, v19, v20, v21, .int 1, v23]))] H := hP
  have hD : va_D A [(h1, .inl (k1, 8277, .inl (fun _ => 0))), (h0, .inr (14, [.ref h1, v0, v1, v2, v3, v4, v5, v6, v7, v8, v9, v10, v11, v12, v13, v14, v15, v16, v17, v18, v19, v20, v21, .int 1, v23]))] := hD
  have hK : va_K D vwCl [(k1, .int)] s := hK
  refine W.eq (g2 := F0 m 18 ls [.int 0]) rfl ?_
  refine lv_i2d hx hb dX11_meanCost_18 ?_
  refine lv_goto (tgt := 35) hx hb dX11_meanCost_19 (by decide) ?_
  refine W.widen (k := 0) (n := 0) (Nat.le_of_ble_eq_true rfl) (Nat.le_of_ble_eq_true rfl) ?_
  exact W.dret (v := (FP.i2d 0)) hx hb hr (QG_.mk (fun _ => 0) (fun _ => 0) (fun _ => 0) [1, 0] [0] hP hD hK hS rfl trivial rfl (by decide) rfl) hS.2.2 dX11_meanCost_35
set_option maxHeartbeats 4000000 in
set_option maxRecDepth 100000 in
theorem c_X10_lostShare_0 (l : Launch) (hl0 : l.stackTraces = false) (D : va_G) (ad : Nat → Nat) (sz : Nat) (h0 : Nat) (h1 : Nat) (h2 : Nat) (v0 : Value) (v1 : Value) (v2 : Value) (v3 : Value) (v4 : Value) (v5 : Value) (v6 : Value) (v7 : Value) (v8 : Value) (v9 : Value) (v10 : Value) (v11 : Value) (v12 : Value) (v13 : Value) (v14 : Value) (v15 : Value) (v16 : Value) (v17 : Value) (v18 : Value) (v19 : Value) : vx_Met l yX10_lostShare wsX10_lostShare ({ frames := 6, cells := 1, slots := 6, locals := 100 }) (PC_ D ad [(h0, .inr (13, [.ref h1, v0, v1, v2, v3, v4, v5, v6, v7, v8])), (h1, .inr (11, [v9, v10, v11, v12, .ref h2, v13, v14, v15, v16, v17])), (h2, .inr (8, [v18, v19, .int 0]))] [] sz [.ref h0]) QN_ (XT_ "java/lang/ArithmeticException" (va_A [(h0, .inr (13, [.ref h1, v0, v1, v2, v3, v4, v5, v6, v7, v8])), (h1, .inr (11, [v9, v10, v11, v12, .ref h2, v13, v14, v15, v16, v17])), (h2, .inr (8, [v18, v19, .int 0]))] sz)) 1 6 (va_A [(h0, .inr (13, [.ref h1, v0, v1, v2, v3, v4, v5, v6, v7, v8])), (h1, .inr (11, [v9, v10, v11, v12, .ref h2, v13, v14, v15, v16, v17])), (h2, .inr (8, [v18, v19, .int 0]))] sz) := by
  refine vx_ofW (cc := cX10_lostShare) (maxL := 1) (ret := (some .float)) (by decide) rfl ?_
  intro p e s m args below meth c s₁ B hml htab hv
  obtain ⟨rfl, hsz, hP, hK, hD0, hF⟩ := hv
  have hx := B.exec
  have hb := B.bytes
  have hr := B.returns
  have hts := atoms_spec (ws := wsX10_lostShare) B.pre
  have hown : s.vm.findClass RX10 = some m.cls := findClass_of_methodNamed B.named
  have hlocks := B.notSynchronized
  subst hsz
  have hD := hD0.self (sz := s.heap.size)
  generalize hAe : va_A [(h0, .inr (13, [.ref h1, v0, v1, v2, v3, v4, v5, v6, v7, v8])), (h1, .inr (11, [v9, v10, v11, v12, .ref h2, v13, v14, v15, v16, v17])), (h2, .inr (8, [v18, v19, .int 0]))] s.heap.size = A at hD hF ⊢
  have hA : ∀ q : Nat, s.heap.size ≤ q → A q := fun q h => by rw [← hAe]; exact Or.inr h
  obtain ⟨H, hHe⟩ : ∃ H : Heap, H = s.heap := ⟨_, rfl⟩
  have hS : va_S A s.heap H [] := by rw [hHe]; exact va_S.rf
  have hP : va_P D vwCl [(h0, .inr (13, [.ref h1, v0, v1, v2, v3, v4, v5, v6, v7, v8])), (h1, .inr (11, [v9, v10, v11, v12, .ref h2, v13, v14, v15, v16, v17])), (h2, .inr (8, [v18, v19, .int 0]))] H := by rw [hHe]; exact hP
  rw [← hHe]
  have hi_X10 : ∀ w ∈ wsX100, w ∈ wsX10_lostShare := by decide +kernel
  have hi_X5 : ∀ w ∈ wsX50, w ∈ wsX10_lostShare := by decide +kernel
  have hi_X8 : ∀ w ∈ wsX80, w ∈ wsX10_lostShare := by decide +kernel
  have hl := lv_entry [.ref h0] (n := 1) (Nat.le_of_ble_eq_true rfl)
  rw [lg_entry_eq]
  generalize (lg_sl [.ref h0] ++ List.replicate (1 - (lg_sl [.ref h0]).length) Slot.unset).toArray = ls at hl ⊢
  have hl : lv_has ls 1 [(0, .ref h0)] := hl
  refine lv_aload_n hx hb dX10_lostShare_0 rfl (lv_at hl 0 rfl) ?_
  refine va_get (D := D) (ci := 13) (v := .ref h1) (own := RX10) (C := RX10) (T := TX10) (N := 10) hx hb hts hi_X10 hown hK hP 0 rfl rfl 0 (by decide) (hts (.fieldLink RX10 50 "CanalMaps" "now" "LCanalMaps$Survey;") (List.mem_of_getElem? (i := 3) (by decide +kernel))) (fun _ h9 => h9) rfl dX10_lostShare_1 ?_
  refine va_getN (D := D) (ci := 11) (v := .ref h2) (own := RX10) (C := RX8) (T := TX8) (N := 10) hx hb hts hi_X8 hown hK hP 1 rfl rfl 4 (by decide) (fxn_ hF (RX10, 140, "CanalMaps$Survey", "letters", "LCanalMaps$Letters;")) (fun _ h9 => h9) rfl dX10_lostShare_4 ?_
  refine va_getN (D := D) (ci := 8) (v := .int 0) (own := RX10) (C := RX5) (T := TX5) (N := 3) hx hb hts hi_X5 hown hK hP 2 rfl rfl 2 (by decide) (fxn_ hF (RX10, 361, "CanalMaps$Letters", "sent", "I")) (fun _ h9 => h9) rfl dX10_lostShare_7 ?_
  refine lv_if_ne (tgt := 24) hx hb dX10_lostShare_10 (by decide) (fun c9 => absurd (by decide +kernel) c9) (fun _ => ?_)
  obtain ⟨sa9, hstr⟩ := fxs_ hF RX10 364 "no letter was sent"
  exact vx_throwSW (own := RX10) (cls := "java/lang/ArithmeticException") (names := ["java/lang/RuntimeException", "java/lang/Exception"]) hx hb hl0 hown (by decide +kernel) (by decide +kernel) (hts (.classLink RX10 353 "java/lang/ArithmeticException") (List.mem_of_getElem? (i := 1) (by decide +kernel))) (hts (.initialized "java/lang/ArithmeticException") (List.mem_of_getElem? (i := 2) (by decide +kernel))) hstr (fxw_ hts (by decide +kernel) (by decide +kernel) (fxb_ hF "java/lang/ArithmeticException")) (by decide +kernel) hF.2.2.2.2.1 hF.2.2.2.2.2.1 hS (by rw [hml]; exact hl.1) dX10_lostShare_13 dX10_lostShare_16 dX10_lostShare_17 dX10_lostShare_20 dX10_lostShare_23 (fun x9 hx9 => (htab x9 hx9).elim) (Nat.le_of_ble_eq_true rfl) (Nat.le_of_ble_eq_true rfl) (Nat.le_of_ble_eq_true rfl) (Nat.le_of_ble_eq_true rfl) hlocks (fun t9 _ hz9 hq9 => ⟨rfl, xt_ hS hz9 hq9⟩) hS.2.2 (Nat.le_of_ble_eq_true rfl) (Nat.le_of_ble_eq_true rfl)
set_option maxHeartbeats 4000000 in
set_option maxRecDepth 100000 in
theorem c_L_lostShare_0 (l : Launch) (hl0 : l.stackTraces = false) (D : va_G) (ad : Nat → Nat) (sz : Nat) (h0 : Nat) (h1 : Nat) (h2 : Nat) (r0 : Nat) (v0 : Value) (v1 : Value) (v2 : Value) (v3 : Value) (v4 : Value) (v5 : Value) (v6 : Value) (v7 : Value) (v8 : Value) (v9 : Value) (v10 : Value) (v11 : Value) (v12 : Value) (v13 : Value) (v14 : Value) (v15 : Value) (v16 : Value) (v17 : Value) (v18 : Value) (v19 : Value) : Met l yL_lostShare wsL_lostShare ({ frames := 7, cells := 1, slots := 6, locals := 122 }) (PC_ D ad [(h0, .inr (13, [.ref h1, v0, v1, v2, v3, v4, v5, v6, v7, v8])), (h1, .inr (11, [v9, v10, v11, v12, .ref h2, v13, v14, v15, v16, v17])), (h2, .inr (8, [v18, v19, .int 0]))] [] sz [.ref h0, .ref r0]) (QG_ D (fun q i => some (.int 1)) (fun q i => True) (fun q k i => []) (fun q k i => []) (va_A [(h0, .inr (13, [.ref h1, v0, v1, v2, v3, v4, v5, v6, v7, v8])), (h1, .inr (11, [v9, v10, v11, v12, .ref h2, v13, v14, v15, v16, v17])), (h2, .inr (8, [v18, v19, .int 0]))] sz)) 1 6 (va_A [(h0, .inr (13, [.ref h1, v0, v1, v2, v3, v4, v5, v6, v7, v8])), (h1, .inr (11, [v9, v10, v11, v12, .ref h2, v13, v14, v15, v16, v17])), (h2, .inr (8, [v18, v19, .int 0]))] sz) := by
  refine va_MetW (cc := cL_lostShare) (maxL := 3) (ret := (some .int)) (by decide) rfl ?_
  intro p e s m args below meth c s₁ B hml hv
  obtain ⟨rfl, hsz, hP, hK, hD0, hF⟩ := hv
  have hx := B.exec
  have hb := B.bytes
  have hr := B.returns
  have hts := atoms_spec (ws := wsL_lostShare) B.pre
  have hown : s.vm.findClass RL = some m.cls := findClass_of_methodNamed B.named
  have hlocks := B.notSynchronized
  have htb := vx_table (x := yL_lostShare) B (hts _ (List.mem_cons_self))
  subst hsz
  have hD := hD0.self (sz := s.heap.size)
  generalize hAe : va_A [(h0, .inr (13, [.ref h1, v0, v1, v2, v3, v4, v5, v6, v7, v8])), (h1, .inr (11, [v9, v10, v11, v12, .ref h2, v13, v14, v15, v16, v17])), (h2, .inr (8, [v18, v19, .int 0]))] s.heap.size = A at hD hF ⊢
  have hA : ∀ q : Nat, s.heap.size ≤ q → A q := fun q h => by rw [← hAe]; exact Or.inr h
  obtain ⟨H, hHe⟩ : ∃ H : Heap, H = s.heap := ⟨_, rfl⟩
  have hS : va_S A s.heap H [] := by rw [hHe]; exact va_S.rf
  have hP : va_P D vwCl [(h0, .inr (13, [.ref h1, v0, v1, v2, v3, v4, v5, v6, v7, v8])), (h1, .inr (11, [v9, v10, v11, v12, .ref h2, v13, v14, v15, v16, v17])), (h2, .inr (8, [v18, v19, .int 0]))] H := by rw [hHe]; exact hP
  rw [← hHe]
  have hl := lv_entry [.ref h0, .ref r0] (n := 3) (Nat.le_of_ble_eq_true rfl)
  rw [lg_entry_eq]
  generalize (lg_sl [.ref h0, .ref r0] ++ List.replicate (3 - (lg_sl [.ref h0, .ref r0]).length) Slot.unset).toArray = ls at hl ⊢
  have hl : lv_has ls 3 [(0, .ref h0), (1, .ref r0)] := hl
  refine lv_aload_n hx hb dL_lostShare_0 rfl (lv_at hl 1 rfl) ?_
  refine lv_iconst (v := 0) hx hb dL_lostShare_1 (by decide) ?_
  refine lv_aload_n hx hb dL_lostShare_2 rfl (lv_at hl 0 rfl) ?_
  refine kx_ (E0 := "java/lang/ArithmeticException") (wc := [(h0, .inr (13, [.ref h1, v0, v1, v2, v3, v4, v5, v6, v7, v8])), (h1, .inr (11, [v9, v10, v11, v12, .ref h2, v13, v14, v15, v16, v17])), (h2, .inr (8, [v18, v19, .int 0]))]) (vx_runV (As := []) (rest := [.int 0, .ref r0]) ⟨hx, hb, hml, hown, hts⟩ (c_X10_lostShare_0 l hl0 D ad H.size h0 h1 h2 (v0) (v1) (v2) (v3) (v4) (v5) (v6) (v7) (v8) (v9) (v10) (v11) (v12) (v13) (v14) (v15) (v16) (v17) (v18) (v19)) (cwV 0 hts gL_lostShare_X10_lostShare rfl rfl rfl (by decide +kernel) ⟨Nat.le_of_ble_eq_true rfl, Nat.le_of_ble_eq_true rfl⟩) ⟨PC_.blind, va_recv hK hP (ci := 13) (q0 := 0) rfl rfl, PC_.pre hF hK hP hD hS hA [0, 1, 2] [] rfl (by decide) rfl⟩ rfl rfl hl.1 rfl (lv_room (Nat.le_of_ble_eq_true rfl)) dL_lostShare_3 ⟨Nat.le_of_ble_eq_true rfl, Nat.le_of_ble_eq_true rfl⟩) hD hS hA [0, 1, 2] rfl (fun ce q9 H locs hS hce hvm hcl => ?_)
  refine vx_catch (own := RL) (name := "java/lang/ArithmeticException") (E := "java/lang/ArithmeticException") hown [] (⟨0, 8, 11, 115⟩ : ExceptionTableEntry) [] (htb.trans rfl) (fun z hz => by cases hz) (by decide) (by decide) (hts (.classLink RL 115 "java/lang/ArithmeticException") (List.mem_of_getElem? (i := 1) (by decide +kernel))) (fxk_ hF "java/lang/ArithmeticException" "java/lang/ArithmeticException") hce hvm hcl ?_
  have hP : va_P D vwCl [] H := fun k q h => by simp at h
  have hD : va_D A [] := ⟨fun i j p q h => by simp at h, fun k q h => by simp at h⟩
  have hK : va_K D vwCl [] s := ⟨hK.1, fun k q h => by simp at h⟩
  refine W.eq (g2 := F0 m 11 ls [.ref q9]) rfl ?_
  refine lv_astore_n (lv' := [(2, .ref q9), (0, .ref h0), (1, .ref r0)]) hx hb dL_lostShare_11 rfl hl (by decide) rfl (fun ls hl => ?_)
  refine lv_iconst (v := 1) hx hb dL_lostShare_12 (by decide) ?_
  refine W.widen (k := 1) (n := 6) (Nat.le_of_ble_eq_true rfl) (Nat.le_of_ble_eq_true rfl) ?_
  exact W.iret (v := 1) hx hb hr (QG_.mk (fun _ => 0) (fun _ => 0) (fun _ => 0) [] [] hP hD hK hS rfl trivial rfl (by decide) rfl) hS.2.2 dL_lostShare_13
set_option maxHeartbeats 4000000 in
set_option maxRecDepth 100000 in
theorem c_X11_lostShare_0 (l : Launch) (hl0 : l.stackTraces = false) (D : va_G) (ad : Nat → Nat) (sz : Nat) (h0 : Nat) (h1 : Nat) (k1 : ClassId) (v0 : Value) (v1 : Value) (v2 : Value) (v3 : Value) (v4 : Value) (v5 : Value) (v6 : Value) (v7 : Value) (v8 : Value) (v9 : Value) (v10 : Value) (v11 : Value) (v12 : Value) (v13 : Value) (v14 : Value) (v15 : Value) (v16 : Value) (v17 : Value) (v18 : Value) (v19 : Value) (v20 : Value) (v21 : Value) (v22 : Value) (v23 : Value) : Met l yX11_lostShare wsX11_lostShare ({ frames := 1, cells := 0, slots := 0, locals := 23 }) (PC_ D ad [(h0, .inr (14, [.ref h1, v0, v1, v2, v3, v4, v5, v6, v7, v8, v9, v10, v11, v12, v13, v14, v15, v16, v17, v18, v19, v20, v21, v22, v23])), (h1, .inl (k1, 8277, .inl (fun _ => 0)))] [(k1, .int)] sz [.ref h0]) (QG_ D (fun q i => some (.float (FP.i2f 0))) (fun q i => True) (fun q k i => [(h0, .inr (14, [.ref h1, v0, v1, v2, v3, v4, v5, v6, v7, v8, v9, v10, v11, v12, v13, v14, v15, v16, v17, v18, v19, v20, v21, .int 1, v23])), (h1, .inl (k1, 8277, .inl (fun _ => 0)))]) (fun q k i => [(k1, .int)]) (va_A [(h0, .inr (14, [.ref h1, v0, v1, v2, v3, v4, v5, v6, v7, v8, v9, v10, v11, v12, v13, v14, v15, v16, v17, v18, v19, v20, v21, v22, v23])), (h1, .inl (k1, 8277, .inl (fun _ => 0)))] sz)) 0 0 (va_A [(h0, .inr (14, [.ref h1, v0, v1, v2, v3, v4, v5, v6, v7, v8, v9, v10, v11, v12, v13, v14, v15, v16, v17, v18, v19, v20, v21, v22, v23])), (h1, .inl (k1, 8277, .inl (fun _ => 0)))] sz) := by
  refine Met.ofW (cc := cX11_lostShare) (maxL := 1) (ret := (some .float)) (by decide) rfl ?_
  intro p e s m args below meth c s₁ B hml hv
  obtain ⟨rfl, hsz, hP, hK, hD0, hF⟩ := hv
  have hx := B.exec
  have hb := B.bytes
  have hr := B.returns
  have hts := atoms_spec (ws := wsX11_lostShare) B.pre
  have hown : s.vm.findClass RX11 = some m.cls := findClass_of_methodNamed B.named
  have hlocks := B.notSynchronized
  subst hsz
  have hD := hD0.self (sz := s.heap.size)
  generalize hAe : va_A [(h0, .inr (14, [.ref h1, v0, v1, v2, v3, v4, v5, v6, v7, v8, v9, v10, v11, v12, v13, v14, v15, v16, v17, v18, v19, v20, v21, v22, v23])), (h1, .inl (k1, 8277, .inl (fun _ => 0)))] s.heap.size = A at hD hF ⊢
  have hA : ∀ q : Nat, s.heap.size ≤ q → A q := fun q h => by rw [← hAe]; exact Or.inr h
  obtain ⟨H, hHe⟩ : ∃ H : Heap, H = s.heap := ⟨_, rfl⟩
  have hS : va_S A s.heap H [] := by rw [hHe]; exact va_S.rf
  have hP : va_P D vwCl [(h0, .inr (14, [.ref h1, v0, v1, v2, v3, v4, v5, v6, v7, v8, v9, v10, v11, v12, v13, v14, v15, v16, v17, v18, v19, v20, v21, v22, v23])), (h1, .inl (k1, 8277, .inl (fun _ => 0)))] H := by rw [hHe]; exact hP
  rw [← hHe]
  have hi_X11 : ∀ w ∈ wsX110, w ∈ wsX11_lostShare := by decide +kernel
  have hl := lv_entry [.ref h0] (n := 1) (Nat.le_of_ble_eq_true rfl)
  rw [lg_entry_eq]
  generalize (lg_sl [.ref h0] ++ List.replicate (1 - (lg_sl [.ref h0]).length) Slot.unset).toArray = ls at hl ⊢
  have hl : lv_has ls 1 [(0, .ref h0)] := hl
  refine lv_aload_n hx hb dX11_lostShare_0 rfl (lv_at hl 0 rfl) ?_
  refine lv_iconst (v := 0) hx hb dX11_lostShare_1 (by decide) ?_
  refine va_put (D := D) (ci := 14) (v := .int 0) (ty := .int) (own := RX11) (C := RX11) (T := TX11) (N := 25) hx hb hts hi_X11 tyX11 tyX11_ok nmX11 hown hK hP hD hS 0 rfl rfl 23 (by decide) (hts (.fieldLink RX11 47 "CanalMapsModel" "thrown" "I") (List.mem_of_getElem? (i := 1) (by decide +kernel))) (fun _ h9 => h9) rfl (by decide +kernel) rfl rfl (Nat.le_of_ble_eq_true rfl) dX11_lostShare_2 (fun H locs hP hD hS => ?_)
  have hP : va_P D vwCl [(h0, .inr (14, [.ref h1, v0, v1, v2, v3, v4, v5, v6, v7, v8, v9, v10, v11, v12, v13, v14, v15, v16, v17, v18, v19, v20, v21, .int 0, v23])), (h1, .inl (k1, 8277, .inl (fun _ => 0)))] H := hP
  have hD : va_D A [(h0, .inr (14, [.ref h1, v0, v1, v2, v3, v4, v5, v6, v7, v8, v9, v10, v11, v12, v13, v14, v15, v16, v17, v18, v19, v20, v21, .int 0, v23])), (h1, .inl (k1, 8277, .inl (fun _ => 0)))] := hD
  refine lv_aload_n hx hb dX11_lostShare_5 rfl (lv_at hl 0 rfl) ?_
  refine va_get (D := D) (ci := 14) (v := .ref h1) (own := RX11) (C := RX11) (T := TX11) (N := 25) hx hb hts hi_X11 hown hK hP 0 rfl rfl 0 (by decide) (hts (.fieldLink RX11 9 "CanalMapsModel" "now" "[I") (List.mem_of_getElem? (i := 2) (by decide +kernel))) (fun _ h9 => h9) rfl dX11_lostShare_6 ?_
  refine lv_iconst (v := 2) hx hb dX11_lostShare_9 (by decide) ?_
  refine va_iald hx hb hK hP 1 0 rfl rfl (vin_ (by decide +kernel)) dX11_lostShare_10 ?_
  refine kt_ (v := 0) (by decide +kernel) ?_
  refine lv_if_ne (tgt := 23) hx hb dX11_lostShare_11 (by decide) (fun c9 => absurd (by decide +kernel) c9) (fun _ => ?_)
  refine lv_aload_n hx hb dX11_lostShare_14 rfl (lv_at hl 0 rfl) ?_
  refine lv_iconst (v := 1) hx hb dX11_lostShare_15 (by decide) ?_
  refine kc_ (wc := [(h0, .inr (14, [.ref h1, v0, v1, v2, v3, v4, v5, v6, v7, v8, v9, v10, v11, v12, v13, v14, v15, v16, v17, v18, v19, v20, v21, .int 0, v23]))]) (wr := [(h1, .inl (k1, 8277, .inl (fun _ => 0)))]) (va_runV (As := [.int 1]) (rest := []) ⟨hx, hb, hml, hown, hts⟩ (c_X11_raises_0 l hl0 D ad H.size h0 (.ref h1) (v0) (v1) (v2) (v3) (v4) (v5) (v6) (v7) (v8) (v9) (v10) (v11) (v12) (v13) (v14) (v15) (v16) (v17) (v18) (v19) (v20) (v21) (.int 0) (v23)) (cwV 1 hts gX11_lostShare_X11_raises rfl rfl rfl (by decide +kernel) ⟨Nat.le_of_ble_eq_true rfl, Nat.le_of_ble_eq_true rfl⟩) ⟨PC_.blind, va_recv hK hP (ci := 14) (q0 := 0) rfl rfl, PC_.pre hF hK hP hD hS hA [0] [] rfl (by decide) rfl⟩ rfl rfl hl.1 rfl (lv_room (Nat.le_of_ble_eq_true rfl)) dX11_lostShare_16 ⟨Nat.le_of_ble_eq_true rfl, Nat.le_of_ble_eq_true rfl⟩) hK hP hD hS hA [0] [1] [0] rfl rfl (by decide) (by decide) rfl (fun qa_1 ka_1 ia_1 H locs hpo hP hD hK hS => ?_)
  have hP : va_P D vwCl [(h1, .inl (k1, 8277, .inl (fun _ => 0))), (h0, .inr (14, [.ref h1, v0, v1, v2, v3, v4, v5, v6, v7, v8, v9, v10, v11, v12, v13, v14, v15, v16, v17, v18, v19, v20, v21, .int 1, v23]))] H := hP
  have hD : va_D A [(h1, .inl (k1, 8277, .inl (fun _ => 0))), (h0, .inr (14, [.ref h1, v0, v1, v2, v3, v4, v5, v6, v7, v8, v9, v10, v11, v12, v13, v14, v15, v16, v17, v18, v19, v20, v21, .int 1, v23]))] := hD
  have hK : va_K D vwCl [(k1, .int)] s := hK
  refine W.eq (g2 := F0 m 19 ls [.int 0]) rfl ?_
  refine lv_i2f hx hb dX11_lostShare_19 ?_
  refine lv_goto (tgt := 38) hx hb dX11_lostShare_20 (by decide) ?_
  refine W.widen (k := 0) (n := 0) (Nat.le_of_ble_eq_true rfl) (Nat.le_of_ble_eq_true rfl) ?_
  exact W.fret (v := (FP.i2f 0)) hx hb hr (QG_.mk (fun _ => 0) (fun _ => 0) (fun _ => 0) [1, 0] [0] hP hD hK hS rfl trivial rfl (by decide) rfl) hS.2.2 dX11_lostShare_38
set_option maxHeartbeats 4000000 in
set_option maxRecDepth 100000 in
theorem c_X10_account_0 (l : Launch) (hl0 : l.stackTraces = false) (D : va_G) (ad : Nat → Nat) (sz : Nat) (h0 : Nat) (h1 : Nat) (v0 : Value) (v1 : Value) (v2 : Value) (v3 : Value) (v4 : Value) (v5 : Value) (v6 : Value) (v7 : Value) (v8 : Value) (v9 : Value) (v10 : Value) (v11 : Value) (v12 : Value) (v13 : Value) (v14 : Value) (v15 : Value) (v16 : Value) (v17 : Value) : Met l yX10_account wsX10_account ({ frames := 0, cells := 0, slots := 0, locals := 0 }) (PC_ D ad [(h0, .inr (13, [.ref h1, v0, v1, v2, v3, v4, v5, v6, v7, v8])), (h1, .inr (11, [v9, v10, v11, v12, v13, v14, .int 0, v15, v16, v17]))] [] sz [.ref h0, .int 0]) (QG_ D (fun q i => some (.int 0)) (fun q i => True) (fun q k i => [(h0, .inr (13, [.ref h1, v0, v1, v2, v3, v4, v5, v6, v7, v8])), (h1, .inr (11, [v9, v10, v11, v12, v13, v14, .int 0, v15, v16, v17]))]) (fun q k i => []) (va_A [(h0, .inr (13, [.ref h1, v0, v1, v2, v3, v4, v5, v6, v7, v8])), (h1, .inr (11, [v9, v10, v11, v12, v13, v14, .int 0, v15, v16, v17]))] sz)) 0 0 (va_A [(h0, .inr (13, [.ref h1, v0, v1, v2, v3, v4, v5, v6, v7, v8])), (h1, .inr (11, [v9, v10, v11, v12, v13, v14, .int 0, v15, v16, v17]))] sz) := by
  refine Met.ofW (cc := cX10_account) (maxL := 2) (ret := (some .int)) (by decide) rfl ?_
  intro p e s m args below meth c s₁ B hml hv
  obtain ⟨rfl, hsz, hP, hK, hD0, hF⟩ := hv
  have hx := B.exec
  have hb := B.bytes
  have hr := B.returns
  have hts := atoms_spec (ws := wsX10_account) B.pre
  have hown : s.vm.findClass RX10 = some m.cls := findClass_of_methodNamed B.named
  have hlocks := B.notSynchronized
  subst hsz
  have hD := hD0.self (sz := s.heap.size)
  generalize hAe : va_A [(h0, .inr (13, [.ref h1, v0, v1, v2, v3, v4, v5, v6, v7, v8])), (h1, .inr (11, [v9, v10, v11, v12, v13, v14, .int 0, v15, v16, v17]))] s.heap.size = A at hD hF ⊢
  have hA : ∀ q : Nat, s.heap.size ≤ q → A q := fun q h => by rw [← hAe]; exact Or.inr h
  obtain ⟨H, hHe⟩ : ∃ H : Heap, H = s.heap := ⟨_, rfl⟩
  have hS : va_S A s.heap H [] := by rw [hHe]; exact va_S.rf
  have hP : va_P D vwCl [(h0, .inr (13, [.ref h1, v0, v1, v2, v3, v4, v5, v6, v7, v8])), (h1, .inr (11, [v9, v10, v11, v12, v13, v14, .int 0, v15, v16, v17]))] H := by rw [hHe]; exact hP
  rw [← hHe]
  have hi_X10 : ∀ w ∈ wsX100, w ∈ wsX10_account := by decide +kernel
  have hi_X8 : ∀ w ∈ wsX80, w ∈ wsX10_account := by decide +kernel
  have hl := lv_entry [.ref h0, .int 0] (n := 2) (Nat.le_of_ble_eq_true rfl)
  rw [lg_entry_eq]
  generalize (lg_sl [.ref h0, .int 0] ++ List.replicate (2 - (lg_sl [.ref h0, .int 0]).length) Slot.unset).toArray = ls at hl ⊢
  have hl : lv_has ls 2 [(0, .ref h0), (1, .int 0)] := hl
  refine lv_iload_n hx hb dX10_account_0 rfl (lv_at hl 1 rfl) ?_
  refine lv_tableIn (tgt := 60) (off := 59) hx hb dX10_account_1 (by decide +kernel) (by decide +kernel) (by decide +kernel) (by decide) ?_
  refine lv_aload_n hx hb dX10_account_60 rfl (lv_at hl 0 rfl) ?_
  refine va_get (D := D) (ci := 13) (v := .ref h1) (own := RX10) (C := RX10) (T := TX10) (N := 10) hx hb hts hi_X10 hown hK hP 0 rfl rfl 0 (by decide) (hts (.fieldLink RX10 50 "CanalMaps" "now" "LCanalMaps$Survey;") (List.mem_of_getElem? (i := 3) (by decide +kernel))) (fun _ h9 => h9) rfl dX10_account_61 ?_
  refine va_getN (D := D) (ci := 11) (v := .int 0) (own := RX10) (C := RX8) (T := TX8) (N := 10) hx hb hts hi_X8 hown hK hP 1 rfl rfl 6 (by decide) (fxn_ hF (RX10, 369, "CanalMaps$Survey", "ticks", "I")) (fun _ h9 => h9) rfl dX10_account_64 ?_
  refine W.widen (k := 0) (n := 0) (Nat.le_of_ble_eq_true rfl) (Nat.le_of_ble_eq_true rfl) ?_
  exact W.iret (v := 0) hx hb hr (QG_.mk (fun _ => 0) (fun _ => 0) (fun _ => 0) [0, 1] [] hP hD hK hS rfl trivial rfl (by decide) rfl) hS.2.2 dX10_account_67
set_option maxHeartbeats 4000000 in
set_option maxRecDepth 100000 in
theorem c_L_account_0 (l : Launch) (hl0 : l.stackTraces = false) (D : va_G) (ad : Nat → Nat) (sz : Nat) (h0 : Nat) (h1 : Nat) (h2 : Nat) (k2 : ClassId) (v0 : Value) (v1 : Value) (v2 : Value) (v3 : Value) (v4 : Value) (v5 : Value) (v6 : Value) (v7 : Value) (v8 : Value) (v9 : Value) (v10 : Value) (v11 : Value) (v12 : Value) (v13 : Value) (v14 : Value) (v15 : Value) (v16 : Value) (v17 : Value) (f0 : Nat → Int64) : Met l yL_account wsL_account ({ frames := 1, cells := 0, slots := 0, locals := 23 }) (PC_ D ad [(h0, .inr (13, [.ref h1, v0, v1, v2, v3, v4, v5, v6, v7, v8])), (h1, .inr (11, [v9, v10, v11, v12, v13, v14, .int 0, v15, v16, v17])), (h2, .inl (k2, 1, .inr (.inl f0)))] [(k2, .long)] sz [.ref h0, .int 0, .ref h2]) (QG_ D (fun q i => some (.int 0)) (fun q i => True) (fun q k i => [(h0, .inr (13, [.ref h1, v0, v1, v2, v3, v4, v5, v6, v7, v8])), (h1, .inr (11, [v9, v10, v11, v12, v13, v14, .int 0, v15, v16, v17])), (h2, .inl (k2, 1, .inr (.inl (vp_updL f0 0 0))))]) (fun q k i => [(k2, .long)]) (va_A [(h0, .inr (13, [.ref h1, v0, v1, v2, v3, v4, v5, v6, v7, v8])), (h1, .inr (11, [v9, v10, v11, v12, v13, v14, .int 0, v15, v16, v17])), (h2, .inl (k2, 1, .inr (.inl f0)))] sz)) 0 0 (va_A [(h0, .inr (13, [.ref h1, v0, v1, v2, v3, v4, v5, v6, v7, v8])), (h1, .inr (11, [v9, v10, v11, v12, v13, v14, .int 0, v15, v16, v17])), (h2, .inl (k2, 1, .inr (.inl f0)))] sz) := by
  refine va_MetW (cc := cL_account) (maxL := 4) (ret := (some .int)) (by decide) rfl ?_
  intro p e s m args below meth c s₁ B hml hv
  obtain ⟨rfl, hsz, hP, hK, hD0, hF⟩ := hv
  have hx := B.exec
  have hb := B.bytes
  have hr := B.returns
  have hts := atoms_spec (ws := wsL_account) B.pre
  have hown : s.vm.findClass RL = some m.cls := findClass_of_methodNamed B.named
  have hlocks := B.notSynchronized
  have htb := vx_table (x := yL_account) B (hts _ (List.mem_cons_self))
  subst hsz
  have hD := hD0.self (sz := s.heap.size)
  generalize hAe : va_A [(h0, .inr (13, [.ref h1, v0, v1, v2, v3, v4, v5, v6, v7, v8])), (h1, .inr (11, [v9, v10, v11, v12, v13, v14, .int 0, v15, v16, v17])), (h2, .inl (k2, 1, .inr (.inl f0)))] s.heap.size = A at hD hF ⊢
  have hA : ∀ q : Nat, s.heap.size ≤ q → A q := fun q h => by rw [← hAe]; exact Or.inr h
  obtain ⟨H, hHe⟩ : ∃ H : Heap, H = s.heap := ⟨_, rfl⟩
  have hS : va_S A s.heap H [] := by rw [hHe]; exact va_S.rf
  have hP : va_P D vwCl [(h0, .inr (13, [.ref h1, v0, v1, v2, v3, v4, v5, v6, v7, v8])), (h1, .inr (11, [v9, v10, v11, v12, v13, v14, .int 0, v15, v16, v17])), (h2, .inl (k2, 1, .inr (.inl f0)))] H := by rw [hHe]; exact hP
  rw [← hHe]
  have hl := lv_entry [.ref h0, .int 0, .ref h2] (n := 4) (Nat.le_of_ble_eq_true rfl)
  rw [lg_entry_eq]
  generalize (lg_sl [.ref h0, .int 0, .ref h2] ++ List.replicate (4 - (lg_sl [.ref h0, .int 0, .ref h2]).length) Slot.unset).toArray = ls at hl ⊢
  have hl : lv_has ls 4 [(0, .ref h0), (1, .int 0), (2, .ref h2)] := hl
  refine lv_aload_n hx hb dL_account_0 rfl (lv_at hl 2 rfl) ?_
  refine lv_iconst (v := 0) hx hb dL_account_1 (by decide) ?_
  refine lv_aload_n hx hb dL_account_2 rfl (lv_at hl 0 rfl) ?_
  refine lv_iload_n hx hb dL_account_3 rfl (lv_at hl 1 rfl) ?_
  refine kc_ (wc := [(h0, .inr (13, [.ref h1, v0, v1, v2, v3, v4, v5, v6, v7, v8])), (h1, .inr (11, [v9, v10, v11, v12, v13, v14, .int 0, v15, v16, v17]))]) (wr := [(h2, .inl (k2, 1, .inr (.inl f0)))]) (va_runV (As := [.int 0]) (rest := [.int 0, .ref h2]) ⟨hx, hb, hml, hown, hts⟩ (c_X10_account_0 l hl0 D ad H.size h0 h1 (v0) (v1) (v2) (v3) (v4) (v5) (v6) (v7) (v8) (v9) (v10) (v11) (v12) (v13) (v14) (v15) (v16) (v17)) (cwV 1 hts gL_account_X10_account rfl rfl rfl (by decide +kernel) ⟨Nat.le_of_ble_eq_true rfl, Nat.le_of_ble_eq_true rfl⟩) ⟨PC_.blind, va_recv hK hP (ci := 13) (q0 := 0) rfl rfl, PC_.pre hF hK hP hD hS hA [0, 1] [] rfl (by decide) rfl⟩ rfl rfl hl.1 rfl (lv_room (Nat.le_of_ble_eq_true rfl)) dL_account_4 ⟨Nat.le_of_ble_eq_true rfl, Nat.le_of_ble_eq_true rfl⟩) hK hP hD hS hA [0, 1] [2] [0] rfl rfl (by decide) (by decide) rfl (fun qa_1 ka_1 ia_1 H locs hpo hP hD hK hS => ?_)
  have hP : va_P D vwCl [(h2, .inl (k2, 1, .inr (.inl f0))), (h0, .inr (13, [.ref h1, v0, v1, v2, v3, v4, v5, v6, v7, v8])), (h1, .inr (11, [v9, v10, v11, v12, v13, v14, .int 0, v15, v16, v17]))] H := hP
  have hD : va_D A [(h2, .inl (k2, 1, .inr (.inl f0))), (h0, .inr (13, [.ref h1, v0, v1, v2, v3, v4, v5, v6, v7, v8])), (h1, .inr (11, [v9, v10, v11, v12, v13, v14, .int 0, v15, v16, v17]))] := hD
  have hK : va_K D vwCl [(k2, .long)] s := hK
  refine W.eq (g2 := F0 m 7 ls [.int 0, .int 0, .ref h2]) rfl ?_
  refine lv_i2l (v := 0) hx hb dL_account_7 (by decide +kernel) ?_
  refine ka_last (g := (vp_updL f0 0 0)) hx hb hK hP hD hS 0 0 rfl rfl (vin_ (by decide +kernel)) (congrArg (fun z9 => vp_updL _ z9 _) (by decide +kernel)) dL_account_8 (fun H locs hP hD hS => ?_)
  have hP : va_P D vwCl [(h2, .inl (k2, 1, .inr (.inl (vp_updL f0 0 0)))), (h0, .inr (13, [.ref h1, v0, v1, v2, v3, v4, v5, v6, v7, v8])), (h1, .inr (11, [v9, v10, v11, v12, v13, v14, .int 0, v15, v16, v17]))] H := hP
  have hD : va_D A [(h2, .inl (k2, 1, .inr (.inl (vp_updL f0 0 0)))), (h0, .inr (13, [.ref h1, v0, v1, v2, v3, v4, v5, v6, v7, v8])), (h1, .inr (11, [v9, v10, v11, v12, v13, v14, .int 0, v15, v16, v17]))] := hD
  refine lv_goto (tgt := 15) hx hb dL_account_9 (by decide) ?_
  refine lv_iconst (v := 0) hx hb dL_account_15 (by decide) ?_
  refine W.widen (k := 0) (n := 0) (Nat.le_of_ble_eq_true rfl) (Nat.le_of_ble_eq_true rfl) ?_
  exact W.iret (v := 0) hx hb hr (QG_.mk (fun _ => 0) (fun _ => 0) (fun _ => 0) [1, 2, 0] [0] hP hD hK hS rfl trivial rfl (by decide) rfl) hS.2.2 dL_account_16
set_option maxHeartbeats 4000000 in
set_option maxRecDepth 100000 in
theorem c_X11_account_0 (l : Launch) (hl0 : l.stackTraces = false) (D : va_G) (ad : Nat → Nat) (sz : Nat) (h0 : Nat) (h1 : Nat) (k1 : ClassId) (v0 : Value) (v1 : Value) (v2 : Value) (v3 : Value) (v4 : Value) (v5 : Value) (v6 : Value) (v7 : Value) (v8 : Value) (v9 : Value) (v10 : Value) (v11 : Value) (v12 : Value) (v13 : Value) (v14 : Value) (v15 : Value) (v16 : Value) (v17 : Value) (v18 : Value) (v19 : Value) (v20 : Value) (v21 : Value) (v22 : Value) (v23 : Value) : Met l yX11_account wsX11_account ({ frames := 0, cells := 0, slots := 0, locals := 0 }) (PC_ D ad [(h0, .inr (14, [.ref h1, v0, v1, v2, v3, v4, v5, v6, v7, v8, v9, v10, v11, v12, v13, v14, v15, v16, v17, v18, v19, v20, v21, v22, v23])), (h1, .inl (k1, 8277, .inl (fun _ => 0)))] [(k1, .int)] sz [.ref h0, .int 0]) (QG_ D (fun q i => some (.int 0)) (fun q i => True) (fun q k i => [(h0, .inr (14, [.ref h1, v0, v1, v2, v3, v4, v5, v6, v7, v8, v9, v10, v11, v12, v13, v14, v15, v16, v17, v18, v19, v20, v21, .int 0, v23])), (h1, .inl (k1, 8277, .inl (fun _ => 0)))]) (fun q k i => [(k1, .int)]) (va_A [(h0, .inr (14, [.ref h1, v0, v1, v2, v3, v4, v5, v6, v7, v8, v9, v10, v11, v12, v13, v14, v15, v16, v17, v18, v19, v20, v21, v22, v23])), (h1, .inl (k1, 8277, .inl (fun _ => 0)))] sz)) 0 0 (va_A [(h0, .inr (14, [.ref h1, v0, v1, v2, v3, v4, v5, v6, v7, v8, v9, v10, v11, v12, v13, v14, v15, v16, v17, v18, v19, v20, v21, v22, v23])), (h1, .inl (k1, 8277, .inl (fun _ => 0)))] sz) := by
  refine Met.ofW (cc := cX11_account) (maxL := 4) (ret := (some .int)) (by decide) rfl ?_
  intro p e s m args below meth c s₁ B hml hv
  obtain ⟨rfl, hsz, hP, hK, hD0, hF⟩ := hv
  have hx := B.exec
  have hb := B.bytes
  have hr := B.returns
  have hts := atoms_spec (ws := wsX11_account) B.pre
  have hown : s.vm.findClass RX11 = some m.cls := findClass_of_methodNamed B.named
  have hlocks := B.notSynchronized
  subst hsz
  have hD := hD0.self (sz := s.heap.size)
  generalize hAe : va_A [(h0, .inr (14, [.ref h1, v0, v1, v2, v3, v4, v5, v6, v7, v8, v9, v10, v11, v12, v13, v14, v15, v16, v17, v18, v19, v20, v21, v22, v23])), (h1, .inl (k1, 8277, .inl (fun _ => 0)))] s.heap.size = A at hD hF ⊢
  have hA : ∀ q : Nat, s.heap.size ≤ q → A q := fun q h => by rw [← hAe]; exact Or.inr h
  obtain ⟨H, hHe⟩ : ∃ H : Heap, H = s.heap := ⟨_, rfl⟩
  have hS : va_S A s.heap H [] := by rw [hHe]; exact va_S.rf
  have hP : va_P D vwCl [(h0, .inr (14, [.ref h1, v0, v1, v2, v3, v4, v5, v6, v7, v8, v9, v10, v11, v12, v13, v14, v15, v16, v17, v18, v19, v20, v21, v22, v23])), (h1, .inl (k1, 8277, .inl (fun _ => 0)))] H := by rw [hHe]; exact hP
  rw [← hHe]
  have hi_X11 : ∀ w ∈ wsX110, w ∈ wsX11_account := by decide +kernel
  have hl := lv_entry [.ref h0, .int 0] (n := 4) (Nat.le_of_ble_eq_true rfl)
  rw [lg_entry_eq]
  generalize (lg_sl [.ref h0, .int 0] ++ List.replicate (4 - (lg_sl [.ref h0, .int 0]).length) Slot.unset).toArray = ls at hl ⊢
  have hl : lv_has ls 4 [(0, .ref h0), (1, .int 0)] := hl
  refine lv_aload_n hx hb dX11_account_0 rfl (lv_at hl 0 rfl) ?_
  refine lv_iconst (v := 0) hx hb dX11_account_1 (by decide) ?_
  refine va_put (D := D) (ci := 14) (v := .int 0) (ty := .int) (own := RX11) (C := RX11) (T := TX11) (N := 25) hx hb hts hi_X11 tyX11 tyX11_ok nmX11 hown hK hP hD hS 0 rfl rfl 23 (by decide) (hts (.fieldLink RX11 47 "CanalMapsModel" "thrown" "I") (List.mem_of_getElem? (i := 1) (by decide +kernel))) (fun _ h9 => h9) rfl (by decide +kernel) rfl rfl (Nat.le_of_ble_eq_true rfl) dX11_account_2 (fun H locs hP hD hS => ?_)
  have hP : va_P D vwCl [(h0, .inr (14, [.ref h1, v0, v1, v2, v3, v4, v5, v6, v7, v8, v9, v10, v11, v12, v13, v14, v15, v16, v17, v18, v19, v20, v21, .int 0, v23])), (h1, .inl (k1, 8277, .inl (fun _ => 0)))] H := hP
  have hD : va_D A [(h0, .inr (14, [.ref h1, v0, v1, v2, v3, v4, v5, v6, v7, v8, v9, v10, v11, v12, v13, v14, v15, v16, v17, v18, v19, v20, v21, .int 0, v23])), (h1, .inl (k1, 8277, .inl (fun _ => 0)))] := hD
  refine lv_iconst (v := 0) hx hb dX11_account_5 (by decide) ?_
  refine lv_istore_n (lv' := [(2, .int 0), (0, .ref h0), (1, .int 0)]) hx hb dX11_account_6 rfl hl (by decide) rfl (fun ls hl => ?_)
  refine lv_iload_n hx hb dX11_account_7 rfl (lv_at hl 2 rfl) ?_
  refine lv_tableIn (tgt := 68) (off := 60) hx hb dX11_account_8 (by decide +kernel) (by decide +kernel) (by decide +kernel) (by decide) ?_
  refine lv_aload_n hx hb dX11_account_68 rfl (lv_at hl 1 rfl) ?_
  refine va_get (D := D) (ci := 14) (v := .ref h1) (own := RX11) (C := RX11) (T := TX11) (N := 25) hx hb hts hi_X11 hown hK hP 0 rfl rfl 0 (by decide) (hts (.fieldLink RX11 9 "CanalMapsModel" "now" "[I") (List.mem_of_getElem? (i := 2) (by decide +kernel))) (fun _ h9 => h9) rfl dX11_account_69 ?_
  refine lv_iconst (v := 1) hx hb dX11_account_72 (by decide) ?_
  refine va_iald hx hb hK hP 1 0 rfl rfl (vin_ (by decide +kernel)) dX11_account_73 ?_
  refine kt_ (v := 0) (by decide +kernel) ?_
  refine W.widen (k := 0) (n := 0) (Nat.le_of_ble_eq_true rfl) (Nat.le_of_ble_eq_true rfl) ?_
  exact W.iret (v := 0) hx hb hr (QG_.mk (fun _ => 0) (fun _ => 0) (fun _ => 0) [0, 1] [0] hP hD hK hS rfl trivial rfl (by decide) rfl) hS.2.2 dX11_account_74
set_option maxHeartbeats 4000000 in
set_option maxRecDepth 100000 in
theorem c_X10_account_1 (l : Launch) (hl0 : l.stackTraces = false) (D : va_G) (ad : Nat → Nat) (sz : Nat) (h0 : Nat) (h1 : Nat) (v0 : Value) (v1 : Value) (v2 : Value) (v3 : Value) (v4 : Value) (v5 : Value) (v6 : Value) (v7 : Value) (v8 : Value) (v9 : Value) (v10 : Value) (v11 : Value) (v12 : Value) (v13 : Value) (v14 : Value) (v15 : Value) (v16 : Value) (v17 : Value) : Met l yX10_account wsX10_account ({ frames := 0, cells := 0, slots := 0, locals := 0 }) (PC_ D ad [(h0, .inr (13, [.ref h1, v0, v1, v2, v3, v4, v5, v6, v7, v8])), (h1, .inr (11, [v9, v10, v11, v12, v13, .int 0, v14, v15, v16, v17]))] [] sz [.ref h0, .int 1]) (QG_ D (fun q i => some (.int 0)) (fun q i => True) (fun q k i => [(h0, .inr (13, [.ref h1, v0, v1, v2, v3, v4, v5, v6, v7, v8])), (h1, .inr (11, [v9, v10, v11, v12, v13, .int 0, v14, v15, v16, v17]))]) (fun q k i => []) (va_A [(h0, .inr (13, [.ref h1, v0, v1, v2, v3, v4, v5, v6, v7, v8])), (h1, .inr (11, [v9, v10, v11, v12, v13, .int 0, v14, v15, v16, v17]))] sz)) 0 0 (va_A [(h0, .inr (13, [.ref h1, v0, v1, v2, v3, v4, v5, v6, v7, v8])), (h1, .inr (11, [v9, v10, v11, v12, v13, .int 0, v14, v15, v16, v17]))] sz) := by
  refine Met.ofW (cc := cX10_account) (maxL := 2) (ret := (some .int)) (by decide) rfl ?_
  intro p e s m args below meth c s₁ B hml hv
  obtain ⟨rfl, hsz, hP, hK, hD0, hF⟩ := hv
  have hx := B.exec
  have hb := B.bytes
  have hr := B.returns
  have hts := atoms_spec (ws := wsX10_account) B.pre
  have hown : s.vm.findClass RX10 = some m.cls := findClass_of_methodNamed B.named
  have hlocks := B.notSynchronized
  subst hsz
  have hD := hD0.self (sz := s.heap.size)
  generalize hAe : va_A [(h0, .inr (13, [.ref h1, v0, v1, v2, v3, v4, v5, v6, v7, v8])), (h1, .inr (11, [v9, v10, v11, v12, v13, .int 0, v14, v15, v16, v17]))] s.heap.size = A at hD hF ⊢
  have hA : ∀ q : Nat, s.heap.size ≤ q → A q := fun q h => by rw [← hAe]; exact Or.inr h
  obtain ⟨H, hHe⟩ : ∃ H : Heap, H = s.heap := ⟨_, rfl⟩
  have hS : va_S A s.heap H [] := by rw [hHe]; exact va_S.rf
  have hP : va_P D vwCl [(h0, .inr (13, [.ref h1, v0, v1, v2, v3, v4, v5, v6, v7, v8])), (h1, .inr (11, [v9, v10, v11, v12, v13, .int 0, v14, v15, v16, v17]))] H := by rw [hHe]; exact hP
  rw [← hHe]
  have hi_X10 : ∀ w ∈ wsX100, w ∈ wsX10_account := by decide +kernel
  have hi_X8 : ∀ w ∈ wsX80, w ∈ wsX10_account := by decide +kernel
  have hl := lv_entry [.ref h0, .int 1] (n := 2) (Nat.le_of_ble_eq_true rfl)
  rw [lg_entry_eq]
  generalize (lg_sl [.ref h0, .int 1] ++ List.replicate (2 - (lg_sl [.ref h0, .int 1]).length) Slot.unset).toArray = ls at hl ⊢
  have hl : lv_has ls 2 [(0, .ref h0), (1, .int 1)] := hl
  refine lv_iload_n hx hb dX10_account_0 rfl (lv_at hl 1 rfl) ?_
  refine lv_tableIn (tgt := 68) (off := 67) hx hb dX10_account_1 (by decide +kernel) (by decide +kernel) (by decide +kernel) (by decide) ?_
  refine lv_aload_n hx hb dX10_account_68 rfl (lv_at hl 0 rfl) ?_
  refine va_get (D := D) (ci := 13) (v := .ref h1) (own := RX10) (C := RX10) (T := TX10) (N := 10) hx hb hts hi_X10 hown hK hP 0 rfl rfl 0 (by decide) (hts (.fieldLink RX10 50 "CanalMaps" "now" "LCanalMaps$Survey;") (List.mem_of_getElem? (i := 3) (by decide +kernel))) (fun _ h9 => h9) rfl dX10_account_69 ?_
  refine va_getN (D := D) (ci := 11) (v := .int 0) (own := RX10) (C := RX8) (T := TX8) (N := 10) hx hb hts hi_X8 hown hK hP 1 rfl rfl 5 (by decide) (fxn_ hF (RX10, 238, "CanalMaps$Survey", "surveyors", "I")) (fun _ h9 => h9) rfl dX10_account_72 ?_
  refine W.widen (k := 0) (n := 0) (Nat.le_of_ble_eq_true rfl) (Nat.le_of_ble_eq_true rfl) ?_
  exact W.iret (v := 0) hx hb hr (QG_.mk (fun _ => 0) (fun _ => 0) (fun _ => 0) [0, 1] [] hP hD hK hS rfl trivial rfl (by decide) rfl) hS.2.2 dX10_account_75
set_option maxHeartbeats 4000000 in
set_option maxRecDepth 100000 in
theorem c_L_account_1 (l : Launch) (hl0 : l.stackTraces = false) (D : va_G) (ad : Nat → Nat) (sz : Nat) (h0 : Nat) (h1 : Nat) (h2 : Nat) (k2 : ClassId) (v0 : Value) (v1 : Value) (v2 : Value) (v3 : Value) (v4 : Value) (v5 : Value) (v6 : Value) (v7 : Value) (v8 : Value) (v9 : Value) (v10 : Value) (v11 : Value) (v12 : Value) (v13 : Value) (v14 : Value) (v15 : Value) (v16 : Value) (v17 : Value) (f0 : Nat → Int64) : Met l yL_account wsL_account ({ frames := 1, cells := 0, slots := 0, locals := 23 }) (PC_ D ad [(h0, .inr (13, [.ref h1, v0, v1, v2, v3, v4, v5, v6, v7, v8])), (h1, .inr (11, [v9, v10, v11, v12, v13, .int 0, v14, v15, v16, v17])), (h2, .inl (k2, 1, .inr (.inl f0)))] [(k2, .long)] sz [.ref h0, .int 1, .ref h2]) (QG_ D (fun q i => some (.int 0)) (fun q i => True) (fun q k i => [(h0, .inr (13, [.ref h1, v0, v1, v2, v3, v4, v5, v6, v7, v8])), (h1, .inr (11, [v9, v10, v11, v12, v13, .int 0, v14, v15, v16, v17])), (h2, .inl (k2, 1, .inr (.inl (vp_updL f0 0 0))))]) (fun q k i => [(k2, .long)]) (va_A [(h0, .inr (13, [.ref h1, v0, v1, v2, v3, v4, v5, v6, v7, v8])), (h1, .inr (11, [v9, v10, v11, v12, v13, .int 0, v14, v15, v16, v17])), (h2, .inl (k2, 1, .inr (.inl f0)))] sz)) 0 0 (va_A [(h0, .inr (13, [.ref h1, v0, v1, v2, v3, v4, v5, v6, v7, v8])), (h1, .inr (11, [v9, v10, v11, v12, v13, .int 0, v14, v15, v16, v17])), (h2, .inl (k2, 1, .inr (.inl f0)))] sz) := by
  refine va_MetW (cc := cL_account) (maxL := 4) (ret := (some .int)) (by decide) rfl ?_
  intro p e s m args below meth c s₁ B hml hv
  obtain ⟨rfl, hsz, hP, hK, hD0, hF⟩ := hv
  have hx := B.exec
  have hb := B.bytes
  have hr := B.returns
  have hts := atoms_spec (ws := wsL_account) B.pre
  have hown : s.vm.findClass RL = some m.cls := findClass_of_methodNamed B.named
  have hlocks := B.notSynchronized
  have htb := vx_table (x := yL_account) B (hts _ (List.mem_cons_self))
  subst hsz
  have hD := hD0.self (sz := s.heap.size)
  generalize hAe : va_A [(h0, .inr (13, [.ref h1, v0, v1, v2, v3, v4, v5, v6, v7, v8])), (h1, .inr (11, [v9, v10, v11, v12, v13, .int 0, v14, v15, v16, v17])), (h2, .inl (k2, 1, .inr (.inl f0)))] s.heap.size = A at hD hF ⊢
  have hA : ∀ q : Nat, s.heap.size ≤ q → A q := fun q h => by rw [← hAe]; exact Or.inr h
  obtain ⟨H, hHe⟩ : ∃ H : Heap, H = s.heap := ⟨_, rfl⟩
  have hS : va_S A s.heap H [] := by rw [hHe]; exact va_S.rf
  have hP : va_P D vwCl [(h0, .inr (13, [.ref h1, v0, v1, v2, v3, v4, v5, v6, v7, v8])), (h1, .inr (11, [v9, v10, v11, v12, v13, .int 0, v14, v15, v16, v17])), (h2, .inl (k2, 1, .inr (.inl f0)))] H := by rw [hHe]; exact hP
  rw [← hHe]
  have hl := lv_entry [.ref h0, .int 1, .ref h2] (n := 4) (Nat.le_of_ble_eq_true rfl)
  rw [lg_entry_eq]
  generalize (lg_sl [.ref h0, .int 1, .ref h2] ++ List.replicate (4 - (lg_sl [.ref h0, .int 1, .ref h2]).length) Slot.unset).toArray = ls at hl ⊢
  have hl : lv_has ls 4 [(0, .ref h0), (1, .int 1), (2, .ref h2)] := hl
  refine lv_aload_n hx hb dL_account_0 rfl (lv_at hl 2 rfl) ?_
  refine lv_iconst (v := 0) hx hb dL_account_1 (by decide) ?_
  refine lv_aload_n hx hb dL_account_2 rfl (lv_at hl 0 rfl) ?_
  refine lv_iload_n hx hb dL_account_3 rfl (lv_at hl 1 rfl) ?_
  refine kc_ (wc := [(h0, .inr (13, [.ref h1, v0, v1, v2, v3, v4, v5, v6, v7, v8])), (h1, .inr (11, [v9, v10, v11, v12, v13, .int 0, v14, v15, v16, v17]))]) (wr := [(h2, .inl (k2, 1, .inr (.inl f0)))]) (va_runV (As := [.int 1]) (rest := [.int 0, .ref h2]) ⟨hx, hb, hml, hown, hts⟩ (c_X10_account_1 l hl0 D ad H.size h0 h1 (v0) (v1) (v2) (v3) (v4) (v5) (v6) (v7) (v8) (v9) (v10) (v11) (v12) (v13) (v14) (v15) (v16) (v17)) (cwV 1 hts gL_account_X10_account rfl rfl rfl (by decide +kernel) ⟨Nat.le_of_ble_eq_true rfl, Nat.le_of_ble_eq_true rfl⟩) ⟨PC_.blind, va_recv hK hP (ci := 13) (q0 := 0) rfl rfl, PC_.pre hF hK hP hD hS hA [0, 1] [] rfl (by decide) rfl⟩ rfl rfl hl.1 rfl (lv_room (Nat.le_of_ble_eq_true rfl)) dL_account_4 ⟨Nat.le_of_ble_eq_true rfl, Nat.le_of_ble_eq_true rfl⟩) hK hP hD hS hA [0, 1] [2] [0] rfl rfl (by decide) (by decide) rfl (fun qa_1 ka_1 ia_1 H locs hpo hP hD hK hS => ?_)
  have hP : va_P D vwCl [(h2, .inl (k2, 1, .inr (.inl f0))), (h0, .inr (13, [.ref h1, v0, v1, v2, v3, v4, v5, v6, v7, v8])), (h1, .inr (11, [v9, v10, v11, v12, v13, .int 0, v14, v15, v16, v17]))] H := hP
  have hD : va_D A [(h2, .inl (k2, 1, .inr (.inl f0))), (h0, .inr (13, [.ref h1, v0, v1, v2, v3, v4, v5, v6, v7, v8])), (h1, .inr (11, [v9, v10, v11, v12, v13, .int 0, v14, v15, v16, v17]))] := hD
  have hK : va_K D vwCl [(k2, .long)] s := hK
  refine W.eq (g2 := F0 m 7 ls [.int 0, .int 0, .ref h2]) rfl ?_
  refine lv_i2l (v := 0) hx hb dL_account_7 (by decide +kernel) ?_
  refine ka_last (g := (vp_updL f0 0 0)) hx hb hK hP hD hS 0 0 rfl rfl (vin_ (by decide +kernel)) (congrArg (fun z9 => vp_updL _ z9 _) (by decide +kernel)) dL_account_8 (fun H locs hP hD hS => ?_)
  have hP : va_P D vwCl [(h2, .inl (k2, 1, .inr (.inl (vp_updL f0 0 0)))), (h0, .inr (13, [.ref h1, v0, v1, v2, v3, v4, v5, v6, v7, v8])), (h1, .inr (11, [v9, v10, v11, v12, v13, .int 0, v14, v15, v16, v17]))] H := hP
  have hD : va_D A [(h2, .inl (k2, 1, .inr (.inl (vp_updL f0 0 0)))), (h0, .inr (13, [.ref h1, v0, v1, v2, v3, v4, v5, v6, v7, v8])), (h1, .inr (11, [v9, v10, v11, v12, v13, .int 0, v14, v15, v16, v17]))] := hD
  refine lv_goto (tgt := 15) hx hb dL_account_9 (by decide) ?_
  refine lv_iconst (v := 0) hx hb dL_account_15 (by decide) ?_
  refine W.widen (k := 0) (n := 0) (Nat.le_of_ble_eq_true rfl) (Nat.le_of_ble_eq_true rfl) ?_
  exact W.iret (v := 0) hx hb hr (QG_.mk (fun _ => 0) (fun _ => 0) (fun _ => 0) [1, 2, 0] [0] hP hD hK hS rfl trivial rfl (by decide) rfl) hS.2.2 dL_account_16
set_option maxHeartbeats 4000000 in
set_option maxRecDepth 100000 in
theorem c_X11_account_1 (l : Launch) (hl0 : l.stackTraces = false) (D : va_G) (ad : Nat → Nat) (sz : Nat) (h0 : Nat) (h1 : Nat) (k1 : ClassId) (v0 : Value) (v1 : Value) (v2 : Value) (v3 : Value) (v4 : Value) (v5 : Value) (v6 : Value) (v7 : Value) (v8 : Value) (v9 : Value) (v10 : Value) (v11 : Value) (v12 : Value) (v13 : Value) (v14 : Value) (v15 : Value) (v16 : Value) (v17 : Value) (v18 : Value) (v19 : Value) (v20 : Value) (v21 : Value) (v22 : Value) (v23 : Value) : Met l yX11_account wsX11_account ({ frames := 0, cells := 0, slots := 0, locals := 0 }) (PC_ D ad [(h0, .inr (14, [.ref h1, v0, v1, v2, v3, v4, v5, v6, v7, v8, v9, v10, v11, v12, v13, v14, v15, v16, v17, v18, v19, v20, v21, v22, v23])), (h1, .inl (k1, 8277, .inl (fun _ => 0)))] [(k1, .int)] sz [.ref h0, .int 1]) (QG_ D (fun q i => some (.int 0)) (fun q i => True) (fun q k i => [(h0, .inr (14, [.ref h1, v0, v1, v2, v3, v4, v5, v6, v7, v8, v9, v10, v11, v12, v13, v14, v15, v16, v17, v18, v19, v20, v21, .int 0, v23])), (h1, .inl (k1, 8277, .inl (fun _ => 0)))]) (fun q k i => [(k1, .int)]) (va_A [(h0, .inr (14, [.ref h1, v0, v1, v2, v3, v4, v5, v6, v7, v8, v9, v10, v11, v12, v13, v14, v15, v16, v17, v18, v19, v20, v21, v22, v23])), (h1, .inl (k1, 8277, .inl (fun _ => 0)))] sz)) 0 0 (va_A [(h0, .inr (14, [.ref h1, v0, v1, v2, v3, v4, v5, v6, v7, v8, v9, v10, v11, v12, v13, v14, v15, v16, v17, v18, v19, v20, v21, v22, v23])), (h1, .inl (k1, 8277, .inl (fun _ => 0)))] sz) := by
  refine Met.ofW (cc := cX11_account) (maxL := 4) (ret := (some .int)) (by decide) rfl ?_
  intro p e s m args below meth c s₁ B hml hv
  obtain ⟨rfl, hsz, hP, hK, hD0, hF⟩ := hv
  have hx := B.exec
  have hb := B.bytes
  have hr := B.returns
  have hts := atoms_spec (ws := wsX11_account) B.pre
  have hown : s.vm.findClass RX11 = some m.cls := findClass_of_methodNamed B.named
  have hlocks := B.notSynchronized
  subst hsz
  have hD := hD0.self (sz := s.heap.size)
  generalize hAe : va_A [(h0, .inr (14, [.ref h1, v0, v1, v2, v3, v4, v5, v6, v7, v8, v9, v10, v11, v12, v13, v14, v15, v16, v17, v18, v19, v20, v21, v22, v23])), (h1, .inl (k1, 8277, .inl (fun _ => 0)))] s.heap.size = A at hD hF ⊢
  have hA : ∀ q : Nat, s.heap.size ≤ q → A q := fun q h => by rw [← hAe]; exact Or.inr h
  obtain ⟨H, hHe⟩ : ∃ H : Heap, H = s.heap := ⟨_, rfl⟩
  have hS : va_S A s.heap H [] := by rw [hHe]; exact va_S.rf
  have hP : va_P D vwCl [(h0, .inr (14, [.ref h1, v0, v1, v2, v3, v4, v5, v6, v7, v8, v9, v10, v11, v12, v13, v14, v15, v16, v17, v18, v19, v20, v21, v22, v23])), (h1, .inl (k1, 8277, .inl (fun _ => 0)))] H := by rw [hHe]; exact hP
  rw [← hHe]
  have hi_X11 : ∀ w ∈ wsX110, w ∈ wsX11_account := by decide +kernel
  have hl := lv_entry [.ref h0, .int 1] (n := 4) (Nat.le_of_ble_eq_true rfl)
  rw [lg_entry_eq]
  generalize (lg_sl [.ref h0, .int 1] ++ List.replicate (4 - (lg_sl [.ref h0, .int 1]).length) Slot.unset).toArray = ls at hl ⊢
  have hl : lv_has ls 4 [(0, .ref h0), (1, .int 1)] := hl
  refine lv_aload_n hx hb dX11_account_0 rfl (lv_at hl 0 rfl) ?_
  refine lv_iconst (v := 0) hx hb dX11_account_1 (by decide) ?_
  refine va_put (D := D) (ci := 14) (v := .int 0) (ty := .int) (own := RX11) (C := RX11) (T := TX11) (N := 25) hx hb hts hi_X11 tyX11 tyX11_ok nmX11 hown hK hP hD hS 0 rfl rfl 23 (by decide) (hts (.fieldLink RX11 47 "CanalMapsModel" "thrown" "I") (List.mem_of_getElem? (i := 1) (by decide +kernel))) (fun _ h9 => h9) rfl (by decide +kernel) rfl rfl (Nat.le_of_ble_eq_true rfl) dX11_account_2 (fun H locs hP hD hS => ?_)
  have hP : va_P D vwCl [(h0, .inr (14, [.ref h1, v0, v1, v2, v3, v4, v5, v6, v7, v8, v9, v10, v11, v12, v13, v14, v15, v16, v17, v18, v19, v20, v21, .int 0, v23])), (h1, .inl (k1, 8277, .inl (fun _ => 0)))] H := hP
  have hD : va_D A [(h0, .inr (14, [.ref h1, v0, v1, v2, v3, v4, v5, v6, v7, v8, v9, v10, v11, v12, v13, v14, v15, v16, v17, v18, v19, v20, v21, .int 0, v23])), (h1, .inl (k1, 8277, .inl (fun _ => 0)))] := hD
  refine lv_iconst (v := 0) hx hb dX11_account_5 (by decide) ?_
  refine lv_istore_n (lv' := [(2, .int 0), (0, .ref h0), (1, .int 1)]) hx hb dX11_account_6 rfl hl (by decide) rfl (fun ls hl => ?_)
  refine lv_iload_n hx hb dX11_account_7 rfl (lv_at hl 2 rfl) ?_
  refine lv_tableIn (tgt := 75) (off := 67) hx hb dX11_account_8 (by decide +kernel) (by decide +kernel) (by decide +kernel) (by decide) ?_
  refine lv_aload_n hx hb dX11_account_75 rfl (lv_at hl 1 rfl) ?_
  refine va_get (D := D) (ci := 14) (v := .ref h1) (own := RX11) (C := RX11) (T := TX11) (N := 25) hx hb hts hi_X11 hown hK hP 0 rfl rfl 0 (by decide) (hts (.fieldLink RX11 9 "CanalMapsModel" "now" "[I") (List.mem_of_getElem? (i := 2) (by decide +kernel))) (fun _ h9 => h9) rfl dX11_account_76 ?_
  refine lv_iconst (v := 0) hx hb dX11_account_79 (by decide) ?_
  refine va_iald hx hb hK hP 1 0 rfl rfl (vin_ (by decide +kernel)) dX11_account_80 ?_
  refine kt_ (v := 0) (by decide +kernel) ?_
  refine W.widen (k := 0) (n := 0) (Nat.le_of_ble_eq_true rfl) (Nat.le_of_ble_eq_true rfl) ?_
  exact W.iret (v := 0) hx hb hr (QG_.mk (fun _ => 0) (fun _ => 0) (fun _ => 0) [0, 1] [0] hP hD hK hS rfl trivial rfl (by decide) rfl) hS.2.2 dX11_account_81
set_option maxHeartbeats 4000000 in
set_option maxRecDepth 100000 in
theorem c_X10_account_2 (l : Launch) (hl0 : l.stackTraces = false) (D : va_G) (ad : Nat → Nat) (sz : Nat) (h0 : Nat) (h1 : Nat) (v0 : Value) (v1 : Value) (v2 : Value) (v3 : Value) (v4 : Value) (v5 : Value) (v6 : Value) (v7 : Value) (v8 : Value) (v9 : Value) (v10 : Value) (v11 : Value) (v12 : Value) (v13 : Value) (v14 : Value) (v15 : Value) (v16 : Value) (v17 : Value) : Met l yX10_account wsX10_account ({ frames := 1, cells := 0, slots := 0, locals := 24 }) (PC_ D ad [(h0, .inr (13, [.ref h1, v0, v1, v2, v3, v4, v5, v6, v7, v8])), (h1, .inr (11, [v9, v10, v11, v12, v13, .int 0, v14, v15, v16, v17]))] [] sz [.ref h0, .int 2]) (QG_ D (fun q i => some (.int 0)) (fun q i => True) (fun q k i => [(h0, .inr (13, [.ref h1, v0, v1, v2, v3, v4, v5, v6, v7, v8])), (h1, .inr (11, [v9, v10, v11, v12, v13, .int 0, v14, v15, v16, v17]))]) (fun q k i => []) (va_A [(h0, .inr (13, [.ref h1, v0, v1, v2, v3, v4, v5, v6, v7, v8])), (h1, .inr (11, [v9, v10, v11, v12, v13, .int 0, v14, v15, v16, v17]))] sz)) 0 0 (va_A [(h0, .inr (13, [.ref h1, v0, v1, v2, v3, v4, v5, v6, v7, v8])), (h1, .inr (11, [v9, v10, v11, v12, v13, .int 0, v14, v15, v16, v17]))] sz) := by
  refine Met.ofW (cc := cX10_account) (maxL := 2) (ret := (some .int)) (by decide) rfl ?_
  intro p e s m args below meth c s₁ B hml hv
  obtain ⟨rfl, hsz, hP, hK, hD0, hF⟩ := hv
  have hx := B.exec
  have hb := B.bytes
  have hr := B.returns
  have hts := atoms_spec (ws := wsX10_account) B.pre
  have hown : s.vm.findClass RX10 = some m.cls := findClass_of_methodNamed B.named
  have hlocks := B.notSynchronized
  subst hsz
  have hD := hD0.self (sz := s.heap.size)
  generalize hAe : va_A [(h0, .inr (13, [.ref h1, v0, v1, v2, v3, v4, v5, v6, v7, v8])), (h1, .inr (11, [v9, v10, v11, v12, v13, .int 0, v14, v15, v16, v17]))] s.heap.size = A at hD hF ⊢
  have hA : ∀ q : Nat, s.heap.size ≤ q → A q := fun q h => by rw [← hAe]; exact Or.inr h
  obtain ⟨H, hHe⟩ : ∃ H : Heap, H = s.heap := ⟨_, rfl⟩
  have hS : va_S A s.heap H [] := by rw [hHe]; exact va_S.rf
  have hP : va_P D vwCl [(h0, .inr (13, [.ref h1, v0, v1, v2, v3, v4, v5, v6, v7, v8])), (h1, .inr (11, [v9, v10, v11, v12, v13, .int 0, v14, v15, v16, v17]))] H := by rw [hHe]; exact hP
  rw [← hHe]
  have hi_X10 : ∀ w ∈ wsX100, w ∈ wsX10_account := by decide +kernel
  have hl := lv_entry [.ref h0, .int 2] (n := 2) (Nat.le_of_ble_eq_true rfl)
  rw [lg_entry_eq]
  generalize (lg_sl [.ref h0, .int 2] ++ List.replicate (2 - (lg_sl [.ref h0, .int 2]).length) Slot.unset).toArray = ls at hl ⊢
  have hl : lv_has ls 2 [(0, .ref h0), (1, .int 2)] := hl
  refine lv_iload_n hx hb dX10_account_0 rfl (lv_at hl 1 rfl) ?_
  refine lv_tableIn (tgt := 76) (off := 75) hx hb dX10_account_1 (by decide +kernel) (by decide +kernel) (by decide +kernel) (by decide) ?_
  refine lv_aload_n hx hb dX10_account_76 rfl (lv_at hl 0 rfl) ?_
  refine va_get (D := D) (ci := 13) (v := .ref h1) (own := RX10) (C := RX10) (T := TX10) (N := 10) hx hb hts hi_X10 hown hK hP 0 rfl rfl 0 (by decide) (hts (.fieldLink RX10 50 "CanalMaps" "now" "LCanalMaps$Survey;") (List.mem_of_getElem? (i := 3) (by decide +kernel))) (fun _ h9 => h9) rfl dX10_account_77 ?_
  refine kc_ (wc := [(h1, .inr (11, [v9, v10, v11, v12, v13, .int 0, v14, v15, v16, v17]))]) (wr := [(h0, .inr (13, [.ref h1, v0, v1, v2, v3, v4, v5, v6, v7, v8]))]) (va_runV (As := []) (rest := []) ⟨hx, hb, hml, hown, hts⟩ (c_X8_countCanals_0 l hl0 D ad H.size h1 (v9) (v10) (v11) (v12) (v13) (v14) (v15) (v16) (v17)) (cwV 0 hts gX10_account_X8_countCanals rfl rfl rfl (by decide +kernel) ⟨Nat.le_of_ble_eq_true rfl, Nat.le_of_ble_eq_true rfl⟩) ⟨PC_.blind, va_recv hK hP (ci := 11) (q0 := 1) rfl rfl, PC_.pre hF hK hP hD hS hA [1] [] rfl (by decide) rfl⟩ rfl rfl hl.1 rfl (lv_room (Nat.le_of_ble_eq_true rfl)) dX10_account_80 ⟨Nat.le_of_ble_eq_true rfl, Nat.le_of_ble_eq_true rfl⟩) hK hP hD hS hA [1] [0] [] rfl rfl (by decide) (by decide) rfl (fun qa_1 ka_1 ia_1 H locs hpo hP hD hK hS => ?_)
  have hP : va_P D vwCl [(h0, .inr (13, [.ref h1, v0, v1, v2, v3, v4, v5, v6, v7, v8])), (h1, .inr (11, [v9, v10, v11, v12, v13, .int 0, v14, v15, v16, v17]))] H := hP
  have hD : va_D A [(h0, .inr (13, [.ref h1, v0, v1, v2, v3, v4, v5, v6, v7, v8])), (h1, .inr (11, [v9, v10, v11, v12, v13, .int 0, v14, v15, v16, v17]))] := hD
  have hK : va_K D vwCl [] s := hK
  refine W.eq (g2 := F0 m 83 ls [.int 0]) rfl ?_
  refine W.widen (k := 0) (n := 0) (Nat.le_of_ble_eq_true rfl) (Nat.le_of_ble_eq_true rfl) ?_
  exact W.iret (v := 0) hx hb hr (QG_.mk (fun _ => 0) (fun _ => 0) (fun _ => 0) [0, 1] [] hP hD hK hS rfl trivial rfl (by decide) rfl) hS.2.2 dX10_account_83
set_option maxHeartbeats 4000000 in
set_option maxRecDepth 100000 in
theorem c_L_account_2 (l : Launch) (hl0 : l.stackTraces = false) (D : va_G) (ad : Nat → Nat) (sz : Nat) (h0 : Nat) (h1 : Nat) (h2 : Nat) (k2 : ClassId) (v0 : Value) (v1 : Value) (v2 : Value) (v3 : Value) (v4 : Value) (v5 : Value) (v6 : Value) (v7 : Value) (v8 : Value) (v9 : Value) (v10 : Value) (v11 : Value) (v12 : Value) (v13 : Value) (v14 : Value) (v15 : Value) (v16 : Value) (v17 : Value) (f0 : Nat → Int64) : Met l yL_account wsL_account ({ frames := 2, cells := 0, slots := 0, locals := 47 }) (PC_ D ad [(h0, .inr (13, [.ref h1, v0, v1, v2, v3, v4, v5, v6, v7, v8])), (h1, .inr (11, [v9, v10, v11, v12, v13, .int 0, v14, v15, v16, v17])), (h2, .inl (k2, 1, .inr (.inl f0)))] [(k2, .long)] sz [.ref h0, .int 2, .ref h2]) (QG_ D (fun q i => some (.int 0)) (fun q i => True) (fun q k i => [(h0, .inr (13, [.ref h1, v0, v1, v2, v3, v4, v5, v6, v7, v8])), (h1, .inr (11, [v9, v10, v11, v12, v13, .int 0, v14, v15, v16, v17])), (h2, .inl (k2, 1, .inr (.inl (vp_updL f0 0 0))))]) (fun q k i => [(k2, .long)]) (va_A [(h0, .inr (13, [.ref h1, v0, v1, v2, v3, v4, v5, v6, v7, v8])), (h1, .inr (11, [v9, v10, v11, v12, v13, .int 0, v14, v15, v16, v17])), (h2, .inl (k2, 1, .inr (.inl f0)))] sz)) 0 0 (va_A [(h0, .inr (13, [.ref h1, v0, v1, v2, v3, v4, v5, v6, v7, v8])), (h1, .inr (11, [v9, v10, v11, v12, v13, .int 0, v14, v15, v16, v17])), (h2, .inl (k2, 1, .inr (.inl f0)))] sz) := by
  refine va_MetW (cc := cL_account) (maxL := 4) (ret := (some .int)) (by decide) rfl ?_
  intro p e s m args below meth c s₁ B hml hv
  obtain ⟨rfl, hsz, hP, hK, hD0, hF⟩ := hv
  have hx := B.exec
  have hb := B.bytes
  have hr := B.returns
  have hts := atoms_spec (ws := wsL_account) B.pre
  have hown : s.vm.findClass RL = some m.cls := findClass_of_methodNamed B.named
  have hlocks := B.notSynchronized
  have htb := vx_table (x := yL_account) B (hts _ (List.mem_cons_self))
  subst hsz
  have hD := hD0.self (sz := s.heap.size)
  generalize hAe : va_A [(h0, .inr (13, [.ref h1, v0, v1, v2, v3, v4, v5, v6, v7, v8])), (h1, .inr (11, [v9, v10, v11, v12, v13, .int 0, v14, v15, v16, v17])), (h2, .inl (k2, 1, .inr (.inl f0)))] s.heap.size = A at hD hF ⊢
  have hA : ∀ q : Nat, s.heap.size ≤ q → A q := fun q h => by rw [← hAe]; exact Or.inr h
  obtain ⟨H, hHe⟩ : ∃ H : Heap, H = s.heap := ⟨_, rfl⟩
  have hS : va_S A s.heap H [] := by rw [hHe]; exact va_S.rf
  have hP : va_P D vwCl [(h0, .inr (13, [.ref h1, v0, v1, v2, v3, v4, v5, v6, v7, v8])), (h1, .inr (11, [v9, v10, v11, v12, v13, .int 0, v14, v15, v16, v17])), (h2, .inl (k2, 1, .inr (.inl f0)))] H := by rw [hHe]; exact hP
  rw [← hHe]
  have hl := lv_entry [.ref h0, .int 2, .ref h2] (n := 4) (Nat.le_of_ble_eq_true rfl)
  rw [lg_entry_eq]
  generalize (lg_sl [.ref h0, .int 2, .ref h2] ++ List.replicate (4 - (lg_sl [.ref h0, .int 2, .ref h2]).length) Slot.unset).toArray = ls at hl ⊢
  have hl : lv_has ls 4 [(0, .ref h0), (1, .int 2), (2, .ref h2)] := hl
  refine lv_aload_n hx hb dL_account_0 rfl (lv_at hl 2 rfl) ?_
  refine lv_iconst (v := 0) hx hb dL_account_1 (by decide) ?_
  refine lv_aload_n hx hb dL_account_2 rfl (lv_at hl 0 rfl) ?_
  refine lv_iload_n hx hb dL_account_3 rfl (lv_at hl 1 rfl) ?_
  refine kc_ (wc := [(h0, .inr (13, [.ref h1, v0, v1, v2, v3, v4, v5, v6, v7, v8])), (h1, .inr (11, [v9, v10, v11, v12, v13, .int 0, v14, v15, v16, v17]))]) (wr := [(h2, .inl (k2, 1, .inr (.inl f0)))]) (va_runV (As := [.int 2]) (rest := [.int 0, .ref h2]) ⟨hx, hb, hml, hown, hts⟩ (c_X10_account_2 l hl0 D ad H.size h0 h1 (v0) (v1) (v2) (v3) (v4) (v5) (v6) (v7) (v8) (v9) (v10) (v11) (v12) (v13) (v14) (v15) (v16) (v17)) (cwV 1 hts gL_account_X10_account rfl rfl rfl (by decide +kernel) ⟨Nat.le_of_ble_eq_true rfl, Nat.le_of_ble_eq_true rfl⟩) ⟨PC_.blind, va_recv hK hP (ci := 13) (q0 := 0) rfl rfl, PC_.pre hF hK hP hD hS hA [0, 1] [] rfl (by decide) rfl⟩ rfl rfl hl.1 rfl (lv_room (Nat.le_of_ble_eq_true rfl)) dL_account_4 ⟨Nat.le_of_ble_eq_true rfl, Nat.le_of_ble_eq_true rfl⟩) hK hP hD hS hA [0, 1] [2] [0] rfl rfl (by decide) (by decide) rfl (fun qa_1 ka_1 ia_1 H locs hpo hP hD hK hS => ?_)
  have hP : va_P D vwCl [(h2, .inl (k2, 1, .inr (.inl f0))), (h0, .inr (13, [.ref h1, v0, v1, v2, v3, v4, v5, v6, v7, v8])), (h1, .inr (11, [v9, v10, v11, v12, v13, .int 0, v14, v15, v16, v17]))] H := hP
  have hD : va_D A [(h2, .inl (k2, 1, .inr (.inl f0))), (h0, .inr (13, [.ref h1, v0, v1, v2, v3, v4, v5, v6, v7, v8])), (h1, .inr (11, [v9, v10, v11, v12, v13, .int 0, v14, v15, v16, v17]))] := hD
  have hK : va_K D vwCl [(k2, .long)] s := hK
  refine W.eq (g2 := F0 m 7 ls [.int 0, .int 0, .ref h2]) rfl ?_
  refine lv_i2l (v := 0) hx hb dL_account_7 (by decide +kernel) ?_
  refine ka_last (g := (vp_updL f0 0 0)) hx hb hK hP hD hS 0 0 rfl rfl (vin_ (by decide +kernel)) (congrArg (fun z9 => vp_updL _ z9 _) (by decide +kernel)) dL_account_8 (fun H locs hP hD hS => ?_)
  have hP : va_P D vwCl [(h2, .inl (k2, 1, .inr (.inl (vp_updL f0 0 0)))), (h0, .inr (13, [.ref h1, v0, v1, v2, v3, v4, v5, v6, v7, v8])), (h1, .inr (11, [v9, v10, v11, v12, v13, .int 0, v14, v15, v16, v17]))] H := hP
  have hD : va_D A [(h2, .inl (k2, 1, .inr (.inl (vp_updL f0 0 0)))), (h0, .inr (13, [.ref h1, v0, v1, v2, v3, v4, v5, v6, v7, v8])), (h1, .inr (11, [v9, v10, v11, v12, v13, .int 0, v14, v15, v16, v17]))] := hD
  refine lv_goto (tgt := 15) hx hb dL_account_9 (by decide) ?_
  refine lv_iconst (v := 0) hx hb dL_account_15 (by decide) ?_
  refine W.widen (k := 0) (n := 0) (Nat.le_of_ble_eq_true rfl) (Nat.le_of_ble_eq_true rfl) ?_
  exact W.iret (v := 0) hx hb hr (QG_.mk (fun _ => 0) (fun _ => 0) (fun _ => 0) [1, 2, 0] [0] hP hD hK hS rfl trivial rfl (by decide) rfl) hS.2.2 dL_account_16
set_option maxHeartbeats 4000000 in
set_option maxRecDepth 100000 in
theorem c_X11_account_2 (l : Launch) (hl0 : l.stackTraces = false) (D : va_G) (ad : Nat → Nat) (sz : Nat) (h0 : Nat) (h1 : Nat) (k1 : ClassId) (v0 : Value) (v1 : Value) (v2 : Value) (v3 : Value) (v4 : Value) (v5 : Value) (v6 : Value) (v7 : Value) (v8 : Value) (v9 : Value) (v10 : Value) (v11 : Value) (v12 : Value) (v13 : Value) (v14 : Value) (v15 : Value) (v16 : Value) (v17 : Value) (v18 : Value) (v19 : Value) (v20 : Value) (v21 : Value) (v22 : Value) (v23 : Value) : Met l yX11_account wsX11_account ({ frames := 1, cells := 0, slots := 0, locals := 26 }) (PC_ D ad [(h0, .inr (14, [.ref h1, v0, v1, v2, v3, v4, v5, v6, v7, v8, v9, v10, v11, v12, v13, v14, v15, v16, v17, v18, v19, v20, v21, v22, v23])), (h1, .inl (k1, 8277, .inl (fun _ => 0)))] [(k1, .int)] sz [.ref h0, .int 2]) (QG_ D (fun q i => some (.int 0)) (fun q i => True) (fun q k i => [(h0, .inr (14, [.ref h1, v0, v1, v2, v3, v4, v5, v6, v7, v8, v9, v10, v11, v12, v13, v14, v15, v16, v17, v18, v19, v20, v21, .int 0, v23])), (h1, .inl (k1, 8277, .inl (fun _ => 0)))]) (fun q k i => [(k1, .int)]) (va_A [(h0, .inr (14, [.ref h1, v0, v1, v2, v3, v4, v5, v6, v7, v8, v9, v10, v11, v12, v13, v14, v15, v16, v17, v18, v19, v20, v21, v22, v23])), (h1, .inl (k1, 8277, .inl (fun _ => 0)))] sz)) 0 0 (va_A [(h0, .inr (14, [.ref h1, v0, v1, v2, v3, v4, v5, v6, v7, v8, v9, v10, v11, v12, v13, v14, v15, v16, v17, v18, v19, v20, v21, v22, v23])), (h1, .inl (k1, 8277, .inl (fun _ => 0)))] sz) := by
  refine Met.ofW (cc := cX11_account) (maxL := 4) (ret := (some .int)) (by decide) rfl ?_
  intro p e s m args below meth c s₁ B hml hv
  obtain ⟨rfl, hsz, hP, hK, hD0, hF⟩ := hv
  have hx := B.exec
  have hb := B.bytes
  have hr := B.returns
  have hts := atoms_spec (ws := wsX11_account) B.pre
  have hown : s.vm.findClass RX11 = some m.cls := findClass_of_methodNamed B.named
  have hlocks := B.notSynchronized
  subst hsz
  have hD := hD0.self (sz := s.heap.size)
  generalize hAe : va_A [(h0, .inr (14, [.ref h1, v0, v1, v2, v3, v4, v5, v6, v7, v8, v9, v10, v11, v12, v13, v14, v15, v16, v17, v18, v19, v20, v21, v22, v23])), (h1, .inl (k1, 8277, .inl (fun _ => 0)))] s.heap.size = A at hD hF ⊢
  have hA : ∀ q : Nat, s.heap.size ≤ q → A q := fun q h => by rw [← hAe]; exact Or.inr h
  obtain ⟨H, hHe⟩ : ∃ H : Heap, H = s.heap := ⟨_, rfl⟩
  have hS : va_S A s.heap H [] := by rw [hHe]; exact va_S.rf
  have hP : va_P D vwCl [(h0, .inr (14, [.ref h1, v0, v1, v2, v3, v4, v5, v6, v7, v8, v9, v10, v11, v12, v13, v14, v15, v16, v17, v18, v19, v20, v21, v22, v23])), (h1, .inl (k1, 8277, .inl (fun _ => 0)))] H := by rw [hHe]; exact hP
  rw [← hHe]
  have hi_X11 : ∀ w ∈ wsX110, w ∈ wsX11_account := by decide +kernel
  have hl := lv_entry [.ref h0, .int 2] (n := 4) (Nat.le_of_ble_eq_true rfl)
  rw [lg_entry_eq]
  generalize (lg_sl [.ref h0, .int 2] ++ List.replicate (4 - (lg_sl [.ref h0, .int 2]).length) Slot.unset).toArray = ls at hl ⊢
  have hl : lv_has ls 4 [(0, .ref h0), (1, .int 2)] := hl
  refine lv_aload_n hx hb dX11_account_0 rfl (lv_at hl 0 rfl) ?_
  refine lv_iconst (v := 0) hx hb dX11_account_1 (by decide) ?_
  refine va_put (D := D) (ci := 14) (v := .int 0) (ty := .int) (own := RX11) (C := RX11) (T := TX11) (N := 25) hx hb hts hi_X11 tyX11 tyX11_ok nmX11 hown hK hP hD hS 0 rfl rfl 23 (by decide) (hts (.fieldLink RX11 47 "CanalMapsModel" "thrown" "I") (List.mem_of_getElem? (i := 1) (by decide +kernel))) (fun _ h9 => h9) rfl (by decide +kernel) rfl rfl (Nat.le_of_ble_eq_true rfl) dX11_account_2 (fun H locs hP hD hS => ?_)
  have hP : va_P D vwCl [(h0, .inr (14, [.ref h1, v0, v1, v2, v3, v4, v5, v6, v7, v8, v9, v10, v11, v12, v13, v14, v15, v16, v17, v18, v19, v20, v21, .int 0, v23])), (h1, .inl (k1, 8277, .inl (fun _ => 0)))] H := hP
  have hD : va_D A [(h0, .inr (14, [.ref h1, v0, v1, v2, v3, v4, v5, v6, v7, v8, v9, v10, v11, v12, v13, v14, v15, v16, v17, v18, v19, v20, v21, .int 0, v23])), (h1, .inl (k1, 8277, .inl (fun _ => 0)))] := hD
  refine lv_iconst (v := 0) hx hb dX11_account_5 (by decide) ?_
  refine lv_istore_n (lv' := [(2, .int 0), (0, .ref h0), (1, .int 2)]) hx hb dX11_account_6 rfl hl (by decide) rfl (fun ls hl => ?_)
  refine lv_iload_n hx hb dX11_account_7 rfl (lv_at hl 2 rfl) ?_
  refine lv_tableIn (tgt := 82) (off := 74) hx hb dX11_account_8 (by decide +kernel) (by decide +kernel) (by decide +kernel) (by decide) ?_
  refine lv_aload_n hx hb dX11_account_82 rfl (lv_at hl 1 rfl) ?_
  refine lv_iconst (v := 0) hx hb dX11_account_83 (by decide) ?_
  refine kc_ (wc := [(h0, .inr (14, [.ref h1, v0, v1, v2, v3, v4, v5, v6, v7, v8, v9, v10, v11, v12, v13, v14, v15, v16, v17, v18, v19, v20, v21, .int 0, v23])), (h1, .inl (k1, 8277, .inl (fun _ => 0)))]) (wr := []) (va_runV (As := [.int 0]) (rest := []) ⟨hx, hb, hml, hown, hts⟩ (c_X11_canals_0 l hl0 D ad H.size h0 h1 k1 (v0) (v1) (v2) (v3) (v4) (v5) (v6) (v7) (v8) (v9) (v10) (v11) (v12) (v13) (v14) (v15) (v16) (v17) (v18) (v19) (v20) (v21) (.int 0) (v23)) (cwV 1 hts gX11_account_X11_canals rfl rfl rfl (by decide +kernel) ⟨Nat.le_of_ble_eq_true rfl, Nat.le_of_ble_eq_true rfl⟩) ⟨PC_.blind, va_recv hK hP (ci := 14) (q0 := 0) rfl rfl, PC_.pre hF hK hP hD hS hA [0, 1] [0] rfl (by decide) rfl⟩ rfl rfl hl.1 rfl (lv_room (Nat.le_of_ble_eq_true rfl)) dX11_account_84 ⟨Nat.le_of_ble_eq_true rfl, Nat.le_of_ble_eq_true rfl⟩) hK hP hD hS hA [0, 1] [] [] rfl rfl (by decide) (by decide) rfl (fun qa_1 ka_1 ia_1 H locs hpo hP hD hK hS => ?_)
  have hP : va_P D vwCl [(h0, .inr (14, [.ref h1, v0, v1, v2, v3, v4, v5, v6, v7, v8, v9, v10, v11, v12, v13, v14, v15, v16, v17, v18, v19, v20, v21, .int 0, v23])), (h1, .inl (k1, 8277, .inl (fun _ => 0)))] H := hP
  have hD : va_D A [(h0, .inr (14, [.ref h1, v0, v1, v2, v3, v4, v5, v6, v7, v8, v9, v10, v11, v12, v13, v14, v15, v16, v17, v18, v19, v20, v21, .int 0, v23])), (h1, .inl (k1, 8277, .inl (fun _ => 0)))] := hD
  have hK : va_K D vwCl [(k1, .int)] s := hK
  refine W.eq (g2 := F0 m 87 ls [.int 0]) rfl ?_
  refine W.widen (k := 0) (n := 0) (Nat.le_of_ble_eq_true rfl) (Nat.le_of_ble_eq_true rfl) ?_
  exact W.iret (v := 0) hx hb hr (QG_.mk (fun _ => 0) (fun _ => 0) (fun _ => 0) [0, 1] [0] hP hD hK hS rfl trivial rfl (by decide) rfl) hS.2.2 dX11_account_87
set_option maxHeartbeats 4000000 in
set_option maxRecDepth 100000 in
theorem c_X10_account_3 (l : Launch) (hl0 : l.stackTraces = false) (D : va_G) (ad : Nat → Nat) (sz : Nat) (h0 : Nat) (h1 : Nat) (h2 : Nat) (v0 : Value) (v1 : Value) (v2 : Value) (v3 : Value) (v4 : Value) (v5 : Value) (v6 : Value) (v7 : Value) (v8 : Value) (v9 : Value) (v10 : Value) (v11 : Value) (v12 : Value) (v13 : Value) (v14 : Value) (v15 : Value) (v16 : Value) (v17 : Value) (v18 : Value) (v19 : Value) : Met l yX10_account wsX10_account ({ frames := 0, cells := 0, slots := 0, locals := 0 }) (PC_ D ad [(h0, .inr (13, [.ref h1, v0, v1, v2, v3, v4, v5, v6, v7, v8])), (h1, .inr (11, [v9, v10, v11, v12, .ref h2, v13, v14, v15, v16, v17])), (h2, .inr (8, [v18, .int 0, v19]))] [] sz [.ref h0, .int 3]) (QG_ D (fun q i => some (.int 0)) (fun q i => True) (fun q k i => [(h0, .inr (13, [.ref h1, v0, v1, v2, v3, v4, v5, v6, v7, v8])), (h1, .inr (11, [v9, v10, v11, v12, .ref h2, v13, v14, v15, v16, v17])), (h2, .inr (8, [v18, .int 0, v19]))]) (fun q k i => []) (va_A [(h0, .inr (13, [.ref h1, v0, v1, v2, v3, v4, v5, v6, v7, v8])), (h1, .inr (11, [v9, v10, v11, v12, .ref h2, v13, v14, v15, v16, v17])), (h2, .inr (8, [v18, .int 0, v19]))] sz)) 0 0 (va_A [(h0, .inr (13, [.ref h1, v0, v1, v2, v3, v4, v5, v6, v7, v8])), (h1, .inr (11, [v9, v10, v11, v12, .ref h2, v13, v14, v15, v16, v17])), (h2, .inr (8, [v18, .int 0, v19]))] sz) := by
  refine Met.ofW (cc := cX10_account) (maxL := 2) (ret := (some .int)) (by decide) rfl ?_
  intro p e s m args below meth c s₁ B hml hv
  obtain ⟨rfl, hsz, hP, hK, hD0, hF⟩ := hv
  have hx := B.exec
  have hb := B.bytes
  have hr := B.returns
  have hts := atoms_spec (ws := wsX10_account) B.pre
  have hown : s.vm.findClass RX10 = some m.cls := findClass_of_methodNamed B.named
  have hlocks := B.notSynchronized
  subst hsz
  have hD := hD0.self (sz := s.heap.size)
  generalize hAe : va_A [(h0, .inr (13, [.ref h1, v0, v1, v2, v3, v4, v5, v6, v7, v8])), (h1, .inr (11, [v9, v10, v11, v12, .ref h2, v13, v14, v15, v16, v17])), (h2, .inr (8, [v18, .int 0, v19]))] s.heap.size = A at hD hF ⊢
  have hA : ∀ q : Nat, s.heap.size ≤ q → A q := fun q h => by rw [← hAe]; exact Or.inr h
  obtain ⟨H, hHe⟩ : ∃ H : Heap, H = s.heap := ⟨_, rfl⟩
  have hS : va_S A s.heap H [] := by rw [hHe]; exact va_S.rf
  have hP : va_P D vwCl [(h0, .inr (13, [.ref h1, v0, v1, v2, v3, v4, v5, v6, v7, v8])), (h1, .inr (11, [v9, v10, v11, v12, .ref h2, v13, v14, v15, v16, v17])), (h2, .inr (8, [v18, .int 0, v19]))] H := by rw [hHe]; exact hP
  rw [← hHe]
  have hi_X10 : ∀ w ∈ wsX100, w ∈ wsX10_account := by decide +kernel
  have hi_X5 : ∀ w ∈ wsX50, w ∈ wsX10_account := by decide +kernel
  have hi_X8 : ∀ w ∈ wsX80, w ∈ wsX10_account := by decide +kernel
  have hl := lv_entry [.ref h0, .int 3] (n := 2) (Nat.le_of_ble_eq_true rfl)
  rw [lg_entry_eq]
  generalize (lg_sl [.ref h0, .int 3] ++ List.replicate (2 - (lg_sl [.ref h0, .int 3]).length) Slot.unset).toArray = ls at hl ⊢
  have hl : lv_has ls 2 [(0, .ref h0), (1, .int 3)] := hl
  refine lv_iload_n hx hb dX10_account_0 rfl (lv_at hl 1 rfl) ?_
  refine lv_tableIn (tgt := 84) (off := 83) hx hb dX10_account_1 (by decide +kernel) (by decide +kernel) (by decide +kernel) (by decide) ?_
  refine lv_aload_n hx hb dX10_account_84 rfl (lv_at hl 0 rfl) ?_
  refine va_get (D := D) (ci := 13) (v := .ref h1) (own := RX10) (C := RX10) (T := TX10) (N := 10) hx hb hts hi_X10 hown hK hP 0 rfl rfl 0 (by decide) (hts (.fieldLink RX10 50 "CanalMaps" "now" "LCanalMaps$Survey;") (List.mem_of_getElem? (i := 3) (by decide +kernel))) (fun _ h9 => h9) rfl dX10_account_85 ?_
  refine va_getN (D := D) (ci := 11) (v := .ref h2) (own := RX10) (C := RX8) (T := TX8) (N := 10) hx hb hts hi_X8 hown hK hP 1 rfl rfl 4 (by decide) (fxn_ hF (RX10, 140, "CanalMaps$Survey", "letters", "LCanalMaps$Letters;")) (fun _ h9 => h9) rfl dX10_account_88 ?_
  refine va_getN (D := D) (ci := 8) (v := .int 0) (own := RX10) (C := RX5) (T := TX5) (N := 3) hx hb hts hi_X5 hown hK hP 2 rfl rfl 1 (by decide) (fxn_ hF (RX10, 249, "CanalMaps$Letters", "count", "I")) (fun _ h9 => h9) rfl dX10_account_91 ?_
  refine W.widen (k := 0) (n := 0) (Nat.le_of_ble_eq_true rfl) (Nat.le_of_ble_eq_true rfl) ?_
  exact W.iret (v := 0) hx hb hr (QG_.mk (fun _ => 0) (fun _ => 0) (fun _ => 0) [0, 1, 2] [] hP hD hK hS rfl trivial rfl (by decide) rfl) hS.2.2 dX10_account_94
set_option maxHeartbeats 4000000 in
set_option maxRecDepth 100000 in
theorem c_L_account_3 (l : Launch) (hl0 : l.stackTraces = false) (D : va_G) (ad : Nat → Nat) (sz : Nat) (h0 : Nat) (h1 : Nat) (h2 : Nat) (h3 : Nat) (k3 : ClassId) (v0 : Value) (v1 : Value) (v2 : Value) (v3 : Value) (v4 : Value) (v5 : Value) (v6 : Value) (v7 : Value) (v8 : Value) (v9 : Value) (v10 : Value) (v11 : Value) (v12 : Value) (v13 : Value) (v14 : Value) (v15 : Value) (v16 : Value) (v17 : Value) (v18 : Value) (v19 : Value) (f0 : Nat → Int64) : Met l yL_account wsL_account ({ frames := 1, cells := 0, slots := 0, locals := 23 }) (PC_ D ad [(h0, .inr (13, [.ref h1, v0, v1, v2, v3, v4, v5, v6, v7, v8])), (h1, .inr (11, [v9, v10, v11, v12, .ref h2, v13, v14, v15, v16, v17])), (h2, .inr (8, [v18, .int 0, v19])), (h3, .inl (k3, 1, .inr (.inl f0)))] [(k3, .long)] sz [.ref h0, .int 3, .ref h3]) (QG_ D (fun q i => some (.int 0)) (fun q i => True) (fun q k i => [(h0, .inr (13, [.ref h1, v0, v1, v2, v3, v4, v5, v6, v7, v8])), (h1, .inr (11, [v9, v10, v11, v12, .ref h2, v13, v14, v15, v16, v17])), (h2, .inr (8, [v18, .int 0, v19])), (h3, .inl (k3, 1, .inr (.inl (vp_updL f0 0 0))))]) (fun q k i => [(k3, .long)]) (va_A [(h0, .inr (13, [.ref h1, v0, v1, v2, v3, v4, v5, v6, v7, v8])), (h1, .inr (11, [v9, v10, v11, v12, .ref h2, v13, v14, v15, v16, v17])), (h2, .inr (8, [v18, .int 0, v19])), (h3, .inl (k3, 1, .inr (.inl f0)))] sz)) 0 0 (va_A [(h0, .inr (13, [.ref h1, v0, v1, v2, v3, v4, v5, v6, v7, v8])), (h1, .inr (11, [v9, v10, v11, v12, .ref h2, v13, v14, v15, v16, v17])), (h2, .inr (8, [v18, .int 0, v19])), (h3, .inl (k3, 1, .inr (.inl f0)))] sz) := by
  refine va_MetW (cc := cL_account) (maxL := 4) (ret := (some .int)) (by decide) rfl ?_
  intro p e s m args below meth c s₁ B hml hv
  obtain ⟨rfl, hsz, hP, hK, hD0, hF⟩ := hv
  have hx := B.exec
  have hb := B.bytes
  have hr := B.returns
  have hts := atoms_spec (ws := wsL_account) B.pre
  have hown : s.vm.findClass RL = some m.cls := findClass_of_methodNamed B.named
  have hlocks := B.notSynchronized
  have htb := vx_table (x := yL_account) B (hts _ (List.mem_cons_self))
  subst hsz
  have hD := hD0.self (sz := s.heap.size)
  generalize hAe : va_A [(h0, .inr (13, [.ref h1, v0, v1, v2, v3, v4, v5, v6, v7, v8])), (h1, .inr (11, [v9, v10, v11, v12, .ref h2, v13, v14, v15, v16, v17])), (h2, .inr (8, [v18, .int 0, v19])), (h3, .inl (k3, 1, .inr (.inl f0)))] s.heap.size = A at hD hF ⊢
  have hA : ∀ q : Nat, s.heap.size ≤ q → A q := fun q h => by rw [← hAe]; exact Or.inr h
  obtain ⟨H, hHe⟩ : ∃ H : Heap, H = s.heap := ⟨_, rfl⟩
  have hS : va_S A s.heap H [] := by rw [hHe]; exact va_S.rf
  have hP : va_P D vwCl [(h0, .inr (13, [.ref h1, v0, v1, v2, v3, v4, v5, v6, v7, v8])), (h1, .inr (11, [v9, v10, v11, v12, .ref h2, v13, v14, v15, v16, v17])), (h2, .inr (8, [v18, .int 0, v19])), (h3, .inl (k3, 1, .inr (.inl f0)))] H := by rw [hHe]; exact hP
  rw [← hHe]
  have hl := lv_entry [.ref h0, .int 3, .ref h3] (n := 4) (Nat.le_of_ble_eq_true rfl)
  rw [lg_entry_eq]
  generalize (lg_sl [.ref h0, .int 3, .ref h3] ++ List.replicate (4 - (lg_sl [.ref h0, .int 3, .ref h3]).length) Slot.unset).toArray = ls at hl ⊢
  have hl : lv_has ls 4 [(0, .ref h0), (1, .int 3), (2, .ref h3)] := hl
  refine lv_aload_n hx hb dL_account_0 rfl (lv_at hl 2 rfl) ?_
  refine lv_iconst (v := 0) hx hb dL_account_1 (by decide) ?_
  refine lv_aload_n hx hb dL_account_2 rfl (lv_at hl 0 rfl) ?_
  refine lv_iload_n hx hb dL_account_3 rfl (lv_at hl 1 rfl) ?_
  refine kc_ (wc := [(h0, .inr (13, [.ref h1, v0, v1, v2, v3, v4, v5, v6, v7, v8])), (h1, .inr (11, [v9, v10, v11, v12, .ref h2, v13, v14, v15, v16, v17])), (h2, .inr (8, [v18, .int 0, v19]))]) (wr := [(h3, .inl (k3, 1, .inr (.inl f0)))]) (va_runV (As := [.int 3]) (rest := [.int 0, .ref h3]) ⟨hx, hb, hml, hown, hts⟩ (c_X10_account_3 l hl0 D ad H.size h0 h1 h2 (v0) (v1) (v2) (v3) (v4) (v5) (v6) (v7) (v8) (v9) (v10) (v11) (v12) (v13) (v14) (v15) (v16) (v17) (v18) (v19)) (cwV 1 hts gL_account_X10_account rfl rfl rfl (by decide +kernel) ⟨Nat.le_of_ble_eq_true rfl, Nat.le_of_ble_eq_true rfl⟩) ⟨PC_.blind, va_recv hK hP (ci := 13) (q0 := 0) rfl rfl, PC_.pre hF hK hP hD hS hA [0, 1, 2] [] rfl (by decide) rfl⟩ rfl rfl hl.1 rfl (lv_room (Nat.le_of_ble_eq_true rfl)) dL_account_4 ⟨Nat.le_of_ble_eq_true rfl, Nat.le_of_ble_eq_true rfl⟩) hK hP hD hS hA [0, 1, 2] [3] [0] rfl rfl (by decide) (by decide) rfl (fun qa_1 ka_1 ia_1 H locs hpo hP hD hK hS => ?_)
  have hP : va_P D vwCl [(h3, .inl (k3, 1, .inr (.inl f0))), (h0, .inr (13, [.ref h1, v0, v1, v2, v3, v4, v5, v6, v7, v8])), (h1, .inr (11, [v9, v10, v11, v12, .ref h2, v13, v14, v15, v16, v17])), (h2, .inr (8, [v18, .int 0, v19]))] H := hP
  have hD : va_D A [(h3, .inl (k3, 1, .inr (.inl f0))), (h0, .inr (13, [.ref h1, v0, v1, v2, v3, v4, v5, v6, v7, v8])), (h1, .inr (11, [v9, v10, v11, v12, .ref h2, v13, v14, v15, v16, v17])), (h2, .inr (8, [v18, .int 0, v19]))] := hD
  have hK : va_K D vwCl [(k3, .long)] s := hK
  refine W.eq (g2 := F0 m 7 ls [.int 0, .int 0, .ref h3]) rfl ?_
  refine lv_i2l (v := 0) hx hb dL_account_7 (by decide +kernel) ?_
  refine ka_last (g := (vp_updL f0 0 0)) hx hb hK hP hD hS 0 0 rfl rfl (vin_ (by decide +kernel)) (congrArg (fun z9 => vp_updL _ z9 _) (by decide +kernel)) dL_account_8 (fun H locs hP hD hS => ?_)
  have hP : va_P D vwCl [(h3, .inl (k3, 1, .inr (.inl (vp_updL f0 0 0)))), (h0, .inr (13, [.ref h1, v0, v1, v2, v3, v4, v5, v6, v7, v8])), (h1, .inr (11, [v9, v10, v11, v12, .ref h2, v13, v14, v15, v16, v17])), (h2, .inr (8, [v18, .int 0, v19]))] H := hP
  have hD : va_D A [(h3, .inl (k3, 1, .inr (.inl (vp_updL f0 0 0)))), (h0, .inr (13, [.ref h1, v0, v1, v2, v3, v4, v5, v6, v7, v8])), (h1, .inr (11, [v9, v10, v11, v12, .ref h2, v13, v14, v15, v16, v17])), (h2, .inr (8, [v18, .int 0, v19]))] := hD
  refine lv_goto (tgt := 15) hx hb dL_account_9 (by decide) ?_
  refine lv_iconst (v := 0) hx hb dL_account_15 (by decide) ?_
  refine W.widen (k := 0) (n := 0) (Nat.le_of_ble_eq_true rfl) (Nat.le_of_ble_eq_true rfl) ?_
  exact W.iret (v := 0) hx hb hr (QG_.mk (fun _ => 0) (fun _ => 0) (fun _ => 0) [1, 2, 3, 0] [0] hP hD hK hS rfl trivial rfl (by decide) rfl) hS.2.2 dL_account_16
set_option maxHeartbeats 4000000 in
set_option maxRecDepth 100000 in
theorem c_X11_account_3 (l : Launch) (hl0 : l.stackTraces = false) (D : va_G) (ad : Nat → Nat) (sz : Nat) (h0 : Nat) (h1 : Nat) (k1 : ClassId) (v0 : Value) (v1 : Value) (v2 : Value) (v3 : Value) (v4 : Value) (v5 : Value) (v6 : Value) (v7 : Value) (v8 : Value) (v9 : Value) (v10 : Value) (v11 : Value) (v12 : Value) (v13 : Value) (v14 : Value) (v15 : Value) (v16 : Value) (v17 : Value) (v18 : Value) (v19 : Value) (v20 : Value) (v21 : Value) (v22 : Value) (v23 : Value) : Met l yX11_account wsX11_account ({ frames := 0, cells := 0, slots := 0, locals := 0 }) (PC_ D ad [(h0, .inr (14, [.ref h1, v0, v1, v2, v3, v4, v5, v6, v7, v8, v9, v10, v11, v12, v13, v14, v15, v16, v17, v18, v19, v20, v21, v22, v23])), (h1, .inl (k1, 8277, .inl (fun _ => 0)))] [(k1, .int)] sz [.ref h0, .int 3]) (QG_ D (fun q i => some (.int 0)) (fun q i => True) (fun q k i => [(h0, .inr (14, [.ref h1, v0, v1, v2, v3, v4, v5, v6, v7, v8, v9, v10, v11, v12, v13, v14, v15, v16, v17, v18, v19, v20, v21, .int 0, v23])), (h1, .inl (k1, 8277, .inl (fun _ => 0)))]) (fun q k i => [(k1, .int)]) (va_A [(h0, .inr (14, [.ref h1, v0, v1, v2, v3, v4, v5, v6, v7, v8, v9, v10, v11, v12, v13, v14, v15, v16, v17, v18, v19, v20, v21, v22, v23])), (h1, .inl (k1, 8277, .inl (fun _ => 0)))] sz)) 0 0 (va_A [(h0, .inr (14, [.ref h1, v0, v1, v2, v3, v4, v5, v6, v7, v8, v9, v10, v11, v12, v13, v14, v15, v16, v17, v18, v19, v20, v21, v22, v23])), (h1, .inl (k1, 8277, .inl (fun _ => 0)))] sz) := by
  refine Met.ofW (cc := cX11_account) (maxL := 4) (ret := (some .int)) (by decide) rfl ?_
  intro p e s m args below meth c s₁ B hml hv
  obtain ⟨rfl, hsz, hP, hK, hD0, hF⟩ := hv
  have hx := B.exec
  have hb := B.bytes
  have hr := B.returns
  have hts := atoms_spec (ws := wsX11_account) B.pre
  have hown : s.vm.findClass RX11 = some m.cls := findClass_of_methodNamed B.named
  have hlocks := B.notSynchronized
  subst hsz
  have hD := hD0.self (sz := s.heap.size)
  generalize hAe : va_A [(h0, .inr (14, [.ref h1, v0, v1, v2, v3, v4, v5, v6, v7, v8, v9, v10, v11, v12, v13, v14, v15, v16, v17, v18, v19, v20, v21, v22, v23])), (h1, .inl (k1, 8277, .inl (fun _ => 0)))] s.heap.size = A at hD hF ⊢
  have hA : ∀ q : Nat, s.heap.size ≤ q → A q := fun q h => by rw [← hAe]; exact Or.inr h
  obtain ⟨H, hHe⟩ : ∃ H : Heap, H = s.heap := ⟨_, rfl⟩
  have hS : va_S A s.heap H [] := by rw [hHe]; exact va_S.rf
  have hP : va_P D vwCl [(h0, .inr (14, [.ref h1, v0, v1, v2, v3, v4, v5, v6, v7, v8, v9, v10, v11, v12, v13, v14, v15, v16, v17, v18, v19, v20, v21, v22, v23])), (h1, .inl (k1, 8277, .inl (fun _ => 0)))] H := by rw [hHe]; exact hP
  rw [← hHe]
  have hi_X11 : ∀ w ∈ wsX110, w ∈ wsX11_account := by decide +kernel
  have hl := lv_entry [.ref h0, .int 3] (n := 4) (Nat.le_of_ble_eq_true rfl)
  rw [lg_entry_eq]
  generalize (lg_sl [.ref h0, .int 3] ++ List.replicate (4 - (lg_sl [.ref h0, .int 3]).length) Slot.unset).toArray = ls at hl ⊢
  have hl : lv_has ls 4 [(0, .ref h0), (1, .int 3)] := hl
  refine lv_aload_n hx hb dX11_account_0 rfl (lv_at hl 0 rfl) ?_
  refine lv_iconst (v := 0) hx hb dX11_account_1 (by decide) ?_
  refine va_put (D := D) (ci := 14) (v := .int 0) (ty := .int) (own := RX11) (C := RX11) (T := TX11) (N := 25) hx hb hts hi_X11 tyX11 tyX11_ok nmX11 hown hK hP hD hS 0 rfl rfl 23 (by decide) (hts (.fieldLink RX11 47 "CanalMapsModel" "thrown" "I") (List.mem_of_getElem? (i := 1) (by decide +kernel))) (fun _ h9 => h9) rfl (by decide +kernel) rfl rfl (Nat.le_of_ble_eq_true rfl) dX11_account_2 (fun H locs hP hD hS => ?_)
  have hP : va_P D vwCl [(h0, .inr (14, [.ref h1, v0, v1, v2, v3, v4, v5, v6, v7, v8, v9, v10, v11, v12, v13, v14, v15, v16, v17, v18, v19, v20, v21, .int 0, v23])), (h1, .inl (k1, 8277, .inl (fun _ => 0)))] H := hP
  have hD : va_D A [(h0, .inr (14, [.ref h1, v0, v1, v2, v3, v4, v5, v6, v7, v8, v9, v10, v11, v12, v13, v14, v15, v16, v17, v18, v19, v20, v21, .int 0, v23])), (h1, .inl (k1, 8277, .inl (fun _ => 0)))] := hD
  refine lv_iconst (v := 0) hx hb dX11_account_5 (by decide) ?_
  refine lv_istore_n (lv' := [(2, .int 0), (0, .ref h0), (1, .int 3)]) hx hb dX11_account_6 rfl hl (by decide) rfl (fun ls hl => ?_)
  refine lv_iload_n hx hb dX11_account_7 rfl (lv_at hl 2 rfl) ?_
  refine lv_tableIn (tgt := 88) (off := 80) hx hb dX11_account_8 (by decide +kernel) (by decide +kernel) (by decide +kernel) (by decide) ?_
  refine lv_aload_n hx hb dX11_account_88 rfl (lv_at hl 1 rfl) ?_
  refine va_get (D := D) (ci := 14) (v := .ref h1) (own := RX11) (C := RX11) (T := TX11) (N := 25) hx hb hts hi_X11 hown hK hP 0 rfl rfl 0 (by decide) (hts (.fieldLink RX11 9 "CanalMapsModel" "now" "[I") (List.mem_of_getElem? (i := 2) (by decide +kernel))) (fun _ h9 => h9) rfl dX11_account_89 ?_
  refine lv_bipush (v := 84) hx hb dX11_account_92 (by decide) ?_
  refine va_iald hx hb hK hP 1 0 rfl rfl (vin_ (by decide +kernel)) dX11_account_94 ?_
  refine kt_ (v := 0) (by decide +kernel) ?_
  refine W.widen (k := 0) (n := 0) (Nat.le_of_ble_eq_true rfl) (Nat.le_of_ble_eq_true rfl) ?_
  exact W.iret (v := 0) hx hb hr (QG_.mk (fun _ => 0) (fun _ => 0) (fun _ => 0) [0, 1] [0] hP hD hK hS rfl trivial rfl (by decide) rfl) hS.2.2 dX11_account_95
set_option maxHeartbeats 4000000 in
set_option maxRecDepth 100000 in
theorem c_X10_account_4 (l : Launch) (hl0 : l.stackTraces = false) (D : va_G) (ad : Nat → Nat) (sz : Nat) (h0 : Nat) (h1 : Nat) (h2 : Nat) (v0 : Value) (v1 : Value) (v2 : Value) (v3 : Value) (v4 : Value) (v5 : Value) (v6 : Value) (v7 : Value) (v8 : Value) (v9 : Value) (v10 : Value) (v11 : Value) (v12 : Value) (v13 : Value) (v14 : Value) (v15 : Value) (v16 : Value) (v17 : Value) (v18 : Value) (v19 : Value) : Met l yX10_account wsX10_account ({ frames := 0, cells := 0, slots := 0, locals := 0 }) (PC_ D ad [(h0, .inr (13, [.ref h1, v0, v1, v2, v3, v4, v5, v6, v7, v8])), (h1, .inr (11, [v9, v10, v11, v12, .ref h2, v13, v14, v15, v16, v17])), (h2, .inr (8, [v18, v19, .int 0]))] [] sz [.ref h0, .int 4]) (QG_ D (fun q i => some (.int 0)) (fun q i => True) (fun q k i => [(h0, .inr (13, [.ref h1, v0, v1, v2, v3, v4, v5, v6, v7, v8])), (h1, .inr (11, [v9, v10, v11, v12, .ref h2, v13, v14, v15, v16, v17])), (h2, .inr (8, [v18, v19, .int 0]))]) (fun q k i => []) (va_A [(h0, .inr (13, [.ref h1, v0, v1, v2, v3, v4, v5, v6, v7, v8])), (h1, .inr (11, [v9, v10, v11, v12, .ref h2, v13, v14, v15, v16, v17])), (h2, .inr (8, [v18, v19, .int 0]))] sz)) 0 0 (va_A [(h0, .inr (13, [.ref h1, v0, v1, v2, v3, v4, v5, v6, v7, v8])), (h1, .inr (11, [v9, v10, v11, v12, .ref h2, v13, v14, v15, v16, v17])), (h2, .inr (8, [v18, v19, .int 0]))] sz) := by
  refine Met.ofW (cc := cX10_account) (maxL := 2) (ret := (some .int)) (by decide) rfl ?_
  intro p e s m args below meth c s₁ B hml hv
  obtain ⟨rfl, hsz, hP, hK, hD0, hF⟩ := hv
  have hx := B.exec
  have hb := B.bytes
  have hr := B.returns
  have hts := atoms_spec (ws := wsX10_account) B.pre
  have hown : s.vm.findClass RX10 = some m.cls := findClass_of_methodNamed B.named
  have hlocks := B.notSynchronized
  subst hsz
  have hD := hD0.self (sz := s.heap.size)
  generalize hAe : va_A [(h0, .inr (13, [.ref h1, v0, v1, v2, v3, v4, v5, v6, v7, v8])), (h1, .inr (11, [v9, v10, v11, v12, .ref h2, v13, v14, v15, v16, v17])), (h2, .inr (8, [v18, v19, .int 0]))] s.heap.size = A at hD hF ⊢
  have hA : ∀ q : Nat, s.heap.size ≤ q → A q := fun q h => by rw [← hAe]; exact Or.inr h
  obtain ⟨H, hHe⟩ : ∃ H : Heap, H = s.heap := ⟨_, rfl⟩
  have hS : va_S A s.heap H [] := by rw [hHe]; exact va_S.rf
  have hP : va_P D vwCl [(h0, .inr (13, [.ref h1, v0, v1, v2, v3, v4, v5, v6, v7, v8])), (h1, .inr (11, [v9, v10, v11, v12, .ref h2, v13, v14, v15, v16, v17])), (h2, .inr (8, [v18, v19, .int 0]))] H := by rw [hHe]; exact hP
  rw [← hHe]
  have hi_X10 : ∀ w ∈ wsX100, w ∈ wsX10_account := by decide +kernel
  have hi_X5 : ∀ w ∈ wsX50, w ∈ wsX10_account := by decide +kernel
  have hi_X8 : ∀ w ∈ wsX80, w ∈ wsX10_account := by decide +kernel
  have hl := lv_entry [.ref h0, .int 4] (n := 2) (Nat.le_of_ble_eq_true rfl)
  rw [lg_entry_eq]
  generalize (lg_sl [.ref h0, .int 4] ++ List.replicate (2 - (lg_sl [.ref h0, .int 4]).length) Slot.unset).toArray = ls at hl ⊢
  have hl : lv_has ls 2 [(0, .ref h0), (1, .int 4)] := hl
  refine lv_iload_n hx hb dX10_account_0 rfl (lv_at hl 1 rfl) ?_
  refine lv_tableIn (tgt := 95) (off := 94) hx hb dX10_account_1 (by decide +kernel) (by decide +kernel) (by decide +kernel) (by decide) ?_
  refine lv_aload_n hx hb dX10_account_95 rfl (lv_at hl 0 rfl) ?_
  refine va_get (D := D) (ci := 13) (v := .ref h1) (own := RX10) (C := RX10) (T := TX10) (N := 10) hx hb hts hi_X10 hown hK hP 0 rfl rfl 0 (by decide) (hts (.fieldLink RX10 50 "CanalMaps" "now" "LCanalMaps$Survey;") (List.mem_of_getElem? (i := 3) (by decide +kernel))) (fun _ h9 => h9) rfl dX10_account_96 ?_
  refine va_getN (D := D) (ci := 11) (v := .ref h2) (own := RX10) (C := RX8) (T := TX8) (N := 10) hx hb hts hi_X8 hown hK hP 1 rfl rfl 4 (by decide) (fxn_ hF (RX10, 140, "CanalMaps$Survey", "letters", "LCanalMaps$Letters;")) (fun _ h9 => h9) rfl dX10_account_99 ?_
  refine va_getN (D := D) (ci := 8) (v := .int 0) (own := RX10) (C := RX5) (T := TX5) (N := 3) hx hb hts hi_X5 hown hK hP 2 rfl rfl 2 (by decide) (fxn_ hF (RX10, 361, "CanalMaps$Letters", "sent", "I")) (fun _ h9 => h9) rfl dX10_account_102 ?_
  refine W.widen (k := 0) (n := 0) (Nat.le_of_ble_eq_true rfl) (Nat.le_of_ble_eq_true rfl) ?_
  exact W.iret (v := 0) hx hb hr (QG_.mk (fun _ => 0) (fun _ => 0) (fun _ => 0) [0, 1, 2] [] hP hD hK hS rfl trivial rfl (by decide) rfl) hS.2.2 dX10_account_105
set_option maxHeartbeats 4000000 in
set_option maxRecDepth 100000 in
theorem c_L_account_4 (l : Launch) (hl0 : l.stackTraces = false) (D : va_G) (ad : Nat → Nat) (sz : Nat) (h0 : Nat) (h1 : Nat) (h2 : Nat) (h3 : Nat) (k3 : ClassId) (v0 : Value) (v1 : Value) (v2 : Value) (v3 : Value) (v4 : Value) (v5 : Value) (v6 : Value) (v7 : Value) (v8 : Value) (v9 : Value) (v10 : Value) (v11 : Value) (v12 : Value) (v13 : Value) (v14 : Value) (v15 : Value) (v16 : Value) (v17 : Value) (v18 : Value) (v19 : Value) (f0 : Nat → Int64) : Met l yL_account wsL_account ({ frames := 1, cells := 0, slots := 0, locals := 23 }) (PC_ D ad [(h0, .inr (13, [.ref h1, v0, v1, v2, v3, v4, v5, v6, v7, v8])), (h1, .inr (11, [v9, v10, v11, v12, .ref h2, v13, v14, v15, v16, v17])), (h2, .inr (8, [v18, v19, .int 0])), (h3, .inl (k3, 1, .inr (.inl f0)))] [(k3, .long)] sz [.ref h0, .int 4, .ref h3]) (QG_ D (fun q i => some (.int 0)) (fun q i => True) (fun q k i => [(h0, .inr (13, [.ref h1, v0, v1, v2, v3, v4, v5, v6, v7, v8])), (h1, .inr (11, [v9, v10, v11, v12, .ref h2, v13, v14, v15, v16, v17])), (h2, .inr (8, [v18, v19, .int 0])), (h3, .inl (k3, 1, .inr (.inl (vp_updL f0 0 0))))]) (fun q k i => [(k3, .long)]) (va_A [(h0, .inr (13, [.ref h1, v0, v1, v2, v3, v4, v5, v6, v7, v8])), (h1, .inr (11, [v9, v10, v11, v12, .ref h2, v13, v14, v15, v16, v17])), (h2, .inr (8, [v18, v19, .int 0])), (h3, .inl (k3, 1, .inr (.inl f0)))] sz)) 0 0 (va_A [(h0, .inr (13, [.ref h1, v0, v1, v2, v3, v4, v5, v6, v7, v8])), (h1, .inr (11, [v9, v10, v11, v12, .ref h2, v13, v14, v15, v16, v17])), (h2, .inr (8, [v18, v19, .int 0])), (h3, .inl (k3, 1, .inr (.inl f0)))] sz) := by
  refine va_MetW (cc := cL_account) (maxL := 4) (ret := (some .int)) (by decide) rfl ?_
  intro p e s m args below meth c s₁ B hml hv
  obtain ⟨rfl, hsz, hP, hK, hD0, hF⟩ := hv
  have hx := B.exec
  have hb := B.bytes
  have hr := B.returns
  have hts := atoms_spec (ws := wsL_account) B.pre
  have hown : s.vm.findClass RL = some m.cls := findClass_of_methodNamed B.named
  have hlocks := B.notSynchronized
  have htb := vx_table (x := yL_account) B (hts _ (List.mem_cons_self))
  subst hsz
  have hD := hD0.self (sz := s.heap.size)
  generalize hAe : va_A [(h0, .inr (13, [.ref h1, v0, v1, v2, v3, v4, v5, v6, v7, v8])), (h1, .inr (11, [v9, v10, v11, v12, .ref h2, v13, v14, v15, v16, v17])), (h2, .inr (8, [v18, v19, .int 0])), (h3, .inl (k3, 1, .inr (.inl f0)))] s.heap.size = A at hD hF ⊢
  have hA : ∀ q : Nat, s.heap.size ≤ q → A q := fun q h => by rw [← hAe]; exact Or.inr h
  obtain ⟨H, hHe⟩ : ∃ H : Heap, H = s.heap := ⟨_, rfl⟩
  have hS : va_S A s.heap H [] := by rw [hHe]; exact va_S.rf
  have hP : va_P D vwCl [(h0, .inr (13, [.ref h1, v0, v1, v2, v3, v4, v5, v6, v7, v8])), (h1, .inr (11, [v9, v10, v11, v12, .ref h2, v13, v14, v15, v16, v17])), (h2, .inr (8, [v18, v19, .int 0])), (h3, .inl (k3, 1, .inr (.inl f0)))] H := by rw [hHe]; exact hP
  rw [← hHe]
  have hl := lv_entry [.ref h0, .int 4, .ref h3] (n := 4) (Nat.le_of_ble_eq_true rfl)
  rw [lg_entry_eq]
  generalize (lg_sl [.ref h0, .int 4, .ref h3] ++ List.replicate (4 - (lg_sl [.ref h0, .int 4, .ref h3]).length) Slot.unset).toArray = ls at hl ⊢
  have hl : lv_has ls 4 [(0, .ref h0), (1, .int 4), (2, .ref h3)] := hl
  refine lv_aload_n hx hb dL_account_0 rfl (lv_at hl 2 rfl) ?_
  refine lv_iconst (v := 0) hx hb dL_account_1 (by decide) ?_
  refine lv_aload_n hx hb dL_account_2 rfl (lv_at hl 0 rfl) ?_
  refine lv_iload_n hx hb dL_account_3 rfl (lv_at hl 1 rfl) ?_
  refine kc_ (wc := [(h0, .inr (13, [.ref h1, v0, v1, v2, v3, v4, v5, v6, v7, v8])), (h1, .inr (11, [v9, v10, v11, v12, .ref h2, v13, v14, v15, v16, v17])), (h2, .inr (8, [v18, v19, .int 0]))]) (wr := [(h3, .inl (k3, 1, .inr (.inl f0)))]) (va_runV (As := [.int 4]) (rest := [.int 0, .ref h3]) ⟨hx, hb, hml, hown, hts⟩ (c_X10_account_4 l hl0 D ad H.size h0 h1 h2 (v0) (v1) (v2) (v3) (v4) (v5) (v6) (v7) (v8) (v9) (v10) (v11) (v12) (v13) (v14) (v15) (v16) (v17) (v18) (v19)) (cwV 1 hts gL_account_X10_account rfl rfl rfl (by decide +kernel) ⟨Nat.le_of_ble_eq_true rfl, Nat.le_of_ble_eq_true rfl⟩) ⟨PC_.blind, va_recv hK hP (ci := 13) (q0 := 0) rfl rfl, PC_.pre hF hK hP hD hS hA [0, 1, 2] [] rfl (by decide) rfl⟩ rfl rfl hl.1 rfl (lv_room (Nat.le_of_ble_eq_true rfl)) dL_account_4 ⟨Nat.le_of_ble_eq_true rfl, Nat.le_of_ble_eq_true rfl⟩) hK hP hD hS hA [0, 1, 2] [3] [0] rfl rfl (by decide) (by decide) rfl (fun qa_1 ka_1 ia_1 H locs hpo hP hD hK hS => ?_)
  have hP : va_P D vwCl [(h3, .inl (k3, 1, .inr (.inl f0))), (h0, .inr (13, [.ref h1, v0, v1, v2, v3, v4, v5, v6, v7, v8])), (h1, .inr (11, [v9, v10, v11, v12, .ref h2, v13, v14, v15, v16, v17])), (h2, .inr (8, [v18, v19, .int 0]))] H := hP
  have hD : va_D A [(h3, .inl (k3, 1, .inr (.inl f0))), (h0, .inr (13, [.ref h1, v0, v1, v2, v3, v4, v5, v6, v7, v8])), (h1, .inr (11, [v9, v10, v11, v12, .ref h2, v13, v14, v15, v16, v17])), (h2, .inr (8, [v18, v19, .int 0]))] := hD
  have hK : va_K D vwCl [(k3, .long)] s := hK
  refine W.eq (g2 := F0 m 7 ls [.int 0, .int 0, .ref h3]) rfl ?_
  refine lv_i2l (v := 0) hx hb dL_account_7 (by decide +kernel) ?_
  refine ka_last (g := (vp_updL f0 0 0)) hx hb hK hP hD hS 0 0 rfl rfl (vin_ (by decide +kernel)) (congrArg (fun z9 => vp_updL _ z9 _) (by decide +kernel)) dL_account_8 (fun H locs hP hD hS => ?_)
  have hP : va_P D vwCl [(h3, .inl (k3, 1, .inr (.inl (vp_updL f0 0 0)))), (h0, .inr (13, [.ref h1, v0, v1, v2, v3, v4, v5, v6, v7, v8])), (h1, .inr (11, [v9, v10, v11, v12, .ref h2, v13, v14, v15, v16, v17])), (h2, .inr (8, [v18, v19, .int 0]))] H := hP
  have hD : va_D A [(h3, .inl (k3, 1, .inr (.inl (vp_updL f0 0 0)))), (h0, .inr (13, [.ref h1, v0, v1, v2, v3, v4, v5, v6, v7, v8])), (h1, .inr (11, [v9, v10, v11, v12, .ref h2, v13, v14, v15, v16, v17])), (h2, .inr (8, [v18, v19, .int 0]))] := hD
  refine lv_goto (tgt := 15) hx hb dL_account_9 (by decide) ?_
  refine lv_iconst (v := 0) hx hb dL_account_15 (by decide) ?_
  refine W.widen (k := 0) (n := 0) (Nat.le_of_ble_eq_true rfl) (Nat.le_of_ble_eq_true rfl) ?_
  exact W.iret (v := 0) hx hb hr (QG_.mk (fun _ => 0) (fun _ => 0) (fun _ => 0) [1, 2, 3, 0] [0] hP hD hK hS rfl trivial rfl (by decide) rfl) hS.2.2 dL_account_16
set_option maxHeartbeats 4000000 in
set_option maxRecDepth 100000 in
theorem c_X11_account_4 (l : Launch) (hl0 : l.stackTraces = false) (D : va_G) (ad : Nat → Nat) (sz : Nat) (h0 : Nat) (h1 : Nat) (k1 : ClassId) (v0 : Value) (v1 : Value) (v2 : Value) (v3 : Value) (v4 : Value) (v5 : Value) (v6 : Value) (v7 : Value) (v8 : Value) (v9 : Value) (v10 : Value) (v11 : Value) (v12 : Value) (v13 : Value) (v14 : Value) (v15 : Value) (v16 : Value) (v17 : Value) (v18 : Value) (v19 : Value) (v20 : Value) (v21 : Value) (v22 : Value) (v23 : Value) : Met l yX11_account wsX11_account ({ frames := 0, cells := 0, slots := 0, locals := 0 }) (PC_ D ad [(h0, .inr (14, [.ref h1, v0, v1, v2, v3, v4, v5, v6, v7, v8, v9, v10, v11, v12, v13, v14, v15, v16, v17, v18, v19, v20, v21, v22, v23])), (h1, .inl (k1, 8277, .inl (fun _ => 0)))] [(k1, .int)] sz [.ref h0, .int 4]) (QG_ D (fun q i => some (.int 0)) (fun q i => True) (fun q k i => [(h0, .inr (14, [.ref h1, v0, v1, v2, v3, v4, v5, v6, v7, v8, v9, v10, v11, v12, v13, v14, v15, v16, v17, v18, v19, v20, v21, .int 0, v23])), (h1, .inl (k1, 8277, .inl (fun _ => 0)))]) (fun q k i => [(k1, .int)]) (va_A [(h0, .inr (14, [.ref h1, v0, v1, v2, v3, v4, v5, v6, v7, v8, v9, v10, v11, v12, v13, v14, v15, v16, v17, v18, v19, v20, v21, v22, v23])), (h1, .inl (k1, 8277, .inl (fun _ => 0)))] sz)) 0 0 (va_A [(h0, .inr (14, [.ref h1, v0, v1, v2, v3, v4, v5, v6, v7, v8, v9, v10, v11, v12, v13, v14, v15, v16, v17, v18, v19, v20, v21, v22, v23])), (h1, .inl (k1, 8277, .inl (fun _ => 0)))] sz) := by
  refine Met.ofW (cc := cX11_account) (maxL := 4) (ret := (some .int)) (by decide) rfl ?_
  intro p e s m args below meth c s₁ B hml hv
  obtain ⟨rfl, hsz, hP, hK, hD0, hF⟩ := hv
  have hx := B.exec
  have hb := B.bytes
  have hr := B.returns
  have hts := atoms_spec (ws := wsX11_account) B.pre
  have hown : s.vm.findClass RX11 = some m.cls := findClass_of_methodNamed B.named
  have hlocks := B.notSynchronized
  subst hsz
  have hD := hD0.self (sz := s.heap.size)
  generalize hAe : va_A [(h0, .inr (14, [.ref h1, v0, v1, v2, v3, v4, v5, v6, v7, v8, v9, v10, v11, v12, v13, v14, v15, v16, v17, v18, v19, v20, v21, v22, v23])), (h1, .inl (k1, 8277, .inl (fun _ => 0)))] s.heap.size = A at hD hF ⊢
  have hA : ∀ q : Nat, s.heap.size ≤ q → A q := fun q h => by rw [← hAe]; exact Or.inr h
  obtain ⟨H, hHe⟩ : ∃ H : Heap, H = s.heap := ⟨_, rfl⟩
  have hS : va_S A s.heap H [] := by rw [hHe]; exact va_S.rf
  have hP : va_P D vwCl [(h0, .inr (14, [.ref h1, v0, v1, v2, v3, v4, v5, v6, v7, v8, v9, v10, v11, v12, v13, v14, v15, v16, v17, v18, v19, v20, v21, v22, v23])), (h1, .inl (k1, 8277, .inl (fun _ => 0)))] H := by rw [hHe]; exact hP
  rw [← hHe]
  have hi_X11 : ∀ w ∈ wsX110, w ∈ wsX11_account := by decide +kernel
  have hl := lv_entry [.ref h0, .int 4] (n := 4) (Nat.le_of_ble_eq_true rfl)
  rw [lg_entry_eq]
  generalize (lg_sl [.ref h0, .int 4] ++ List.replicate (4 - (lg_sl [.ref h0, .int 4]).length) Slot.unset).toArray = ls at hl ⊢
  have hl : lv_has ls 4 [(0, .ref h0), (1, .int 4)] := hl
  refine lv_aload_n hx hb dX11_account_0 rfl (lv_at hl 0 rfl) ?_
  refine lv_iconst (v := 0) hx hb dX11_account_1 (by decide) ?_
  refine va_put (D := D) (ci := 14) (v := .int 0) (ty := .int) (own := RX11) (C := RX11) (T := TX11) (N := 25) hx hb hts hi_X11 tyX11 tyX11_ok nmX11 hown hK hP hD hS 0 rfl rfl 23 (by decide) (hts (.fieldLink RX11 47 "CanalMapsModel" "thrown" "I") (List.mem_of_getElem? (i := 1) (by decide +kernel))) (fun _ h9 => h9) rfl (by decide +kernel) rfl rfl (Nat.le_of_ble_eq_true rfl) dX11_account_2 (fun H locs hP hD hS => ?_)
  have hP : va_P D vwCl [(h0, .inr (14, [.ref h1, v0, v1, v2, v3, v4, v5, v6, v7, v8, v9, v10, v11, v12, v13, v14, v15, v16, v17, v18, v19, v20, v21, .int 0, v23])), (h1, .inl (k1, 8277, .inl (fun _ => 0)))] H := hP
  have hD : va_D A [(h0, .inr (14, [.ref h1, v0, v1, v2, v3, v4, v5, v6, v7, v8, v9, v10, v11, v12, v13, v14, v15, v16, v17, v18, v19, v20, v21, .int 0, v23])), (h1, .inl (k1, 8277, .inl (fun _ => 0)))] := hD
  refine lv_iconst (v := 0) hx hb dX11_account_5 (by decide) ?_
  refine lv_istore_n (lv' := [(2, .int 0), (0, .ref h0), (1, .int 4)]) hx hb dX11_account_6 rfl hl (by decide) rfl (fun ls hl => ?_)
  refine lv_iload_n hx hb dX11_account_7 rfl (lv_at hl 2 rfl) ?_
  refine lv_tableIn (tgt := 96) (off := 88) hx hb dX11_account_8 (by decide +kernel) (by decide +kernel) (by decide +kernel) (by decide) ?_
  refine lv_aload_n hx hb dX11_account_96 rfl (lv_at hl 1 rfl) ?_
  refine va_get (D := D) (ci := 14) (v := .ref h1) (own := RX11) (C := RX11) (T := TX11) (N := 25) hx hb hts hi_X11 hown hK hP 0 rfl rfl 0 (by decide) (hts (.fieldLink RX11 9 "CanalMapsModel" "now" "[I") (List.mem_of_getElem? (i := 2) (by decide +kernel))) (fun _ h9 => h9) rfl dX11_account_97 ?_
  refine lv_iconst (v := 2) hx hb dX11_account_100 (by decide) ?_
  refine va_iald hx hb hK hP 1 0 rfl rfl (vin_ (by decide +kernel)) dX11_account_101 ?_
  refine kt_ (v := 0) (by decide +kernel) ?_
  refine W.widen (k := 0) (n := 0) (Nat.le_of_ble_eq_true rfl) (Nat.le_of_ble_eq_true rfl) ?_
  exact W.iret (v := 0) hx hb hr (QG_.mk (fun _ => 0) (fun _ => 0) (fun _ => 0) [0, 1] [0] hP hD hK hS rfl trivial rfl (by decide) rfl) hS.2.2 dX11_account_102
set_option maxHeartbeats 4000000 in
set_option maxRecDepth 100000 in
theorem c_X10_account_5 (l : Launch) (hl0 : l.stackTraces = false) (D : va_G) (ad : Nat → Nat) (sz : Nat) (h0 : Nat) (h1 : Nat) (v0 : Value) (v1 : Value) (v2 : Value) (v3 : Value) (v4 : Value) (v5 : Value) (v6 : Value) (v7 : Value) (v8 : Value) (v9 : Value) (v10 : Value) (v11 : Value) (v12 : Value) (v13 : Value) (v14 : Value) (v15 : Value) (v16 : Value) (v17 : Value) : Met l yX10_account wsX10_account ({ frames := 0, cells := 0, slots := 0, locals := 0 }) (PC_ D ad [(h0, .inr (13, [.ref h1, v0, v1, v2, v3, v4, v5, v6, v7, v8])), (h1, .inr (11, [v9, v10, v11, v12, v13, v14, v15, .int 0, v16, v17]))] [] sz [.ref h0, .int 5]) (QG_ D (fun q i => some (.int 0)) (fun q i => True) (fun q k i => [(h0, .inr (13, [.ref h1, v0, v1, v2, v3, v4, v5, v6, v7, v8])), (h1, .inr (11, [v9, v10, v11, v12, v13, v14, v15, .int 0, v16, v17]))]) (fun q k i => []) (va_A [(h0, .inr (13, [.ref h1, v0, v1, v2, v3, v4, v5, v6, v7, v8])), (h1, .inr (11, [v9, v10, v11, v12, v13, v14, v15, .int 0, v16, v17]))] sz)) 0 0 (va_A [(h0, .inr (13, [.ref h1, v0, v1, v2, v3, v4, v5, v6, v7, v8])), (h1, .inr (11, [v9, v10, v11, v12, v13, v14, v15, .int 0, v16, v17]))] sz) := by
  refine Met.ofW (cc := cX10_account) (maxL := 2) (ret := (some .int)) (by decide) rfl ?_
  intro p e s m args below meth c s₁ B hml hv
  obtain ⟨rfl, hsz, hP, hK, hD0, hF⟩ := hv
  have hx := B.exec
  have hb := B.bytes
  have hr := B.returns
  have hts := atoms_spec (ws := wsX10_account) B.pre
  have hown : s.vm.findClass RX10 = some m.cls := findClass_of_methodNamed B.named
  have hlocks := B.notSynchronized
  subst hsz
  have hD := hD0.self (sz := s.heap.size)
  generalize hAe : va_A [(h0, .inr (13, [.ref h1, v0, v1, v2, v3, v4, v5, v6, v7, v8])), (h1, .inr (11, [v9, v10, v11, v12, v13, v14, v15, .int 0, v16, v17]))] s.heap.size = A at hD hF ⊢
  have hA : ∀ q : Nat, s.heap.size ≤ q → A q := fun q h => by rw [← hAe]; exact Or.inr h
  obtain ⟨H, hHe⟩ : ∃ H : Heap, H = s.heap := ⟨_, rfl⟩
  have hS : va_S A s.heap H [] := by rw [hHe]; exact va_S.rf
  have hP : va_P D vwCl [(h0, .inr (13, [.ref h1, v0, v1, v2, v3, v4, v5, v6, v7, v8])), (h1, .inr (11, [v9, v10, v11, v12, v13, v14, v15, .int 0, v16, v17]))] H := by rw [hHe]; exact hP
  rw [← hHe]
  have hi_X10 : ∀ w ∈ wsX100, w ∈ wsX10_account := by decide +kernel
  have hi_X8 : ∀ w ∈ wsX80, w ∈ wsX10_account := by decide +kernel
  have hl := lv_entry [.ref h0, .int 5] (n := 2) (Nat.le_of_ble_eq_true rfl)
  rw [lg_entry_eq]
  generalize (lg_sl [.ref h0, .int 5] ++ List.replicate (2 - (lg_sl [.ref h0, .int 5]).length) Slot.unset).toArray = ls at hl ⊢
  have hl : lv_has ls 2 [(0, .ref h0), (1, .int 5)] := hl
  refine lv_iload_n hx hb dX10_account_0 rfl (lv_at hl 1 rfl) ?_
  refine lv_tableIn (tgt := 106) (off := 105) hx hb dX10_account_1 (by decide +kernel) (by decide +kernel) (by decide +kernel) (by decide) ?_
  refine lv_aload_n hx hb dX10_account_106 rfl (lv_at hl 0 rfl) ?_
  refine va_get (D := D) (ci := 13) (v := .ref h1) (own := RX10) (C := RX10) (T := TX10) (N := 10) hx hb hts hi_X10 hown hK hP 0 rfl rfl 0 (by decide) (hts (.fieldLink RX10 50 "CanalMaps" "now" "LCanalMaps$Survey;") (List.mem_of_getElem? (i := 3) (by decide +kernel))) (fun _ h9 => h9) rfl dX10_account_107 ?_
  refine va_getN (D := D) (ci := 11) (v := .int 0) (own := RX10) (C := RX8) (T := TX8) (N := 10) hx hb hts hi_X8 hown hK hP 1 rfl rfl 7 (by decide) (fxn_ hF (RX10, 372, "CanalMaps$Survey", "arrived", "I")) (fun _ h9 => h9) rfl dX10_account_110 ?_
  refine W.widen (k := 0) (n := 0) (Nat.le_of_ble_eq_true rfl) (Nat.le_of_ble_eq_true rfl) ?_
  exact W.iret (v := 0) hx hb hr (QG_.mk (fun _ => 0) (fun _ => 0) (fun _ => 0) [0, 1] [] hP hD hK hS rfl trivial rfl (by decide) rfl) hS.2.2 dX10_account_113
set_option maxHeartbeats 4000000 in
set_option maxRecDepth 100000 in
theorem c_L_account_5 (l : Launch) (hl0 : l.stackTraces = false) (D : va_G) (ad : Nat → Nat) (sz : Nat) (h0 : Nat) (h1 : Nat) (h2 : Nat) (k2 : ClassId) (v0 : Value) (v1 : Value) (v2 : Value) (v3 : Value) (v4 : Value) (v5 : Value) (v6 : Value) (v7 : Value) (v8 : Value) (v9 : Value) (v10 : Value) (v11 : Value) (v12 : Value) (v13 : Value) (v14 : Value) (v15 : Value) (v16 : Value) (v17 : Value) (f0 : Nat → Int64) : Met l yL_account wsL_account ({ frames := 1, cells := 0, slots := 0, locals := 23 }) (PC_ D ad [(h0, .inr (13, [.ref h1, v0, v1, v2, v3, v4, v5, v6, v7, v8])), (h1, .inr (11, [v9, v10, v11, v12, v13, v14, v15, .int 0, v16, v17])), (h2, .inl (k2, 1, .inr (.inl f0)))] [(k2, .long)] sz [.ref h0, .int 5, .ref h2]) (QG_ D (fun q i => some (.int 0)) (fun q i => True) (fun q k i => [(h0, .inr (13, [.ref h1, v0, v1, v2, v3, v4, v5, v6, v7, v8])), (h1, .inr (11, [v9, v10, v11, v12, v13, v14, v15, .int 0, v16, v17])), (h2, .inl (k2, 1, .inr (.inl (vp_updL f0 0 0))))]) (fun q k i => [(k2, .long)]) (va_A [(h0, .inr (13, [.ref h1, v0, v1, v2, v3, v4, v5, v6, v7, v8])), (h1, .inr (11, [v9, v10, v11, v12, v13, v14, v15, .int 0, v16, v17])), (h2, .inl (k2, 1, .inr (.inl f0)))] sz)) 0 0 (va_A [(h0, .inr (13, [.ref h1, v0, v1, v2, v3, v4, v5, v6, v7, v8])), (h1, .inr (11, [v9, v10, v11, v12, v13, v14, v15, .int 0, v16, v17])), (h2, .inl (k2, 1, .inr (.inl f0)))] sz) := by
  refine va_MetW (cc := cL_account) (maxL := 4) (ret := (some .int)) (by decide) rfl ?_
  intro p e s m args below meth c s₁ B hml hv
  obtain ⟨rfl, hsz, hP, hK, hD0, hF⟩ := hv
  have hx := B.exec
  have hb := B.bytes
  have hr := B.returns
  have hts := atoms_spec (ws := wsL_account) B.pre
  have hown : s.vm.findClass RL = some m.cls := findClass_of_methodNamed B.named
  have hlocks := B.notSynchronized
  have htb := vx_table (x := yL_account) B (hts _ (List.mem_cons_self))
  subst hsz
  have hD := hD0.self (sz := s.heap.size)
  generalize hAe : va_A [(h0, .inr (13, [.ref h1, v0, v1, v2, v3, v4, v5, v6, v7, v8])), (h1, .inr (11, [v9, v10, v11, v12, v13, v14, v15, .int 0, v16, v17])), (h2, .inl (k2, 1, .inr (.inl f0)))] s.heap.size = A at hD hF ⊢
  have hA : ∀ q : Nat, s.heap.size ≤ q → A q := fun q h => by rw [← hAe]; exact Or.inr h
  obtain ⟨H, hHe⟩ : ∃ H : Heap, H = s.heap := ⟨_, rfl⟩
  have hS : va_S A s.heap H [] := by rw [hHe]; exact va_S.rf
  have hP : va_P D vwCl [(h0, .inr (13, [.ref h1, v0, v1, v2, v3, v4, v5, v6, v7, v8])), (h1, .inr (11, [v9, v10, v11, v12, v13, v14, v15, .int 0, v16, v17])), (h2, .inl (k2, 1, .inr (.inl f0)))] H := by rw [hHe]; exact hP
  rw [← hHe]
  have hl := lv_entry [.ref h0, .int 5, .ref h2] (n := 4) (Nat.le_of_ble_eq_true rfl)
  rw [lg_entry_eq]
  generalize (lg_sl [.ref h0, .int 5, .ref h2] ++ List.replicate (4 - (lg_sl [.ref h0, .int 5, .ref h2]).length) Slot.unset).toArray = ls at hl ⊢
  have hl : lv_has ls 4 [(0, .ref h0), (1, .int 5), (2, .ref h2)] := hl
  refine lv_aload_n hx hb dL_account_0 rfl (lv_at hl 2 rfl) ?_
  refine lv_iconst (v := 0) hx hb dL_account_1 (by decide) ?_
  refine lv_aload_n hx hb dL_account_2 rfl (lv_at hl 0 rfl) ?_
  refine lv_iload_n hx hb dL_account_3 rfl (lv_at hl 1 rfl) ?_
  refine kc_ (wc := [(h0, .inr (13, [.ref h1, v0, v1, v2, v3, v4, v5, v6, v7, v8])), (h1, .inr (11, [v9, v10, v11, v12, v13, v14, v15, .int 0, v16, v17]))]) (wr := [(h2, .inl (k2, 1, .inr (.inl f0)))]) (va_runV (As := [.int 5]) (rest := [.int 0, .ref h2]) ⟨hx, hb, hml, hown, hts⟩ (c_X10_account_5 l hl0 D ad H.size h0 h1 (v0) (v1) (v2) (v3) (v4) (v5) (v6) (v7) (v8) (v9) (v10) (v11) (v12) (v13) (v14) (v15) (v16) (v17)) (cwV 1 hts gL_account_X10_account rfl rfl rfl (by decide +kernel) ⟨Nat.le_of_ble_eq_true rfl, Nat.le_of_ble_eq_true rfl⟩) ⟨PC_.blind, va_recv hK hP (ci := 13) (q0 := 0) rfl rfl, PC_.pre hF hK hP hD hS hA [0, 1] [] rfl (by decide) rfl⟩ rfl rfl hl.1 rfl (lv_room (Nat.le_of_ble_eq_true rfl)) dL_account_4 ⟨Nat.le_of_ble_eq_true rfl, Nat.le_of_ble_eq_true rfl⟩) hK hP hD hS hA [0, 1] [2] [0] rfl rfl (by decide) (by decide) rfl (fun qa_1 ka_1 ia_1 H locs hpo hP hD hK hS => ?_)
  have hP : va_P D vwCl [(h2, .inl (k2, 1, .inr (.inl f0))), (h0, .inr (13, [.ref h1, v0, v1, v2, v3, v4, v5, v6, v7, v8])), (h1, .inr (11, [v9, v10, v11, v12, v13, v14, v15, .int 0, v16, v17]))] H := hP
  have hD : va_D A [(h2, .inl (k2, 1, .inr (.inl f0))), (h0, .inr (13, [.ref h1, v0, v1, v2, v3, v4, v5, v6, v7, v8])), (h1, .inr (11, [v9, v10, v11, v12, v13, v14, v15, .int 0, v16, v17]))] := hD
  have hK : va_K D vwCl [(k2, .long)] s := hK
  refine W.eq (g2 := F0 m 7 ls [.int 0, .int 0, .ref h2]) rfl ?_
  refine lv_i2l (v := 0) hx hb dL_account_7 (by decide +kernel) ?_
  refine ka_last (g := (vp_updL f0 0 0)) hx hb hK hP hD hS 0 0 rfl rfl (vin_ (by decide +kernel)) (congrArg (fun z9 => vp_updL _ z9 _) (by decide +kernel)) dL_account_8 (fun H locs hP hD hS => ?_)
  have hP : va_P D vwCl [(h2, .inl (k2, 1, .inr (.inl (vp_updL f0 0 0)))), (h0, .inr (13, [.ref h1, v0, v1, v2, v3, v4, v5, v6, v7, v8])), (h1, .inr (11, [v9, v10, v11, v12, v13, v14, v15, .int 0, v16, v17]))] H := hP
  have hD : va_D A [(h2, .inl (k2, 1, .inr (.inl (vp_updL f0 0 0)))), (h0, .inr (13, [.ref h1, v0, v1, v2, v3, v4, v5, v6, v7, v8])), (h1, .inr (11, [v9, v10, v11, v12, v13, v14, v15, .int 0, v16, v17]))] := hD
  refine lv_goto (tgt := 15) hx hb dL_account_9 (by decide) ?_
  refine lv_iconst (v := 0) hx hb dL_account_15 (by decide) ?_
  refine W.widen (k := 0) (n := 0) (Nat.le_of_ble_eq_true rfl) (Nat.le_of_ble_eq_true rfl) ?_
  exact W.iret (v := 0) hx hb hr (QG_.mk (fun _ => 0) (fun _ => 0) (fun _ => 0) [1, 2, 0] [0] hP hD hK hS rfl trivial rfl (by decide) rfl) hS.2.2 dL_account_16
set_option maxHeartbeats 4000000 in
set_option maxRecDepth 100000 in
theorem c_X11_account_5 (l : Launch) (hl0 : l.stackTraces = false) (D : va_G) (ad : Nat → Nat) (sz : Nat) (h0 : Nat) (h1 : Nat) (k1 : ClassId) (v0 : Value) (v1 : Value) (v2 : Value) (v3 : Value) (v4 : Value) (v5 : Value) (v6 : Value) (v7 : Value) (v8 : Value) (v9 : Value) (v10 : Value) (v11 : Value) (v12 : Value) (v13 : Value) (v14 : Value) (v15 : Value) (v16 : Value) (v17 : Value) (v18 : Value) (v19 : Value) (v20 : Value) (v21 : Value) (v22 : Value) (v23 : Value) : Met l yX11_account wsX11_account ({ frames := 0, cells := 0, slots := 0, locals := 0 }) (PC_ D ad [(h0, .inr (14, [.ref h1, v0, v1, v2, v3, v4, v5, v6, v7, v8, v9, v10, v11, v12, v13, v14, v15, v16, v17, v18, v19, v20, v21, v22, v23])), (h1, .inl (k1, 8277, .inl (fun _ => 0)))] [(k1, .int)] sz [.ref h0, .int 5]) (QG_ D (fun q i => some (.int 0)) (fun q i => True) (fun q k i => [(h0, .inr (14, [.ref h1, v0, v1, v2, v3, v4, v5, v6, v7, v8, v9, v10, v11, v12, v13, v14, v15, v16, v17, v18, v19, v20, v21, .int 0, v23])), (h1, .inl (k1, 8277, .inl (fun _ => 0)))]) (fun q k i => [(k1, .int)]) (va_A [(h0, .inr (14, [.ref h1, v0, v1, v2, v3, v4, v5, v6, v7, v8, v9, v10, v11, v12, v13, v14, v15, v16, v17, v18, v19, v20, v21, v22, v23])), (h1, .inl (k1, 8277, .inl (fun _ => 0)))] sz)) 0 0 (va_A [(h0, .inr (14, [.ref h1, v0, v1, v2, v3, v4, v5, v6, v7, v8, v9, v10, v11, v12, v13, v14, v15, v16, v17, v18, v19, v20, v21, v22, v23])), (h1, .inl (k1, 8277, .inl (fun _ => 0)))] sz) := by
  refine Met.ofW (cc := cX11_account) (maxL := 4) (ret := (some .int)) (by decide) rfl ?_
  intro p e s m args below meth c s₁ B hml hv
  obtain ⟨rfl, hsz, hP, hK, hD0, hF⟩ := hv
  have hx := B.exec
  have hb := B.bytes
  have hr := B.returns
  have hts := atoms_spec (ws := wsX11_account) B.pre
  have hown : s.vm.findClass RX11 = some m.cls := findClass_of_methodNamed B.named
  have hlocks := B.notSynchronized
  subst hsz
  have hD := hD0.self (sz := s.heap.size)
  generalize hAe : va_A [(h0, .inr (14, [.ref h1, v0, v1, v2, v3, v4, v5, v6, v7, v8, v9, v10, v11, v12, v13, v14, v15, v16, v17, v18, v19, v20, v21, v22, v23])), (h1, .inl (k1, 8277, .inl (fun _ => 0)))] s.heap.size = A at hD hF ⊢
  have hA : ∀ q : Nat, s.heap.size ≤ q → A q := fun q h => by rw [← hAe]; exact Or.inr h
  obtain ⟨H, hHe⟩ : ∃ H : Heap, H = s.heap := ⟨_, rfl⟩
  have hS : va_S A s.heap H [] := by rw [hHe]; exact va_S.rf
  have hP : va_P D vwCl [(h0, .inr (14, [.ref h1, v0, v1, v2, v3, v4, v5, v6, v7, v8, v9, v10, v11, v12, v13, v14, v15, v16, v17, v18, v19, v20, v21, v22, v23])), (h1, .inl (k1, 8277, .inl (fun _ => 0)))] H := by rw [hHe]; exact hP
  rw [← hHe]
  have hi_X11 : ∀ w ∈ wsX110, w ∈ wsX11_account := by decide +kernel
  have hl := lv_entry [.ref h0, .int 5] (n := 4) (Nat.le_of_ble_eq_true rfl)
  rw [lg_entry_eq]
  generalize (lg_sl [.ref h0, .int 5] ++ List.replicate (4 - (lg_sl [.ref h0, .int 5]).length) Slot.unset).toArray = ls at hl ⊢
  have hl : lv_has ls 4 [(0, .ref h0), (1, .int 5)] := hl
  refine lv_aload_n hx hb dX11_account_0 rfl (lv_at hl 0 rfl) ?_
  refine lv_iconst (v := 0) hx hb dX11_account_1 (by decide) ?_
  refine va_put (D := D) (ci := 14) (v := .int 0) (ty := .int) (own := RX11) (C := RX11) (T := TX11) (N := 25) hx hb hts hi_X11 tyX11 tyX11_ok nmX11 hown hK hP hD hS 0 rfl rfl 23 (by decide) (hts (.fieldLink RX11 47 "CanalMapsModel" "thrown" "I") (List.mem_of_getElem? (i := 1) (by decide +kernel))) (fun _ h9 => h9) rfl (by decide +kernel) rfl rfl (Nat.le_of_ble_eq_true rfl) dX11_account_2 (fun H locs hP hD hS => ?_)
  have hP : va_P D vwCl [(h0, .inr (14, [.ref h1, v0, v1, v2, v3, v4, v5, v6, v7, v8, v9, v10, v11, v12, v13, v14, v15, v16, v17, v18, v19, v20, v21, .int 0, v23])), (h1, .inl (k1, 8277, .inl (fun _ => 0)))] H := hP
  have hD : va_D A [(h0, .inr (14, [.ref h1, v0, v1, v2, v3, v4, v5, v6, v7, v8, v9, v10, v11, v12, v13, v14, v15, v16, v17, v18, v19, v20, v21, .int 0, v23])), (h1, .inl (k1, 8277, .inl (fun _ => 0)))] := hD
  refine lv_iconst (v := 0) hx hb dX11_account_5 (by decide) ?_
  refine lv_istore_n (lv' := [(2, .int 0), (0, .ref h0), (1, .int 5)]) hx hb dX11_account_6 rfl hl (by decide) rfl (fun ls hl => ?_)
  refine lv_iload_n hx hb dX11_account_7 rfl (lv_at hl 2 rfl) ?_
  refine lv_tableIn (tgt := 103) (off := 95) hx hb dX11_account_8 (by decide +kernel) (by decide +kernel) (by decide +kernel) (by decide) ?_
  refine lv_aload_n hx hb dX11_account_103 rfl (lv_at hl 1 rfl) ?_
  refine va_get (D := D) (ci := 14) (v := .ref h1) (own := RX11) (C := RX11) (T := TX11) (N := 25) hx hb hts hi_X11 hown hK hP 0 rfl rfl 0 (by decide) (hts (.fieldLink RX11 9 "CanalMapsModel" "now" "[I") (List.mem_of_getElem? (i := 2) (by decide +kernel))) (fun _ h9 => h9) rfl dX11_account_104 ?_
  refine lv_iconst (v := 3) hx hb dX11_account_107 (by decide) ?_
  refine va_iald hx hb hK hP 1 0 rfl rfl (vin_ (by decide +kernel)) dX11_account_108 ?_
  refine kt_ (v := 0) (by decide +kernel) ?_
  refine W.widen (k := 0) (n := 0) (Nat.le_of_ble_eq_true rfl) (Nat.le_of_ble_eq_true rfl) ?_
  exact W.iret (v := 0) hx hb hr (QG_.mk (fun _ => 0) (fun _ => 0) (fun _ => 0) [0, 1] [0] hP hD hK hS rfl trivial rfl (by decide) rfl) hS.2.2 dX11_account_109
set_option maxHeartbeats 4000000 in
set_option maxRecDepth 100000 in
theorem c_X10_account_6 (l : Launch) (hl0 : l.stackTraces = false) (D : va_G) (ad : Nat → Nat) (sz : Nat) (h0 : Nat) (h1 : Nat) (v0 : Value) (v1 : Value) (v2 : Value) (v3 : Value) (v4 : Value) (v5 : Value) (v6 : Value) (v7 : Value) (v8 : Value) (v9 : Value) (v10 : Value) (v11 : Value) (v12 : Value) (v13 : Value) (v14 : Value) (v15 : Value) (v16 : Value) (v17 : Value) : Met l yX10_account wsX10_account ({ frames := 0, cells := 0, slots := 0, locals := 0 }) (PC_ D ad [(h0, .inr (13, [.ref h1, v0, v1, v2, v3, v4, v5, v6, v7, v8])), (h1, .inr (11, [v9, v10, v11, v12, v13, v14, v15, v16, .int 0, v17]))] [] sz [.ref h0, .int 6]) (QG_ D (fun q i => some (.int 0)) (fun q i => True) (fun q k i => [(h0, .inr (13, [.ref h1, v0, v1, v2, v3, v4, v5, v6, v7, v8])), (h1, .inr (11, [v9, v10, v11, v12, v13, v14, v15, v16, .int 0, v17]))]) (fun q k i => []) (va_A [(h0, .inr (13, [.ref h1, v0, v1, v2, v3, v4, v5, v6, v7, v8])), (h1, .inr (11, [v9, v10, v11, v12, v13, v14, v15, v16, .int 0, v17]))] sz)) 0 0 (va_A [(h0, .inr (13, [.ref h1, v0, v1, v2, v3, v4, v5, v6, v7, v8])), (h1, .inr (11, [v9, v10, v11, v12, v13, v14, v15, v16, .int 0, v17]))] sz) := by
  refine Met.ofW (cc := cX10_account) (maxL := 2) (ret := (some .int)) (by decide) rfl ?_
  intro p e s m args below meth c s₁ B hml hv
  obtain ⟨rfl, hsz, hP, hK, hD0, hF⟩ := hv
  have hx := B.exec
  have hb := B.bytes
  have hr := B.returns
  have hts := atoms_spec (ws := wsX10_account) B.pre
  have hown : s.vm.findClass RX10 = some m.cls := findClass_of_methodNamed B.named
  have hlocks := B.notSynchronized
  subst hsz
  have hD := hD0.self (sz := s.heap.size)
  generalize hAe : va_A [(h0, .inr (13, [.ref h1, v0, v1, v2, v3, v4, v5, v6, v7, v8])), (h1, .inr (11, [v9, v10, v11, v12, v13, v14, v15, v16, .int 0, v17]))] s.heap.size = A at hD hF ⊢
  have hA : ∀ q : Nat, s.heap.size ≤ q → A q := fun q h => by rw [← hAe]; exact Or.inr h
  obtain ⟨H, hHe⟩ : ∃ H : Heap, H = s.heap := ⟨_, rfl⟩
  have hS : va_S A s.heap H [] := by rw [hHe]; exact va_S.rf
  have hP : va_P D vwCl [(h0, .inr (13, [.ref h1, v0, v1, v2, v3, v4, v5, v6, v7, v8])), (h1, .inr (11, [v9, v10, v11, v12, v13, v14, v15, v16, .int 0, v17]))] H := by rw [hHe]; exact hP
  rw [← hHe]
  have hi_X10 : ∀ w ∈ wsX100, w ∈ wsX10_account := by decide +kernel
  have hi_X8 : ∀ w ∈ wsX80, w ∈ wsX10_account := by decide +kernel
  have hl := lv_entry [.ref h0, .int 6] (n := 2) (Nat.le_of_ble_eq_true rfl)
  rw [lg_entry_eq]
  generalize (lg_sl [.ref h0, .int 6] ++ List.replicate (2 - (lg_sl [.ref h0, .int 6]).length) Slot.unset).toArray = ls at hl ⊢
  have hl : lv_has ls 2 [(0, .ref h0), (1, .int 6)] := hl
  refine lv_iload_n hx hb dX10_account_0 rfl (lv_at hl 1 rfl) ?_
  refine lv_tableIn (tgt := 114) (off := 113) hx hb dX10_account_1 (by decide +kernel) (by decide +kernel) (by decide +kernel) (by decide) ?_
  refine lv_aload_n hx hb dX10_account_114 rfl (lv_at hl 0 rfl) ?_
  refine va_get (D := D) (ci := 13) (v := .ref h1) (own := RX10) (C := RX10) (T := TX10) (N := 10) hx hb hts hi_X10 hown hK hP 0 rfl rfl 0 (by decide) (hts (.fieldLink RX10 50 "CanalMaps" "now" "LCanalMaps$Survey;") (List.mem_of_getElem? (i := 3) (by decide +kernel))) (fun _ h9 => h9) rfl dX10_account_115 ?_
  refine va_getN (D := D) (ci := 11) (v := .int 0) (own := RX10) (C := RX8) (T := TX8) (N := 10) hx hb hts hi_X8 hown hK hP 1 rfl rfl 8 (by decide) (fxn_ hF (RX10, 366, "CanalMaps$Survey", "lost", "I")) (fun _ h9 => h9) rfl dX10_account_118 ?_
  refine W.widen (k := 0) (n := 0) (Nat.le_of_ble_eq_true rfl) (Nat.le_of_ble_eq_true rfl) ?_
  exact W.iret (v := 0) hx hb hr (QG_.mk (fun _ => 0) (fun _ => 0) (fun _ => 0) [0, 1] [] hP hD hK hS rfl trivial rfl (by decide) rfl) hS.2.2 dX10_account_121
set_option maxHeartbeats 4000000 in
set_option maxRecDepth 100000 in
theorem c_L_account_6 (l : Launch) (hl0 : l.stackTraces = false) (D : va_G) (ad : Nat → Nat) (sz : Nat) (h0 : Nat) (h1 : Nat) (h2 : Nat) (k2 : ClassId) (v0 : Value) (v1 : Value) (v2 : Value) (v3 : Value) (v4 : Value) (v5 : Value) (v6 : Value) (v7 : Value) (v8 : Value) (v9 : Value) (v10 : Value) (v11 : Value) (v12 : Value) (v13 : Value) (v14 : Value) (v15 : Value) (v16 : Value) (v17 : Value) (f0 : Nat → Int64) : Met l yL_account wsL_account ({ frames := 1, cells := 0, slots := 0, locals := 23 }) (PC_ D ad [(h0, .inr (13, [.ref h1, v0, v1, v2, v3, v4, v5, v6, v7, v8])), (h1, .inr (11, [v9, v10, v11, v12, v13, v14, v15, v16, .int 0, v17])), (h2, .inl (k2, 1, .inr (.inl f0)))] [(k2, .long)] sz [.ref h0, .int 6, .ref h2]) (QG_ D (fun q i => some (.int 0)) (fun q i => True) (fun q k i => [(h0, .inr (13, [.ref h1, v0, v1, v2, v3, v4, v5, v6, v7, v8])), (h1, .inr (11, [v9, v10, v11, v12, v13, v14, v15, v16, .int 0, v17])), (h2, .inl (k2, 1, .inr (.inl (vp_updL f0 0 0))))]) (fun q k i => [(k2, .long)]) (va_A [(h0, .inr (13, [.ref h1, v0, v1, v2, v3, v4, v5, v6, v7, v8])), (h1, .inr (11, [v9, v10, v11, v12, v13, v14, v15, v16, .int 0, v17])), (h2, .inl (k2, 1, .inr (.inl f0)))] sz)) 0 0 (va_A [(h0, .inr (13, [.ref h1, v0, v1, v2, v3, v4, v5, v6, v7, v8])), (h1, .inr (11, [v9, v10, v11, v12, v13, v14, v15, v16, .int 0, v17])), (h2, .inl (k2, 1, .inr (.inl f0)))] sz) := by
  refine va_MetW (cc := cL_account) (maxL := 4) (ret := (some .int)) (by decide) rfl ?_
  intro p e s m args below meth c s₁ B hml hv
  obtain ⟨rfl, hsz, hP, hK, hD0, hF⟩ := hv
  have hx := B.exec
  have hb := B.bytes
  have hr := B.returns
  have hts := atoms_spec (ws := wsL_account) B.pre
  have hown : s.vm.findClass RL = some m.cls := findClass_of_methodNamed B.named
  have hlocks := B.notSynchronized
  have htb := vx_table (x := yL_account) B (hts _ (List.mem_cons_self))
  subst hsz
  have hD := hD0.self (sz := s.heap.size)
  generalize hAe : va_A [(h0, .inr (13, [.ref h1, v0, v1, v2, v3, v4, v5, v6, v7, v8])), (h1, .inr (11, [v9, v10, v11, v12, v13, v14, v15, v16, .int 0, v17])), (h2, .inl (k2, 1, .inr (.inl f0)))] s.heap.size = A at hD hF ⊢
  have hA : ∀ q : Nat, s.heap.size ≤ q → A q := fun q h => by rw [← hAe]; exact Or.inr h
  obtain ⟨H, hHe⟩ : ∃ H : Heap, H = s.heap := ⟨_, rfl⟩
  have hS : va_S A s.heap H [] := by rw [hHe]; exact va_S.rf
  have hP : va_P D vwCl [(h0, .inr (13, [.ref h1, v0, v1, v2, v3, v4, v5, v6, v7, v8])), (h1, .inr (11, [v9, v10, v11, v12, v13, v14, v15, v16, .int 0, v17])), (h2, .inl (k2, 1, .inr (.inl f0)))] H := by rw [hHe]; exact hP
  rw [← hHe]
  have hl := lv_entry [.ref h0, .int 6, .ref h2] (n := 4) (Nat.le_of_ble_eq_true rfl)
  rw [lg_entry_eq]
  generalize (lg_sl [.ref h0, .int 6, .ref h2] ++ List.replicate (4 - (lg_sl [.ref h0, .int 6, .ref h2]).length) Slot.unset).toArray = ls at hl ⊢
  have hl : lv_has ls 4 [(0, .ref h0), (1, .int 6), (2, .ref h2)] := hl
  refine lv_aload_n hx hb dL_account_0 rfl (lv_at hl 2 rfl) ?_
  refine lv_iconst (v := 0) hx hb dL_account_1 (by decide) ?_
  refine lv_aload_n hx hb dL_account_2 rfl (lv_at hl 0 rfl) ?_
  refine lv_iload_n hx hb dL_account_3 rfl (lv_at hl 1 rfl) ?_
  refine kc_ (wc := [(h0, .inr (13, [.ref h1, v0, v1, v2, v3, v4, v5, v6, v7, v8])), (h1, .inr (11, [v9, v10, v11, v12, v13, v14, v15, v16, .int 0, v17]))]) (wr := [(h2, .inl (k2, 1, .inr (.inl f0)))]) (va_runV (As := [.int 6]) (rest := [.int 0, .ref h2]) ⟨hx, hb, hml, hown, hts⟩ (c_X10_account_6 l hl0 D ad H.size h0 h1 (v0) (v1) (v2) (v3) (v4) (v5) (v6) (v7) (v8) (v9) (v10) (v11) (v12) (v13) (v14) (v15) (v16) (v17)) (cwV 1 hts gL_account_X10_account rfl rfl rfl (by decide +kernel) ⟨Nat.le_of_ble_eq_true rfl, Nat.le_of_ble_eq_true rfl⟩) ⟨PC_.blind, va_recv hK hP (ci := 13) (q0 := 0) rfl rfl, PC_.pre hF hK hP hD hS hA [0, 1] [] rfl (by decide) rfl⟩ rfl rfl hl.1 rfl (lv_room (Nat.le_of_ble_eq_true rfl)) dL_account_4 ⟨Nat.le_of_ble_eq_true rfl, Nat.le_of_ble_eq_true rfl⟩) hK hP hD hS hA [0, 1] [2] [0] rfl rfl (by decide) (by decide) rfl (fun qa_1 ka_1 ia_1 H locs hpo hP hD hK hS => ?_)
  have hP : va_P D vwCl [(h2, .inl (k2, 1, .inr (.inl f0))), (h0, .inr (13, [.ref h1, v0, v1, v2, v3, v4, v5, v6, v7, v8])), (h1, .inr (11, [v9, v10, v11, v12, v13, v14, v15, v16, .int 0, v17]))] H := hP
  have hD : va_D A [(h2, .inl (k2, 1, .inr (.inl f0))), (h0, .inr (13, [.ref h1, v0, v1, v2, v3, v4, v5, v6, v7, v8])), (h1, .inr (11, [v9, v10, v11, v12, v13, v14, v15, v16, .int 0, v17]))] := hD
  have hK : va_K D vwCl [(k2, .long)] s := hK
  refine W.eq (g2 := F0 m 7 ls [.int 0, .int 0, .ref h2]) rfl ?_
  refine lv_i2l (v := 0) hx hb dL_account_7 (by decide +kernel) ?_
  refine ka_last (g := (vp_updL f0 0 0)) hx hb hK hP hD hS 0 0 rfl rfl (vin_ (by decide +kernel)) (congrArg (fun z9 => vp_updL _ z9 _) (by decide +kernel)) dL_account_8 (fun H locs hP hD hS => ?_)
  have hP : va_P D vwCl [(h2, .inl (k2, 1, .inr (.inl (vp_updL f0 0 0)))), (h0, .inr (13, [.ref h1, v0, v1, v2, v3, v4, v5, v6, v7, v8])), (h1, .inr (11, [v9, v10, v11, v12, v13, v14, v15, v16, .int 0, v17]))] H := hP
  have hD : va_D A [(h2, .inl (k2, 1, .inr (.inl (vp_updL f0 0 0)))), (h0, .inr (13, [.ref h1, v0, v1, v2, v3, v4, v5, v6, v7, v8])), (h1, .inr (11, [v9, v10, v11, v12, v13, v14, v15, v16, .int 0, v17]))] := hD
  refine lv_goto (tgt := 15) hx hb dL_account_9 (by decide) ?_
  refine lv_iconst (v := 0) hx hb dL_account_15 (by decide) ?_
  refine W.widen (k := 0) (n := 0) (Nat.le_of_ble_eq_true rfl) (Nat.le_of_ble_eq_true rfl) ?_
  exact W.iret (v := 0) hx hb hr (QG_.mk (fun _ => 0) (fun _ => 0) (fun _ => 0) [1, 2, 0] [0] hP hD hK hS rfl trivial rfl (by decide) rfl) hS.2.2 dL_account_16
set_option maxHeartbeats 4000000 in
set_option maxRecDepth 100000 in
theorem c_X11_account_6 (l : Launch) (hl0 : l.stackTraces = false) (D : va_G) (ad : Nat → Nat) (sz : Nat) (h0 : Nat) (h1 : Nat) (k1 : ClassId) (v0 : Value) (v1 : Value) (v2 : Value) (v3 : Value) (v4 : Value) (v5 : Value) (v6 : Value) (v7 : Value) (v8 : Value) (v9 : Value) (v10 : Value) (v11 : Value) (v12 : Value) (v13 : Value) (v14 : Value) (v15 : Value) (v16 : Value) (v17 : Value) (v18 : Value) (v19 : Value) (v20 : Value) (v21 : Value) (v22 : Value) (v23 : Value) : Met l yX11_account wsX11_account ({ frames := 0, cells := 0, slots := 0, locals := 0 }) (PC_ D ad [(h0, .inr (14, [.ref h1, v0, v1, v2, v3, v4, v5, v6, v7, v8, v9, v10, v11, v12, v13, v14, v15, v16, v17, v18, v19, v20, v21, v22, v23])), (h1, .inl (k1, 8277, .inl (fun _ => 0)))] [(k1, .int)] sz [.ref h0, .int 6]) (QG_ D (fun q i => some (.int 0)) (fun q i => True) (fun q k i => [(h0, .inr (14, [.ref h1, v0, v1, v2, v3, v4, v5, v6, v7, v8, v9, v10, v11, v12, v13, v14, v15, v16, v17, v18, v19, v20, v21, .int 0, v23])), (h1, .inl (k1, 8277, .inl (fun _ => 0)))]) (fun q k i => [(k1, .int)]) (va_A [(h0, .inr (14, [.ref h1, v0, v1, v2, v3, v4, v5, v6, v7, v8, v9, v10, v11, v12, v13, v14, v15, v16, v17, v18, v19, v20, v21, v22, v23])), (h1, .inl (k1, 8277, .inl (fun _ => 0)))] sz)) 0 0 (va_A [(h0, .inr (14, [.ref h1, v0, v1, v2, v3, v4, v5, v6, v7, v8, v9, v10, v11, v12, v13, v14, v15, v16, v17, v18, v19, v20, v21, v22, v23])), (h1, .inl (k1, 8277, .inl (fun _ => 0)))] sz) := by
  refine Met.ofW (cc := cX11_account) (maxL := 4) (ret := (some .int)) (by decide) rfl ?_
  intro p e s m args below meth c s₁ B hml hv
  obtain ⟨rfl, hsz, hP, hK, hD0, hF⟩ := hv
  have hx := B.exec
  have hb := B.bytes
  have hr := B.returns
  have hts := atoms_spec (ws := wsX11_account) B.pre
  have hown : s.vm.findClass RX11 = some m.cls := findClass_of_methodNamed B.named
  have hlocks := B.notSynchronized
  subst hsz
  have hD := hD0.self (sz := s.heap.size)
  generalize hAe : va_A [(h0, .inr (14, [.ref h1, v0, v1, v2, v3, v4, v5, v6, v7, v8, v9, v10, v11, v12, v13, v14, v15, v16, v17, v18, v19, v20, v21, v22, v23])), (h1, .inl (k1, 8277, .inl (fun _ => 0)))] s.heap.size = A at hD hF ⊢
  have hA : ∀ q : Nat, s.heap.size ≤ q → A q := fun q h => by rw [← hAe]; exact Or.inr h
  obtain ⟨H, hHe⟩ : ∃ H : Heap, H = s.heap := ⟨_, rfl⟩
  have hS : va_S A s.heap H [] := by rw [hHe]; exact va_S.rf
  have hP : va_P D vwCl [(h0, .inr (14, [.ref h1, v0, v1, v2, v3, v4, v5, v6, v7, v8, v9, v10, v11, v12, v13, v14, v15, v16, v17, v18, v19, v20, v21, v22, v23])), (h1, .inl (k1, 8277, .inl (fun _ => 0)))] H := by rw [hHe]; exact hP
  rw [← hHe]
  have hi_X11 : ∀ w ∈ wsX110, w ∈ wsX11_account := by decide +kernel
  have hl := lv_entry [.ref h0, .int 6] (n := 4) (Nat.le_of_ble_eq_true rfl)
  rw [lg_entry_eq]
  generalize (lg_sl [.ref h0, .int 6] ++ List.replicate (4 - (lg_sl [.ref h0, .int 6]).length) Slot.unset).toArray = ls at hl ⊢
  have hl : lv_has ls 4 [(0, .ref h0), (1, .int 6)] := hl
  refine lv_aload_n hx hb dX11_account_0 rfl (lv_at hl 0 rfl) ?_
  refine lv_iconst (v := 0) hx hb dX11_account_1 (by decide) ?_
  refine va_put (D := D) (ci := 14) (v := .int 0) (ty := .int) (own := RX11) (C := RX11) (T := TX11) (N := 25) hx hb hts hi_X11 tyX11 tyX11_ok nmX11 hown hK hP hD hS 0 rfl rfl 23 (by decide) (hts (.fieldLink RX11 47 "CanalMapsModel" "thrown" "I") (List.mem_of_getElem? (i := 1) (by decide +kernel))) (fun _ h9 => h9) rfl (by decide +kernel) rfl rfl (Nat.le_of_ble_eq_true rfl) dX11_account_2 (fun H locs hP hD hS => ?_)
  have hP : va_P D vwCl [(h0, .inr (14, [.ref h1, v0, v1, v2, v3, v4, v5, v6, v7, v8, v9, v10, v11, v12, v13, v14, v15, v16, v17, v18, v19, v20, v21, .int 0, v23])), (h1, .inl (k1, 8277, .inl (fun _ => 0)))] H := hP
  have hD : va_D A [(h0, .inr (14, [.ref h1, v0, v1, v2, v3, v4, v5, v6, v7, v8, v9, v10, v11, v12, v13, v14, v15, v16, v17, v18, v19, v20, v21, .int 0, v23])), (h1, .inl (k1, 8277, .inl (fun _ => 0)))] := hD
  refine lv_iconst (v := 0) hx hb dX11_account_5 (by decide) ?_
  refine lv_istore_n (lv' := [(2, .int 0), (0, .ref h0), (1, .int 6)]) hx hb dX11_account_6 rfl hl (by decide) rfl (fun ls hl => ?_)
  refine lv_iload_n hx hb dX11_account_7 rfl (lv_at hl 2 rfl) ?_
  refine lv_tableIn (tgt := 110) (off := 102) hx hb dX11_account_8 (by decide +kernel) (by decide +kernel) (by decide +kernel) (by decide) ?_
  refine lv_aload_n hx hb dX11_account_110 rfl (lv_at hl 1 rfl) ?_
  refine va_get (D := D) (ci := 14) (v := .ref h1) (own := RX11) (C := RX11) (T := TX11) (N := 25) hx hb hts hi_X11 hown hK hP 0 rfl rfl 0 (by decide) (hts (.fieldLink RX11 9 "CanalMapsModel" "now" "[I") (List.mem_of_getElem? (i := 2) (by decide +kernel))) (fun _ h9 => h9) rfl dX11_account_111 ?_
  refine lv_iconst (v := 4) hx hb dX11_account_114 (by decide) ?_
  refine va_iald hx hb hK hP 1 0 rfl rfl (vin_ (by decide +kernel)) dX11_account_115 ?_
  refine kt_ (v := 0) (by decide +kernel) ?_
  refine W.widen (k := 0) (n := 0) (Nat.le_of_ble_eq_true rfl) (Nat.le_of_ble_eq_true rfl) ?_
  exact W.iret (v := 0) hx hb hr (QG_.mk (fun _ => 0) (fun _ => 0) (fun _ => 0) [0, 1] [0] hP hD hK hS rfl trivial rfl (by decide) rfl) hS.2.2 dX11_account_116
set_option maxHeartbeats 4000000 in
set_option maxRecDepth 100000 in
theorem c_X10_account_7 (l : Launch) (hl0 : l.stackTraces = false) (D : va_G) (ad : Nat → Nat) (sz : Nat) (h0 : Nat) (h1 : Nat) (v0 : Value) (v1 : Value) (v2 : Value) (v3 : Value) (v4 : Value) (v5 : Value) (v6 : Value) (v7 : Value) (v8 : Value) (v9 : Value) (v10 : Value) (v11 : Value) (v12 : Value) (v13 : Value) (v14 : Value) (v15 : Value) (v16 : Value) (v17 : Value) : Met l yX10_account wsX10_account ({ frames := 0, cells := 0, slots := 0, locals := 0 }) (PC_ D ad [(h0, .inr (13, [.ref h1, v0, v1, v2, v3, v4, v5, v6, v7, v8])), (h1, .inr (11, [v9, v10, v11, v12, v13, v14, v15, v16, v17, .int 0]))] [] sz [.ref h0, .int 7]) (QG_ D (fun q i => some (.int 0)) (fun q i => True) (fun q k i => [(h0, .inr (13, [.ref h1, v0, v1, v2, v3, v4, v5, v6, v7, v8])), (h1, .inr (11, [v9, v10, v11, v12, v13, v14, v15, v16, v17, .int 0]))]) (fun q k i => []) (va_A [(h0, .inr (13, [.ref h1, v0, v1, v2, v3, v4, v5, v6, v7, v8])), (h1, .inr (11, [v9, v10, v11, v12, v13, v14, v15, v16, v17, .int 0]))] sz)) 0 0 (va_A [(h0, .inr (13, [.ref h1, v0, v1, v2, v3, v4, v5, v6, v7, v8])), (h1, .inr (11, [v9, v10, v11, v12, v13, v14, v15, v16, v17, .int 0]))] sz) := by
  refine Met.ofW (cc := cX10_account) (maxL := 2) (ret := (some .int)) (by decide) rfl ?_
  intro p e s m args below meth c s₁ B hml hv
  obtain ⟨rfl, hsz, hP, hK, hD0, hF⟩ := hv
  have hx := B.exec
  have hb := B.bytes
  have hr := B.returns
  have hts := atoms_spec (ws := wsX10_account) B.pre
  have hown : s.vm.findClass RX10 = some m.cls := findClass_of_methodNamed B.named
  have hlocks := B.notSynchronized
  subst hsz
  have hD := hD0.self (sz := s.heap.size)
  generalize hAe : va_A [(h0, .inr (13, [.ref h1, v0, v1, v2, v3, v4, v5, v6, v7, v8])), (h1, .inr (11, [v9, v10, v11, v12, v13, v14, v15, v16, v17, .int 0]))] s.heap.size = A at hD hF ⊢
  have hA : ∀ q : Nat, s.heap.size ≤ q → A q := fun q h => by rw [← hAe]; exact Or.inr h
  obtain ⟨H, hHe⟩ : ∃ H : Heap, H = s.heap := ⟨_, rfl⟩
  have hS : va_S A s.heap H [] := by rw [hHe]; exact va_S.rf
  have hP : va_P D vwCl [(h0, .inr (13, [.ref h1, v0, v1, v2, v3, v4, v5, v6, v7, v8])), (h1, .inr (11, [v9, v10, v11, v12, v13, v14, v15, v16, v17, .int 0]))] H := by rw [hHe]; exact hP
  rw [← hHe]
  have hi_X10 : ∀ w ∈ wsX100, w ∈ wsX10_account := by decide +kernel
  have hi_X8 : ∀ w ∈ wsX80, w ∈ wsX10_account := by decide +kernel
  have hl := lv_entry [.ref h0, .int 7] (n := 2) (Nat.le_of_ble_eq_true rfl)
  rw [lg_entry_eq]
  generalize (lg_sl [.ref h0, .int 7] ++ List.replicate (2 - (lg_sl [.ref h0, .int 7]).length) Slot.unset).toArray = ls at hl ⊢
  have hl : lv_has ls 2 [(0, .ref h0), (1, .int 7)] := hl
  refine lv_iload_n hx hb dX10_account_0 rfl (lv_at hl 1 rfl) ?_
  refine lv_tableIn (tgt := 122) (off := 121) hx hb dX10_account_1 (by decide +kernel) (by decide +kernel) (by decide +kernel) (by decide) ?_
  refine lv_aload_n hx hb dX10_account_122 rfl (lv_at hl 0 rfl) ?_
  refine va_get (D := D) (ci := 13) (v := .ref h1) (own := RX10) (C := RX10) (T := TX10) (N := 10) hx hb hts hi_X10 hown hK hP 0 rfl rfl 0 (by decide) (hts (.fieldLink RX10 50 "CanalMaps" "now" "LCanalMaps$Survey;") (List.mem_of_getElem? (i := 3) (by decide +kernel))) (fun _ h9 => h9) rfl dX10_account_123 ?_
  refine va_getN (D := D) (ci := 11) (v := .int 0) (own := RX10) (C := RX8) (T := TX8) (N := 10) hx hb hts hi_X8 hown hK hP 1 rfl rfl 9 (by decide) (fxn_ hF (RX10, 375, "CanalMaps$Survey", "made", "I")) (fun _ h9 => h9) rfl dX10_account_126 ?_
  refine W.widen (k := 0) (n := 0) (Nat.le_of_ble_eq_true rfl) (Nat.le_of_ble_eq_true rfl) ?_
  exact W.iret (v := 0) hx hb hr (QG_.mk (fun _ => 0) (fun _ => 0) (fun _ => 0) [0, 1] [] hP hD hK hS rfl trivial rfl (by decide) rfl) hS.2.2 dX10_account_129
set_option maxHeartbeats 4000000 in
set_option maxRecDepth 100000 in
theorem c_L_account_7 (l : Launch) (hl0 : l.stackTraces = false) (D : va_G) (ad : Nat → Nat) (sz : Nat) (h0 : Nat) (h1 : Nat) (h2 : Nat) (k2 : ClassId) (v0 : Value) (v1 : Value) (v2 : Value) (v3 : Value) (v4 : Value) (v5 : Value) (v6 : Value) (v7 : Value) (v8 : Value) (v9 : Value) (v10 : Value) (v11 : Value) (v12 : Value) (v13 : Value) (v14 : Value) (v15 : Value) (v16 : Value) (v17 : Value) (f0 : Nat → Int64) : Met l yL_account wsL_account ({ frames := 1, cells := 0, slots := 0, locals := 23 }) (PC_ D ad [(h0, .inr (13, [.ref h1, v0, v1, v2, v3, v4, v5, v6, v7, v8])), (h1, .inr (11, [v9, v10, v11, v12, v13, v14, v15, v16, v17, .int 0])), (h2, .inl (k2, 1, .inr (.inl f0)))] [(k2, .long)] sz [.ref h0, .int 7, .ref h2]) (QG_ D (fun q i => some (.int 0)) (fun q i => True) (fun q k i => [(h0, .inr (13, [.ref h1, v0, v1, v2, v3, v4, v5, v6, v7, v8])), (h1, .inr (11, [v9, v10, v11, v12, v13, v14, v15, v16, v17, .int 0])), (h2, .inl (k2, 1, .inr (.inl (vp_updL f0 0 0))))]) (fun q k i => [(k2, .long)]) (va_A [(h0, .inr (13, [.ref h1, v0, v1, v2, v3, v4, v5, v6, v7, v8])), (h1, .inr (11, [v9, v10, v11, v12, v13, v14, v15, v16, v17, .int 0])), (h2, .inl (k2, 1, .inr (.inl f0)))] sz)) 0 0 (va_A [(h0, .inr (13, [.ref h1, v0, v1, v2, v3, v4, v5, v6, v7, v8])), (h1, .inr (11, [v9, v10, v11, v12, v13, v14, v15, v16, v17, .int 0])), (h2, .inl (k2, 1, .inr (.inl f0)))] sz) := by
  refine va_MetW (cc := cL_account) (maxL := 4) (ret := (some .int)) (by decide) rfl ?_
  intro p e s m args below meth c s₁ B hml hv
  obtain ⟨rfl, hsz, hP, hK, hD0, hF⟩ := hv
  have hx := B.exec
  have hb := B.bytes
  have hr := B.returns
  have hts := atoms_spec (ws := wsL_account) B.pre
  have hown : s.vm.findClass RL = some m.cls := findClass_of_methodNamed B.named
  have hlocks := B.notSynchronized
  have htb := vx_table (x := yL_account) B (hts _ (List.mem_cons_self))
  subst hsz
  have hD := hD0.self (sz := s.heap.size)
  generalize hAe : va_A [(h0, .inr (13, [.ref h1, v0, v1, v2, v3, v4, v5, v6, v7, v8])), (h1, .inr (11, [v9, v10, v11, v12, v13, v14, v15, v16, v17, .int 0])), (h2, .inl (k2, 1, .inr (.inl f0)))] s.heap.size = A at hD hF ⊢
  have hA : ∀ q : Nat, s.heap.size ≤ q → A q := fun q h => by rw [← hAe]; exact Or.inr h
  obtain ⟨H, hHe⟩ : ∃ H : Heap, H = s.heap := ⟨_, rfl⟩
  have hS : va_S A s.heap H [] := by rw [hHe]; exact va_S.rf
  have hP : va_P D vwCl [(h0, .inr (13, [.ref h1, v0, v1, v2, v3, v4, v5, v6, v7, v8])), (h1, .inr (11, [v9, v10, v11, v12, v13, v14, v15, v16, v17, .int 0])), (h2, .inl (k2, 1, .inr (.inl f0)))] H := by rw [hHe]; exact hP
  rw [← hHe]
  have hl := lv_entry [.ref h0, .int 7, .ref h2] (n := 4) (Nat.le_of_ble_eq_true rfl)
  rw [lg_entry_eq]
  generalize (lg_sl [.ref h0, .int 7, .ref h2] ++ List.replicate (4 - (lg_sl [.ref h0, .int 7, .ref h2]).length) Slot.unset).toArray = ls at hl ⊢
  have hl : lv_has ls 4 [(0, .ref h0), (1, .int 7), (2, .ref h2)] := hl
  refine lv_aload_n hx hb dL_account_0 rfl (lv_at hl 2 rfl) ?_
  refine lv_iconst (v := 0) hx hb dL_account_1 (by decide) ?_
  refine lv_aload_n hx hb dL_account_2 rfl (lv_at hl 0 rfl) ?_
  refine lv_iload_n hx hb dL_account_3 rfl (lv_at hl 1 rfl) ?_
  refine kc_ (wc := [(h0, .inr (13, [.ref h1, v0, v1, v2, v3, v4, v5, v6, v7, v8])), (h1, .inr (11, [v9, v10, v11, v12, v13, v14, v15, v16, v17, .int 0]))]) (wr := [(h2, .inl (k2, 1, .inr (.inl f0)))]) (va_runV (As := [.int 7]) (rest := [.int 0, .ref h2]) ⟨hx, hb, hml, hown, hts⟩ (c_X10_account_7 l hl0 D ad H.size h0 h1 (v0) (v1) (v2) (v3) (v4) (v5) (v6) (v7) (v8) (v9) (v10) (v11) (v12) (v13) (v14) (v15) (v16) (v17)) (cwV 1 hts gL_account_X10_account rfl rfl rfl (by decide +kernel) ⟨Nat.le_of_ble_eq_true rfl, Nat.le_of_ble_eq_true rfl⟩) ⟨PC_.blind, va_recv hK hP (ci := 13) (q0 := 0) rfl rfl, PC_.pre hF hK hP hD hS hA [0, 1] [] rfl (by decide) rfl⟩ rfl rfl hl.1 rfl (lv_room (Nat.le_of_ble_eq_true rfl)) dL_account_4 ⟨Nat.le_of_ble_eq_true rfl, Nat.le_of_ble_eq_true rfl⟩) hK hP hD hS hA [0, 1] [2] [0] rfl rfl (by decide) (by decide) rfl (fun qa_1 ka_1 ia_1 H locs hpo hP hD hK hS => ?_)
  have hP : va_P D vwCl [(h2, .inl (k2, 1, .inr (.inl f0))), (h0, .inr (13, [.ref h1, v0, v1, v2, v3, v4, v5, v6, v7, v8])), (h1, .inr (11, [v9, v10, v11, v12, v13, v14, v15, v16, v17, .int 0]))] H := hP
  have hD : va_D A [(h2, .inl (k2, 1, .inr (.inl f0))), (h0, .inr (13, [.ref h1, v0, v1, v2, v3, v4, v5, v6, v7, v8])), (h1, .inr (11, [v9, v10, v11, v12, v13, v14, v15, v16, v17, .int 0]))] := hD
  have hK : va_K D vwCl [(k2, .long)] s := hK
  refine W.eq (g2 := F0 m 7 ls [.int 0, .int 0, .ref h2]) rfl ?_
  refine lv_i2l (v := 0) hx hb dL_account_7 (by decide +kernel) ?_
  refine ka_last (g := (vp_updL f0 0 0)) hx hb hK hP hD hS 0 0 rfl rfl (vin_ (by decide +kernel)) (congrArg (fun z9 => vp_updL _ z9 _) (by decide +kernel)) dL_account_8 (fun H locs hP hD hS => ?_)
  have hP : va_P D vwCl [(h2, .inl (k2, 1, .inr (.inl (vp_updL f0 0 0)))), (h0, .inr (13, [.ref h1, v0, v1, v2, v3, v4, v5, v6, v7, v8])), (h1, .inr (11, [v9, v10, v11, v12, v13, v14, v15, v16, v17, .int 0]))] H := hP
  have hD : va_D A [(h2, .inl (k2, 1, .inr (.inl (vp_updL f0 0 0)))), (h0, .inr (13, [.ref h1, v0, v1, v2, v3, v4, v5, v6, v7, v8])), (h1, .inr (11, [v9, v10, v11, v12, v13, v14, v15, v16, v17, .int 0]))] := hD
  refine lv_goto (tgt := 15) hx hb dL_account_9 (by decide) ?_
  refine lv_iconst (v := 0) hx hb dL_account_15 (by decide) ?_
  refine W.widen (k := 0) (n := 0) (Nat.le_of_ble_eq_true rfl) (Nat.le_of_ble_eq_true rfl) ?_
  exact W.iret (v := 0) hx hb hr (QG_.mk (fun _ => 0) (fun _ => 0) (fun _ => 0) [1, 2, 0] [0] hP hD hK hS rfl trivial rfl (by decide) rfl) hS.2.2 dL_account_16
set_option maxHeartbeats 4000000 in
set_option maxRecDepth 100000 in
theorem c_X11_account_7 (l : Launch) (hl0 : l.stackTraces = false) (D : va_G) (ad : Nat → Nat) (sz : Nat) (h0 : Nat) (h1 : Nat) (k1 : ClassId) (v0 : Value) (v1 : Value) (v2 : Value) (v3 : Value) (v4 : Value) (v5 : Value) (v6 : Value) (v7 : Value) (v8 : Value) (v9 : Value) (v10 : Value) (v11 : Value) (v12 : Value) (v13 : Value) (v14 : Value) (v15 : Value) (v16 : Value) (v17 : Value) (v18 : Value) (v19 : Value) (v20 : Value) (v21 : Value) (v22 : Value) (v23 : Value) : Met l yX11_account wsX11_account ({ frames := 0, cells := 0, slots := 0, locals := 0 }) (PC_ D ad [(h0, .inr (14, [.ref h1, v0, v1, v2, v3, v4, v5, v6, v7, v8, v9, v10, v11, v12, v13, v14, v15, v16, v17, v18, v19, v20, v21, v22, v23])), (h1, .inl (k1, 8277, .inl (fun _ => 0)))] [(k1, .int)] sz [.ref h0, .int 7]) (QG_ D (fun q i => some (.int 0)) (fun q i => True) (fun q k i => [(h0, .inr (14, [.ref h1, v0, v1, v2, v3, v4, v5, v6, v7, v8, v9, v10, v11, v12, v13, v14, v15, v16, v17, v18, v19, v20, v21, .int 0, v23])), (h1, .inl (k1, 8277, .inl (fun _ => 0)))]) (fun q k i => [(k1, .int)]) (va_A [(h0, .inr (14, [.ref h1, v0, v1, v2, v3, v4, v5, v6, v7, v8, v9, v10, v11, v12, v13, v14, v15, v16, v17, v18, v19, v20, v21, v22, v23])), (h1, .inl (k1, 8277, .inl (fun _ => 0)))] sz)) 0 0 (va_A [(h0, .inr (14, [.ref h1, v0, v1, v2, v3, v4, v5, v6, v7, v8, v9, v10, v11, v12, v13, v14, v15, v16, v17, v18, v19, v20, v21, v22, v23])), (h1, .inl (k1, 8277, .inl (fun _ => 0)))] sz) := by
  refine Met.ofW (cc := cX11_account) (maxL := 4) (ret := (some .int)) (by decide) rfl ?_
  intro p e s m args below meth c s₁ B hml hv
  obtain ⟨rfl, hsz, hP, hK, hD0, hF⟩ := hv
  have hx := B.exec
  have hb := B.bytes
  have hr := B.returns
  have hts := atoms_spec (ws := wsX11_account) B.pre
  have hown : s.vm.findClass RX11 = some m.cls := findClass_of_methodNamed B.named
  have hlocks := B.notSynchronized
  subst hsz
  have hD := hD0.self (sz := s.heap.size)
  generalize hAe : va_A [(h0, .inr (14, [.ref h1, v0, v1, v2, v3, v4, v5, v6, v7, v8, v9, v10, v11, v12, v13, v14, v15, v16, v17, v18, v19, v20, v21, v22, v23])), (h1, .inl (k1, 8277, .inl (fun _ => 0)))] s.heap.size = A at hD hF ⊢
  have hA : ∀ q : Nat, s.heap.size ≤ q → A q := fun q h => by rw [← hAe]; exact Or.inr h
  obtain ⟨H, hHe⟩ : ∃ H : Heap, H = s.heap := ⟨_, rfl⟩
  have hS : va_S A s.heap H [] := by rw [hHe]; exact va_S.rf
  have hP : va_P D vwCl [(h0, .inr (14, [.ref h1, v0, v1, v2, v3, v4, v5, v6, v7, v8, v9, v10, v11, v12, v13, v14, v15, v16, v17, v18, v19, v20, v21, v22, v23])), (h1, .inl (k1, 8277, .inl (fun _ => 0)))] H := by rw [hHe]; exact hP
  rw [← hHe]
  have hi_X11 : ∀ w ∈ wsX110, w ∈ wsX11_account := by decide +kernel
  have hl := lv_entry [.ref h0, .int 7] (n := 4) (Nat.le_of_ble_eq_true rfl)
  rw [lg_entry_eq]
  generalize (lg_sl [.ref h0, .int 7] ++ List.replicate (4 - (lg_sl [.ref h0, .int 7]).length) Slot.unset).toArray = ls at hl ⊢
  have hl : lv_has ls 4 [(0, .ref h0), (1, .int 7)] := hl
  refine lv_aload_n hx hb dX11_account_0 rfl (lv_at hl 0 rfl) ?_
  refine lv_iconst (v := 0) hx hb dX11_account_1 (by decide) ?_
  refine va_put (D := D) (ci := 14) (v := .int 0) (ty := .int) (own := RX11) (C := RX11) (T := TX11) (N := 25) hx hb hts hi_X11 tyX11 tyX11_ok nmX11 hown hK hP hD hS 0 rfl rfl 23 (by decide) (hts (.fieldLink RX11 47 "CanalMapsModel" "thrown" "I") (List.mem_of_getElem? (i := 1) (by decide +kernel))) (fun _ h9 => h9) rfl (by decide +kernel) rfl rfl (Nat.le_of_ble_eq_true rfl) dX11_account_2 (fun H locs hP hD hS => ?_)
  have hP : va_P D vwCl [(h0, .inr (14, [.ref h1, v0, v1, v2, v3, v4, v5, v6, v7, v8, v9, v10, v11, v12, v13, v14, v15, v16, v17, v18, v19, v20, v21, .int 0, v23])), (h1, .inl (k1, 8277, .inl (fun _ => 0)))] H := hP
  have hD : va_D A [(h0, .inr (14, [.ref h1, v0, v1, v2, v3, v4, v5, v6, v7, v8, v9, v10, v11, v12, v13, v14, v15, v16, v17, v18, v19, v20, v21, .int 0, v23])), (h1, .inl (k1, 8277, .inl (fun _ => 0)))] := hD
  refine lv_iconst (v := 0) hx hb dX11_account_5 (by decide) ?_
  refine lv_istore_n (lv' := [(2, .int 0), (0, .ref h0), (1, .int 7)]) hx hb dX11_account_6 rfl hl (by decide) rfl (fun ls hl => ?_)
  refine lv_iload_n hx hb dX11_account_7 rfl (lv_at hl 2 rfl) ?_
  refine lv_tableIn (tgt := 117) (off := 109) hx hb dX11_account_8 (by decide +kernel) (by decide +kernel) (by decide +kernel) (by decide) ?_
  refine lv_aload_n hx hb dX11_account_117 rfl (lv_at hl 1 rfl) ?_
  refine va_get (D := D) (ci := 14) (v := .ref h1) (own := RX11) (C := RX11) (T := TX11) (N := 25) hx hb hts hi_X11 hown hK hP 0 rfl rfl 0 (by decide) (hts (.fieldLink RX11 9 "CanalMapsModel" "now" "[I") (List.mem_of_getElem? (i := 2) (by decide +kernel))) (fun _ h9 => h9) rfl dX11_account_118 ?_
  refine lv_iconst (v := 5) hx hb dX11_account_121 (by decide) ?_
  refine va_iald hx hb hK hP 1 0 rfl rfl (vin_ (by decide +kernel)) dX11_account_122 ?_
  refine kt_ (v := 0) (by decide +kernel) ?_
  refine W.widen (k := 0) (n := 0) (Nat.le_of_ble_eq_true rfl) (Nat.le_of_ble_eq_true rfl) ?_
  exact W.iret (v := 0) hx hb hr (QG_.mk (fun _ => 0) (fun _ => 0) (fun _ => 0) [0, 1] [0] hP hD hK hS rfl trivial rfl (by decide) rfl) hS.2.2 dX11_account_123
set_option maxHeartbeats 4000000 in
set_option maxRecDepth 100000 in
theorem c_X8_countPages_0 (l : Launch) (hl0 : l.stackTraces = false) (D : va_G) (ad : Nat → Nat) (sz : Nat) (h0 : Nat) (v0 : Value) (v1 : Value) (v2 : Value) (v3 : Value) (v4 : Value) (v5 : Value) (v6 : Value) (v7 : Value) (v8 : Value) : Met l yX8_countPages wsX8_countPages ({ frames := 0, cells := 0, slots := 0, locals := 0 }) (PC_ D ad [(h0, .inr (11, [v0, v1, v2, v3, v4, .int 0, v5, v6, v7, v8]))] [] sz [.ref h0]) (QG_ D (fun q i => some (.int 0)) (fun q i => True) (fun q k i => [(h0, .inr (11, [v0, v1, v2, v3, v4, .int 0, v5, v6, v7, v8]))]) (fun q k i => []) (va_A [(h0, .inr (11, [v0, v1, v2, v3, v4, .int 0, v5, v6, v7, v8]))] sz)) 0 0 (va_A [(h0, .inr (11, [v0, v1, v2, v3, v4, .int 0, v5, v6, v7, v8]))] sz) := by
  refine Met.ofW (cc := cX8_countPages) (maxL := 3) (ret := (some .int)) (by decide) rfl ?_
  intro p e s m args below meth c s₁ B hml hv
  obtain ⟨rfl, hsz, hP, hK, hD0, hF⟩ := hv
  have hx := B.exec
  have hb := B.bytes
  have hr := B.returns
  have hts := atoms_spec (ws := wsX8_countPages) B.pre
  have hown : s.vm.findClass RX8 = some m.cls := findClass_of_methodNamed B.named
  have hlocks := B.notSynchronized
  subst hsz
  have hD := hD0.self (sz := s.heap.size)
  generalize hAe : va_A [(h0, .inr (11, [v0, v1, v2, v3, v4, .int 0, v5, v6, v7, v8]))] s.heap.size = A at hD hF ⊢
  have hA : ∀ q : Nat, s.heap.size ≤ q → A q := fun q h => by rw [← hAe]; exact Or.inr h
  obtain ⟨H, hHe⟩ : ∃ H : Heap, H = s.heap := ⟨_, rfl⟩
  have hS : va_S A s.heap H [] := by rw [hHe]; exact va_S.rf
  have hP : va_P D vwCl [(h0, .inr (11, [v0, v1, v2, v3, v4, .int 0, v5, v6, v7, v8]))] H := by rw [hHe]; exact hP
  rw [← hHe]
  have hi_X8 : ∀ w ∈ wsX80, w ∈ wsX8_countPages := by decide +kernel
  have hl := lv_entry [.ref h0] (n := 3) (Nat.le_of_ble_eq_true rfl)
  rw [lg_entry_eq]
  generalize (lg_sl [.ref h0] ++ List.replicate (3 - (lg_sl [.ref h0]).length) Slot.unset).toArray = ls at hl ⊢
  have hl : lv_has ls 3 [(0, .ref h0)] := hl
  refine lv_iconst (v := 0) hx hb dX8_countPages_0 (by decide) ?_
  refine lv_istore_n (lv' := [(1, .int 0), (0, .ref h0)]) hx hb dX8_countPages_1 rfl hl (by decide) rfl (fun ls hl => ?_)
  refine lv_iconst (v := 0) hx hb dX8_countPages_2 (by decide) ?_
  refine lv_istore_n (lv' := [(2, .int 0), (1, .int 0), (0, .ref h0)]) hx hb dX8_countPages_3 rfl hl (by decide) rfl (fun ls hl => ?_)
  refine lv_iload_n hx hb dX8_countPages_4 rfl (lv_at hl 0 rfl) ?_
  refine lv_aload_n hx hb dX8_countPages_5 rfl (lv_at hl 2 rfl) ?_
  refine va_get (D := D) (ci := 11) (v := .int 0) (own := RX8) (C := RX8) (T := TX8) (N := 10) hx hb hts hi_X8 hown hK hP 0 rfl rfl 5 (by decide) (hts (.fieldLink RX8 28 "CanalMaps$Survey" "surveyors" "I") (List.mem_of_getElem? (i := 1) (by decide +kernel))) (fun _ h9 => h9) rfl dX8_countPages_6 ?_
  refine lv_icmp_ge (tgt := 26) hx hb dX8_countPages_9 (by decide) (fun _ => ?_) (fun c9 => absurd (by decide +kernel) c9)
  refine lv_iload_n hx hb dX8_countPages_26 rfl (lv_at hl 1 rfl) ?_
  refine W.widen (k := 0) (n := 0) (Nat.le_of_ble_eq_true rfl) (Nat.le_of_ble_eq_true rfl) ?_
  exact W.iret (v := 0) hx hb hr (QG_.mk (fun _ => 0) (fun _ => 0) (fun _ => 0) [0] [] hP hD hK hS rfl trivial rfl (by decide) rfl) hS.2.2 dX8_countPages_27
set_option maxHeartbeats 4000000 in
set_option maxRecDepth 100000 in
theorem c_X10_account_8 (l : Launch) (hl0 : l.stackTraces = false) (D : va_G) (ad : Nat → Nat) (sz : Nat) (h0 : Nat) (h1 : Nat) (v0 : Value) (v1 : Value) (v2 : Value) (v3 : Value) (v4 : Value) (v5 : Value) (v6 : Value) (v7 : Value) (v8 : Value) (v9 : Value) (v10 : Value) (v11 : Value) (v12 : Value) (v13 : Value) (v14 : Value) (v15 : Value) (v16 : Value) (v17 : Value) : Met l yX10_account wsX10_account ({ frames := 1, cells := 0, slots := 0, locals := 24 }) (PC_ D ad [(h0, .inr (13, [.ref h1, v0, v1, v2, v3, v4, v5, v6, v7, v8])), (h1, .inr (11, [v9, v10, v11, v12, v13, .int 0, v14, v15, v16, v17]))] [] sz [.ref h0, .int 8]) (QG_ D (fun q i => some (.int 0)) (fun q i => True) (fun q k i => [(h0, .inr (13, [.ref h1, v0, v1, v2, v3, v4, v5, v6, v7, v8])), (h1, .inr (11, [v9, v10, v11, v12, v13, .int 0, v14, v15, v16, v17]))]) (fun q k i => []) (va_A [(h0, .inr (13, [.ref h1, v0, v1, v2, v3, v4, v5, v6, v7, v8])), (h1, .inr (11, [v9, v10, v11, v12, v13, .int 0, v14, v15, v16, v17]))] sz)) 0 0 (va_A [(h0, .inr (13, [.ref h1, v0, v1, v2, v3, v4, v5, v6, v7, v8])), (h1, .inr (11, [v9, v10, v11, v12, v13, .int 0, v14, v15, v16, v17]))] sz) := by
  refine Met.ofW (cc := cX10_account) (maxL := 2) (ret := (some .int)) (by decide) rfl ?_
  intro p e s m args below meth c s₁ B hml hv
  obtain ⟨rfl, hsz, hP, hK, hD0, hF⟩ := hv
  have hx := B.exec
  have hb := B.bytes
  have hr := B.returns
  have hts := atoms_spec (ws := wsX10_account) B.pre
  have hown : s.vm.findClass RX10 = some m.cls := findClass_of_methodNamed B.named
  have hlocks := B.notSynchronized
  subst hsz
  have hD := hD0.self (sz := s.heap.size)
  generalize hAe : va_A [(h0, .inr (13, [.ref h1, v0, v1, v2, v3, v4, v5, v6, v7, v8])), (h1, .inr (11, [v9, v10, v11, v12, v13, .int 0, v14, v15, v16, v17]))] s.heap.size = A at hD hF ⊢
  have hA : ∀ q : Nat, s.heap.size ≤ q → A q := fun q h => by rw [← hAe]; exact Or.inr h
  obtain ⟨H, hHe⟩ : ∃ H : Heap, H = s.heap := ⟨_, rfl⟩
  have hS : va_S A s.heap H [] := by rw [hHe]; exact va_S.rf
  have hP : va_P D vwCl [(h0, .inr (13, [.ref h1, v0, v1, v2, v3, v4, v5, v6, v7, v8])), (h1, .inr (11, [v9, v10, v11, v12, v13, .int 0, v14, v15, v16, v17]))] H := by rw [hHe]; exact hP
  rw [← hHe]
  have hi_X10 : ∀ w ∈ wsX100, w ∈ wsX10_account := by decide +kernel
  have hl := lv_entry [.ref h0, .int 8] (n := 2) (Nat.le_of_ble_eq_true rfl)
  rw [lg_entry_eq]
  generalize (lg_sl [.ref h0, .int 8] ++ List.replicate (2 - (lg_sl [.ref h0, .int 8]).length) Slot.unset).toArray = ls at hl ⊢
  have hl : lv_has ls 2 [(0, .ref h0), (1, .int 8)] := hl
  refine lv_iload_n hx hb dX10_account_0 rfl (lv_at hl 1 rfl) ?_
  refine lv_tableIn (tgt := 130) (off := 129) hx hb dX10_account_1 (by decide +kernel) (by decide +kernel) (by decide +kernel) (by decide) ?_
  refine lv_aload_n hx hb dX10_account_130 rfl (lv_at hl 0 rfl) ?_
  refine va_get (D := D) (ci := 13) (v := .ref h1) (own := RX10) (C := RX10) (T := TX10) (N := 10) hx hb hts hi_X10 hown hK hP 0 rfl rfl 0 (by decide) (hts (.fieldLink RX10 50 "CanalMaps" "now" "LCanalMaps$Survey;") (List.mem_of_getElem? (i := 3) (by decide +kernel))) (fun _ h9 => h9) rfl dX10_account_131 ?_
  refine kc_ (wc := [(h1, .inr (11, [v9, v10, v11, v12, v13, .int 0, v14, v15, v16, v17]))]) (wr := [(h0, .inr (13, [.ref h1, v0, v1, v2, v3, v4, v5, v6, v7, v8]))]) (va_runV (As := []) (rest := []) ⟨hx, hb, hml, hown, hts⟩ (c_X8_countPages_0 l hl0 D ad H.size h1 (v9) (v10) (v11) (v12) (v13) (v14) (v15) (v16) (v17)) (cwV 0 hts gX10_account_X8_countPages rfl rfl rfl (by decide +kernel) ⟨Nat.le_of_ble_eq_true rfl, Nat.le_of_ble_eq_true rfl⟩) ⟨PC_.blind, va_recv hK hP (ci := 11) (q0 := 1) rfl rfl, PC_.pre hF hK hP hD hS hA [1] [] rfl (by decide) rfl⟩ rfl rfl hl.1 rfl (lv_room (Nat.le_of_ble_eq_true rfl)) dX10_account_134 ⟨Nat.le_of_ble_eq_true rfl, Nat.le_of_ble_eq_true rfl⟩) hK hP hD hS hA [1] [0] [] rfl rfl (by decide) (by decide) rfl (fun qa_1 ka_1 ia_1 H locs hpo hP hD hK hS => ?_)
  have hP : va_P D vwCl [(h0, .inr (13, [.ref h1, v0, v1, v2, v3, v4, v5, v6, v7, v8])), (h1, .inr (11, [v9, v10, v11, v12, v13, .int 0, v14, v15, v16, v17]))] H := hP
  have hD : va_D A [(h0, .inr (13, [.ref h1, v0, v1, v2, v3, v4, v5, v6, v7, v8])), (h1, .inr (11, [v9, v10, v11, v12, v13, .int 0, v14, v15, v16, v17]))] := hD
  have hK : va_K D vwCl [] s := hK
  refine W.eq (g2 := F0 m 137 ls [.int 0]) rfl ?_
  refine W.widen (k := 0) (n := 0) (Nat.le_of_ble_eq_true rfl) (Nat.le_of_ble_eq_true rfl) ?_
  exact W.iret (v := 0) hx hb hr (QG_.mk (fun _ => 0) (fun _ => 0) (fun _ => 0) [0, 1] [] hP hD hK hS rfl trivial rfl (by decide) rfl) hS.2.2 dX10_account_137
set_option maxHeartbeats 4000000 in
set_option maxRecDepth 100000 in
theorem c_L_account_8 (l : Launch) (hl0 : l.stackTraces = false) (D : va_G) (ad : Nat → Nat) (sz : Nat) (h0 : Nat) (h1 : Nat) (h2 : Nat) (k2 : ClassId) (v0 : Value) (v1 : Value) (v2 : Value) (v3 : Value) (v4 : Value) (v5 : Value) (v6 : Value) (v7 : Value) (v8 : Value) (v9 : Value) (v10 : Value) (v11 : Value) (v12 : Value) (v13 : Value) (v14 : Value) (v15 : Value) (v16 : Value) (v17 : Value) (f0 : Nat → Int64) : Met l yL_account wsL_account ({ frames := 2, cells := 0, slots := 0, locals := 47 }) (PC_ D ad [(h0, .inr (13, [.ref h1, v0, v1, v2, v3, v4, v5, v6, v7, v8])), (h1, .inr (11, [v9, v10, v11, v12, v13, .int 0, v14, v15, v16, v17])), (h2, .inl (k2, 1, .inr (.inl f0)))] [(k2, .long)] sz [.ref h0, .int 8, .ref h2]) (QG_ D (fun q i => some (.int 0)) (fun q i => True) (fun q k i => [(h0, .inr (13, [.ref h1, v0, v1, v2, v3, v4, v5, v6, v7, v8])), (h1, .inr (11, [v9, v10, v11, v12, v13, .int 0, v14, v15, v16, v17])), (h2, .inl (k2, 1, .inr (.inl (vp_updL f0 0 0))))]) (fun q k i => [(k2, .long)]) (va_A [(h0, .inr (13, [.ref h1, v0, v1, v2, v3, v4, v5, v6, v7, v8])), (h1, .inr (11, [v9, v10, v11, v12, v13, .int 0, v14, v15, v16, v17])), (h2, .inl (k2, 1, .inr (.inl f0)))] sz)) 0 0 (va_A [(h0, .inr (13, [.ref h1, v0, v1, v2, v3, v4, v5, v6, v7, v8])), (h1, .inr (11, [v9, v10, v11, v12, v13, .int 0, v14, v15, v16, v17])), (h2, .inl (k2, 1, .inr (.inl f0)))] sz) := by
  refine va_MetW (cc := cL_account) (maxL := 4) (ret := (some .int)) (by decide) rfl ?_
  intro p e s m args below meth c s₁ B hml hv
  obtain ⟨rfl, hsz, hP, hK, hD0, hF⟩ := hv
  have hx := B.exec
  have hb := B.bytes
  have hr := B.returns
  have hts := atoms_spec (ws := wsL_account) B.pre
  have hown : s.vm.findClass RL = some m.cls := findClass_of_methodNamed B.named
  have hlocks := B.notSynchronized
  have htb := vx_table (x := yL_account) B (hts _ (List.mem_cons_self))
  subst hsz
  have hD := hD0.self (sz := s.heap.size)
  generalize hAe : va_A [(h0, .inr (13, [.ref h1, v0, v1, v2, v3, v4, v5, v6, v7, v8])), (h1, .inr (11, [v9, v10, v11, v12, v13, .int 0, v14, v15, v16, v17])), (h2, .inl (k2, 1, .inr (.inl f0)))] s.heap.size = A at hD hF ⊢
  have hA : ∀ q : Nat, s.heap.size ≤ q → A q := fun q h => by rw [← hAe]; exact Or.inr h
  obtain ⟨H, hHe⟩ : ∃ H : Heap, H = s.heap := ⟨_, rfl⟩
  have hS : va_S A s.heap H [] := by rw [hHe]; exact va_S.rf
  have hP : va_P D vwCl [(h0, .inr (13, [.ref h1, v0, v1, v2, v3, v4, v5, v6, v7, v8])), (h1, .inr (11, [v9, v10, v11, v12, v13, .int 0, v14, v15, v16, v17])), (h2, .inl (k2, 1, .inr (.inl f0)))] H := by rw [hHe]; exact hP
  rw [← hHe]
  have hl := lv_entry [.ref h0, .int 8, .ref h2] (n := 4) (Nat.le_of_ble_eq_true rfl)
  rw [lg_entry_eq]
  generalize (lg_sl [.ref h0, .int 8, .ref h2] ++ List.replicate (4 - (lg_sl [.ref h0, .int 8, .ref h2]).length) Slot.unset).toArray = ls at hl ⊢
  have hl : lv_has ls 4 [(0, .ref h0), (1, .int 8), (2, .ref h2)] := hl
  refine lv_aload_n hx hb dL_account_0 rfl (lv_at hl 2 rfl) ?_
  refine lv_iconst (v := 0) hx hb dL_account_1 (by decide) ?_
  refine lv_aload_n hx hb dL_account_2 rfl (lv_at hl 0 rfl) ?_
  refine lv_iload_n hx hb dL_account_3 rfl (lv_at hl 1 rfl) ?_
  refine kc_ (wc := [(h0, .inr (13, [.ref h1, v0, v1, v2, v3, v4, v5, v6, v7, v8])), (h1, .inr (11, [v9, v10, v11, v12, v13, .int 0, v14, v15, v16, v17]))]) (wr := [(h2, .inl (k2, 1, .inr (.inl f0)))]) (va_runV (As := [.int 8]) (rest := [.int 0, .ref h2]) ⟨hx, hb, hml, hown, hts⟩ (c_X10_account_8 l hl0 D ad H.size h0 h1 (v0) (v1) (v2) (v3) (v4) (v5) (v6) (v7) (v8) (v9) (v10) (v11) (v12) (v13) (v14) (v15) (v16) (v17)) (cwV 1 hts gL_account_X10_account rfl rfl rfl (by decide +kernel) ⟨Nat.le_of_ble_eq_true rfl, Nat.le_of_ble_eq_true rfl⟩) ⟨PC_.blind, va_recv hK hP (ci := 13) (q0 := 0) rfl rfl, PC_.pre hF hK hP hD hS hA [0, 1] [] rfl (by decide) rfl⟩ rfl rfl hl.1 rfl (lv_room (Nat.le_of_ble_eq_true rfl)) dL_account_4 ⟨Nat.le_of_ble_eq_true rfl, Nat.le_of_ble_eq_true rfl⟩) hK hP hD hS hA [0, 1] [2] [0] rfl rfl (by decide) (by decide) rfl (fun qa_1 ka_1 ia_1 H locs hpo hP hD hK hS => ?_)
  have hP : va_P D vwCl [(h2, .inl (k2, 1, .inr (.inl f0))), (h0, .inr (13, [.ref h1, v0, v1, v2, v3, v4, v5, v6, v7, v8])), (h1, .inr (11, [v9, v10, v11, v12, v13, .int 0, v14, v15, v16, v17]))] H := hP
  have hD : va_D A [(h2, .inl (k2, 1, .inr (.inl f0))), (h0, .inr (13, [.ref h1, v0, v1, v2, v3, v4, v5, v6, v7, v8])), (h1, .inr (11, [v9, v10, v11, v12, v13, .int 0, v14, v15, v16, v17]))] := hD
  have hK : va_K D vwCl [(k2, .long)] s := hK
  refine W.eq (g2 := F0 m 7 ls [.int 0, .int 0, .ref h2]) rfl ?_
  refine lv_i2l (v := 0) hx hb dL_account_7 (by decide +kernel) ?_
  refine ka_last (g := (vp_updL f0 0 0)) hx hb hK hP hD hS 0 0 rfl rfl (vin_ (by decide +kernel)) (congrArg (fun z9 => vp_updL _ z9 _) (by decide +kernel)) dL_account_8 (fun H locs hP hD hS => ?_)
  have hP : va_P D vwCl [(h2, .inl (k2, 1, .inr (.inl (vp_updL f0 0 0)))), (h0, .inr (13, [.ref h1, v0, v1, v2, v3, v4, v5, v6, v7, v8])), (h1, .inr (11, [v9, v10, v11, v12, v13, .int 0, v14, v15, v16, v17]))] H := hP
  have hD : va_D A [(h2, .inl (k2, 1, .inr (.inl (vp_updL f0 0 0)))), (h0, .inr (13, [.ref h1, v0, v1, v2, v3, v4, v5, v6, v7, v8])), (h1, .inr (11, [v9, v10, v11, v12, v13, .int 0, v14, v15, v16, v17]))] := hD
  refine lv_goto (tgt := 15) hx hb dL_account_9 (by decide) ?_
  refine lv_iconst (v := 0) hx hb dL_account_15 (by decide) ?_
  refine W.widen (k := 0) (n := 0) (Nat.le_of_ble_eq_true rfl) (Nat.le_of_ble_eq_true rfl) ?_
  exact W.iret (v := 0) hx hb hr (QG_.mk (fun _ => 0) (fun _ => 0) (fun _ => 0) [1, 2, 0] [0] hP hD hK hS rfl trivial rfl (by decide) rfl) hS.2.2 dL_account_16
set_option maxHeartbeats 4000000 in
set_option maxRecDepth 100000 in
theorem c_X11_account_8 (l : Launch) (hl0 : l.stackTraces = false) (D : va_G) (ad : Nat → Nat) (sz : Nat) (h0 : Nat) (h1 : Nat) (k1 : ClassId) (v0 : Value) (v1 : Value) (v2 : Value) (v3 : Value) (v4 : Value) (v5 : Value) (v6 : Value) (v7 : Value) (v8 : Value) (v9 : Value) (v10 : Value) (v11 : Value) (v12 : Value) (v13 : Value) (v14 : Value) (v15 : Value) (v16 : Value) (v17 : Value) (v18 : Value) (v19 : Value) (v20 : Value) (v21 : Value) (v22 : Value) (v23 : Value) : Met l yX11_account wsX11_account ({ frames := 0, cells := 0, slots := 0, locals := 0 }) (PC_ D ad [(h0, .inr (14, [.ref h1, v0, v1, v2, v3, v4, v5, v6, v7, v8, v9, v10, v11, v12, v13, v14, v15, v16, v17, v18, v19, v20, v21, v22, v23])), (h1, .inl (k1, 8277, .inl (fun _ => 0)))] [(k1, .int)] sz [.ref h0, .int 8]) (QG_ D (fun q i => some (.int 0)) (fun q i => True) (fun q k i => [(h0, .inr (14, [.ref h1, v0, v1, v2, v3, v4, v5, v6, v7, v8, v9, v10, v11, v12, v13, v14, v15, v16, v17, v18, v19, v20, v21, .int 0, v23])), (h1, .inl (k1, 8277, .inl (fun _ => 0)))]) (fun q k i => [(k1, .int)]) (va_A [(h0, .inr (14, [.ref h1, v0, v1, v2, v3, v4, v5, v6, v7, v8, v9, v10, v11, v12, v13, v14, v15, v16, v17, v18, v19, v20, v21, v22, v23])), (h1, .inl (k1, 8277, .inl (fun _ => 0)))] sz)) 0 0 (va_A [(h0, .inr (14, [.ref h1, v0, v1, v2, v3, v4, v5, v6, v7, v8, v9, v10, v11, v12, v13, v14, v15, v16, v17, v18, v19, v20, v21, v22, v23])), (h1, .inl (k1, 8277, .inl (fun _ => 0)))] sz) := by
  refine Met.ofW (cc := cX11_account) (maxL := 4) (ret := (some .int)) (by decide) rfl ?_
  intro p e s m args below meth c s₁ B hml hv
  obtain ⟨rfl, hsz, hP, hK, hD0, hF⟩ := hv
  have hx := B.exec
  have hb := B.bytes
  have hr := B.returns
  have hts := atoms_spec (ws := wsX11_account) B.pre
  have hown : s.vm.findClass RX11 = some m.cls := findClass_of_methodNamed B.named
  have hlocks := B.notSynchronized
  subst hsz
  have hD := hD0.self (sz := s.heap.size)
  generalize hAe : va_A [(h0, .inr (14, [.ref h1, v0, v1, v2, v3, v4, v5, v6, v7, v8, v9, v10, v11, v12, v13, v14, v15, v16, v17, v18, v19, v20, v21, v22, v23])), (h1, .inl (k1, 8277, .inl (fun _ => 0)))] s.heap.size = A at hD hF ⊢
  have hA : ∀ q : Nat, s.heap.size ≤ q → A q := fun q h => by rw [← hAe]; exact Or.inr h
  obtain ⟨H, hHe⟩ : ∃ H : Heap, H = s.heap := ⟨_, rfl⟩
  have hS : va_S A s.heap H [] := by rw [hHe]; exact va_S.rf
  have hP : va_P D vwCl [(h0, .inr (14, [.ref h1, v0, v1, v2, v3, v4, v5, v6, v7, v8, v9, v10, v11, v12, v13, v14, v15, v16, v17, v18, v19, v20, v21, v22, v23])), (h1, .inl (k1, 8277, .inl (fun _ => 0)))] H := by rw [hHe]; exact hP
  rw [← hHe]
  have hi_X11 : ∀ w ∈ wsX110, w ∈ wsX11_account := by decide +kernel
  have hl := lv_entry [.ref h0, .int 8] (n := 4) (Nat.le_of_ble_eq_true rfl)
  rw [lg_entry_eq]
  generalize (lg_sl [.ref h0, .int 8] ++ List.replicate (4 - (lg_sl [.ref h0, .int 8]).length) Slot.unset).toArray = ls at hl ⊢
  have hl : lv_has ls 4 [(0, .ref h0), (1, .int 8)] := hl
  refine lv_aload_n hx hb dX11_account_0 rfl (lv_at hl 0 rfl) ?_
  refine lv_iconst (v := 0) hx hb dX11_account_1 (by decide) ?_
  refine va_put (D := D) (ci := 14) (v := .int 0) (ty := .int) (own := RX11) (C := RX11) (T := TX11) (N := 25) hx hb hts hi_X11 tyX11 tyX11_ok nmX11 hown hK hP hD hS 0 rfl rfl 23 (by decide) (hts (.fieldLink RX11 47 "CanalMapsModel" "thrown" "I") (List.mem_of_getElem? (i := 1) (by decide +kernel))) (fun _ h9 => h9) rfl (by decide +kernel) rfl rfl (Nat.le_of_ble_eq_true rfl) dX11_account_2 (fun H locs hP hD hS => ?_)
  have hP : va_P D vwCl [(h0, .inr (14, [.ref h1, v0, v1, v2, v3, v4, v5, v6, v7, v8, v9, v10, v11, v12, v13, v14, v15, v16, v17, v18, v19, v20, v21, .int 0, v23])), (h1, .inl (k1, 8277, .inl (fun _ => 0)))] H := hP
  have hD : va_D A [(h0, .inr (14, [.ref h1, v0, v1, v2, v3, v4, v5, v6, v7, v8, v9, v10, v11, v12, v13, v14, v15, v16, v17, v18, v19, v20, v21, .int 0, v23])), (h1, .inl (k1, 8277, .inl (fun _ => 0)))] := hD
  refine lv_iconst (v := 0) hx hb dX11_account_5 (by decide) ?_
  refine lv_istore_n (lv' := [(2, .int 0), (0, .ref h0), (1, .int 8)]) hx hb dX11_account_6 rfl hl (by decide) rfl (fun ls hl => ?_)
  refine lv_iload_n hx hb dX11_account_7 rfl (lv_at hl 2 rfl) ?_
  refine lv_tableIn (tgt := 124) (off := 116) hx hb dX11_account_8 (by decide +kernel) (by decide +kernel) (by decide +kernel) (by decide) ?_
  refine lv_iconst (v := 0) hx hb dX11_account_124 (by decide) ?_
  refine lv_istore_n (lv' := [(3, .int 0), (2, .int 0), (0, .ref h0), (1, .int 8)]) hx hb dX11_account_125 rfl hl (by decide) rfl (fun ls hl => ?_)
  refine lv_iload_n hx hb dX11_account_126 rfl (lv_at hl 0 rfl) ?_
  refine lv_aload_n hx hb dX11_account_127 rfl (lv_at hl 2 rfl) ?_
  refine va_get (D := D) (ci := 14) (v := .ref h1) (own := RX11) (C := RX11) (T := TX11) (N := 25) hx hb hts hi_X11 hown hK hP 0 rfl rfl 0 (by decide) (hts (.fieldLink RX11 9 "CanalMapsModel" "now" "[I") (List.mem_of_getElem? (i := 2) (by decide +kernel))) (fun _ h9 => h9) rfl dX11_account_128 ?_
  refine lv_iconst (v := 0) hx hb dX11_account_131 (by decide) ?_
  refine va_iald hx hb hK hP 1 0 rfl rfl (vin_ (by decide +kernel)) dX11_account_132 ?_
  refine kt_ (v := 0) (by decide +kernel) ?_
  refine lv_icmp_ge (tgt := 150) hx hb dX11_account_133 (by decide) (fun _ => ?_) (fun c9 => absurd (by decide +kernel) c9)
  refine lv_iload_n hx hb dX11_account_150 rfl (lv_at hl 1 rfl) ?_
  refine W.widen (k := 0) (n := 0) (Nat.le_of_ble_eq_true rfl) (Nat.le_of_ble_eq_true rfl) ?_
  exact W.iret (v := 0) hx hb hr (QG_.mk (fun _ => 0) (fun _ => 0) (fun _ => 0) [0, 1] [0] hP hD hK hS rfl trivial rfl (by decide) rfl) hS.2.2 dX11_account_151
set_option maxHeartbeats 4000000 in
set_option maxRecDepth 100000 in
theorem c_X10_account_9 (l : Launch) (hl0 : l.stackTraces = false) (D : va_G) (ad : Nat → Nat) (sz : Nat) (h0 : Nat) (h1 : Nat) (v0 : Value) (v1 : Value) (v2 : Value) (v3 : Value) (v4 : Value) (v5 : Value) (v6 : Value) (v7 : Value) (v8 : Value) (v9 : Value) (v10 : Value) : Met l yX10_account wsX10_account ({ frames := 0, cells := 0, slots := 0, locals := 0 }) (PC_ D ad [(h0, .inr (13, [v0, v1, v2, .ref h1, v3, v4, v5, v6, v7, v8])), (h1, .inr (7, [v9, v10, .int 0]))] [] sz [.ref h0, .int 9]) (QG_ D (fun q i => some (.int 0)) (fun q i => True) (fun q k i => [(h0, .inr (13, [v0, v1, v2, .ref h1, v3, v4, v5, v6, v7, v8])), (h1, .inr (7, [v9, v10, .int 0]))]) (fun q k i => []) (va_A [(h0, .inr (13, [v0, v1, v2, .ref h1, v3, v4, v5, v6, v7, v8])), (h1, .inr (7, [v9, v10, .int 0]))] sz)) 0 0 (va_A [(h0, .inr (13, [v0, v1, v2, .ref h1, v3, v4, v5, v6, v7, v8])), (h1, .inr (7, [v9, v10, .int 0]))] sz) := by
  refine Met.ofW (cc := cX10_account) (maxL := 2) (ret := (some .int)) (by decide) rfl ?_
  intro p e s m args below meth c s₁ B hml hv
  obtain ⟨rfl, hsz, hP, hK, hD0, hF⟩ := hv
  have hx := B.exec
  have hb := B.bytes
  have hr := B.returns
  have hts := atoms_spec (ws := wsX10_account) B.pre
  have hown : s.vm.findClass RX10 = some m.cls := findClass_of_methodNamed B.named
  have hlocks := B.notSynchronized
  subst hsz
  have hD := hD0.self (sz := s.heap.size)
  generalize hAe : va_A [(h0, .inr (13, [v0, v1, v2, .ref h1, v3, v4, v5, v6, v7, v8])), (h1, .inr (7, [v9, v10, .int 0]))] s.heap.size = A at hD hF ⊢
  have hA : ∀ q : Nat, s.heap.size ≤ q → A q := fun q h => by rw [← hAe]; exact Or.inr h
  obtain ⟨H, hHe⟩ : ∃ H : Heap, H = s.heap := ⟨_, rfl⟩
  have hS : va_S A s.heap H [] := by rw [hHe]; exact va_S.rf
  have hP : va_P D vwCl [(h0, .inr (13, [v0, v1, v2, .ref h1, v3, v4, v5, v6, v7, v8])), (h1, .inr (7, [v9, v10, .int 0]))] H := by rw [hHe]; exact hP
  rw [← hHe]
  have hi_X10 : ∀ w ∈ wsX100, w ∈ wsX10_account := by decide +kernel
  have hi_X4 : ∀ w ∈ wsX40, w ∈ wsX10_account := by decide +kernel
  have hl := lv_entry [.ref h0, .int 9] (n := 2) (Nat.le_of_ble_eq_true rfl)
  rw [lg_entry_eq]
  generalize (lg_sl [.ref h0, .int 9] ++ List.replicate (2 - (lg_sl [.ref h0, .int 9]).length) Slot.unset).toArray = ls at hl ⊢
  have hl : lv_has ls 2 [(0, .ref h0), (1, .int 9)] := hl
  refine lv_iload_n hx hb dX10_account_0 rfl (lv_at hl 1 rfl) ?_
  refine lv_tableIn (tgt := 138) (off := 137) hx hb dX10_account_1 (by decide +kernel) (by decide +kernel) (by decide +kernel) (by decide) ?_
  refine lv_aload_n hx hb dX10_account_138 rfl (lv_at hl 0 rfl) ?_
  refine va_get (D := D) (ci := 13) (v := .ref h1) (own := RX10) (C := RX10) (T := TX10) (N := 10) hx hb hts hi_X10 hown hK hP 0 rfl rfl 3 (by decide) (hts (.fieldLink RX10 63 "CanalMaps" "history" "LCanalMaps$History;") (List.mem_of_getElem? (i := 4) (by decide +kernel))) (fun _ h9 => h9) rfl dX10_account_139 ?_
  refine va_getN (D := D) (ci := 7) (v := .int 0) (own := RX10) (C := RX4) (T := TX4) (N := 3) hx hb hts hi_X4 hown hK hP 1 rfl rfl 2 (by decide) (fxn_ hF (RX10, 381, "CanalMaps$History", "count", "I")) (fun _ h9 => h9) rfl dX10_account_142 ?_
  refine W.widen (k := 0) (n := 0) (Nat.le_of_ble_eq_true rfl) (Nat.le_of_ble_eq_true rfl) ?_
  exact W.iret (v := 0) hx hb hr (QG_.mk (fun _ => 0) (fun _ => 0) (fun _ => 0) [0, 1] [] hP hD hK hS rfl trivial rfl (by decide) rfl) hS.2.2 dX10_account_145
set_option maxHeartbeats 4000000 in
set_option maxRecDepth 100000 in
theorem c_L_account_9 (l : Launch) (hl0 : l.stackTraces = false) (D : va_G) (ad : Nat → Nat) (sz : Nat) (h0 : Nat) (h1 : Nat) (h2 : Nat) (k2 : ClassId) (v0 : Value) (v1 : Value) (v2 : Value) (v3 : Value) (v4 : Value) (v5 : Value) (v6 : Value) (v7 : Value) (v8 : Value) (v9 : Value) (v10 : Value) (f0 : Nat → Int64) : Met l yL_account wsL_account ({ frames := 1, cells := 0, slots := 0, locals := 23 }) (PC_ D ad [(h0, .inr (13, [v0, v1, v2, .ref h1, v3, v4, v5, v6, v7, v8])), (h1, .inr (7, [v9, v10, .int 0])), (h2, .inl (k2, 1, .inr (.inl f0)))] [(k2, .long)] sz [.ref h0, .int 9, .ref h2]) (QG_ D (fun q i => some (.int 0)) (fun q i => True) (fun q k i => [(h0, .inr (13, [v0, v1, v2, .ref h1, v3, v4, v5, v6, v7, v8])), (h1, .inr (7, [v9, v10, .int 0])), (h2, .inl (k2, 1, .inr (.inl (vp_updL f0 0 0))))]) (fun q k i => [(k2, .long)]) (va_A [(h0, .inr (13, [v0, v1, v2, .ref h1, v3, v4, v5, v6, v7, v8])), (h1, .inr (7, [v9, v10, .int 0])), (h2, .inl (k2, 1, .inr (.inl f0)))] sz)) 0 0 (va_A [(h0, .inr (13, [v0, v1, v2, .ref h1, v3, v4, v5, v6, v7, v8])), (h1, .inr (7, [v9, v10, .int 0])), (h2, .inl (k2, 1, .inr (.inl f0)))] sz) := by
  refine va_MetW (cc := cL_account) (maxL := 4) (ret := (some .int)) (by decide) rfl ?_
  intro p e s m args below meth c s₁ B hml hv
  obtain ⟨rfl, hsz, hP, hK, hD0, hF⟩ := hv
  have hx := B.exec
  have hb := B.bytes
  have hr := B.returns
  have hts := atoms_spec (ws := wsL_account) B.pre
  have hown : s.vm.findClass RL = some m.cls := findClass_of_methodNamed B.named
  have hlocks := B.notSynchronized
  have htb := vx_table (x := yL_account) B (hts _ (List.mem_cons_self))
  subst hsz
  have hD := hD0.self (sz := s.heap.size)
  generalize hAe : va_A [(h0, .inr (13, [v0, v1, v2, .ref h1, v3, v4, v5, v6, v7, v8])), (h1, .inr (7, [v9, v10, .int 0])), (h2, .inl (k2, 1, .inr (.inl f0)))] s.heap.size = A at hD hF ⊢
  have hA : ∀ q : Nat, s.heap.size ≤ q → A q := fun q h => by rw [← hAe]; exact Or.inr h
  obtain ⟨H, hHe⟩ : ∃ H : Heap, H = s.heap := ⟨_, rfl⟩
  have hS : va_S A s.heap H [] := by rw [hHe]; exact va_S.rf
  have hP : va_P D vwCl [(h0, .inr (13, [v0, v1, v2, .ref h1, v3, v4, v5, v6, v7, v8])), (h1, .inr (7, [v9, v10, .int 0])), (h2, .inl (k2, 1, .inr (.inl f0)))] H := by rw [hHe]; exact hP
  rw [← hHe]
  have hl := lv_entry [.ref h0, .int 9, .ref h2] (n := 4) (Nat.le_of_ble_eq_true rfl)
  rw [lg_entry_eq]
  generalize (lg_sl [.ref h0, .int 9, .ref h2] ++ List.replicate (4 - (lg_sl [.ref h0, .int 9, .ref h2]).length) Slot.unset).toArray = ls at hl ⊢
  have hl : lv_has ls 4 [(0, .ref h0), (1, .int 9), (2, .ref h2)] := hl
  refine lv_aload_n hx hb dL_account_0 rfl (lv_at hl 2 rfl) ?_
  refine lv_iconst (v := 0) hx hb dL_account_1 (by decide) ?_
  refine lv_aload_n hx hb dL_account_2 rfl (lv_at hl 0 rfl) ?_
  refine lv_iload_n hx hb dL_account_3 rfl (lv_at hl 1 rfl) ?_
  refine kc_ (wc := [(h0, .inr (13, [v0, v1, v2, .ref h1, v3, v4, v5, v6, v7, v8])), (h1, .inr (7, [v9, v10, .int 0]))]) (wr := [(h2, .inl (k2, 1, .inr (.inl f0)))]) (va_runV (As := [.int 9]) (rest := [.int 0, .ref h2]) ⟨hx, hb, hml, hown, hts⟩ (c_X10_account_9 l hl0 D ad H.size h0 h1 (v0) (v1) (v2) (v3) (v4) (v5) (v6) (v7) (v8) (v9) (v10)) (cwV 1 hts gL_account_X10_account rfl rfl rfl (by decide +kernel) ⟨Nat.le_of_ble_eq_true rfl, Nat.le_of_ble_eq_true rfl⟩) ⟨PC_.blind, va_recv hK hP (ci := 13) (q0 := 0) rfl rfl, PC_.pre hF hK hP hD hS hA [0, 1] [] rfl (by decide) rfl⟩ rfl rfl hl.1 rfl (lv_room (Nat.le_of_ble_eq_true rfl)) dL_account_4 ⟨Nat.le_of_ble_eq_true rfl, Nat.le_of_ble_eq_true rfl⟩) hK hP hD hS hA [0, 1] [2] [0] rfl rfl (by decide) (by decide) rfl (fun qa_1 ka_1 ia_1 H locs hpo hP hD hK hS => ?_)
  have hP : va_P D vwCl [(h2, .inl (k2, 1, .inr (.inl f0))), (h0, .inr (13, [v0, v1, v2, .ref h1, v3, v4, v5, v6, v7, v8])), (h1, .inr (7, [v9, v10, .int 0]))] H := hP
  have hD : va_D A [(h2, .inl (k2, 1, .inr (.inl f0))), (h0, .inr (13, [v0, v1, v2, .ref h1, v3, v4, v5, v6, v7, v8])), (h1, .inr (7, [v9, v10, .int 0]))] := hD
  have hK : va_K D vwCl [(k2, .long)] s := hK
  refine W.eq (g2 := F0 m 7 ls [.int 0, .int 0, .ref h2]) rfl ?_
  refine lv_i2l (v := 0) hx hb dL_account_7 (by decide +kernel) ?_
  refine ka_last (g := (vp_updL f0 0 0)) hx hb hK hP hD hS 0 0 rfl rfl (vin_ (by decide +kernel)) (congrArg (fun z9 => vp_updL _ z9 _) (by decide +kernel)) dL_account_8 (fun H locs hP hD hS => ?_)
  have hP : va_P D vwCl [(h2, .inl (k2, 1, .inr (.inl (vp_updL f0 0 0)))), (h0, .inr (13, [v0, v1, v2, .ref h1, v3, v4, v5, v6, v7, v8])), (h1, .inr (7, [v9, v10, .int 0]))] H := hP
  have hD : va_D A [(h2, .inl (k2, 1, .inr (.inl (vp_updL f0 0 0)))), (h0, .inr (13, [v0, v1, v2, .ref h1, v3, v4, v5, v6, v7, v8])), (h1, .inr (7, [v9, v10, .int 0]))] := hD
  refine lv_goto (tgt := 15) hx hb dL_account_9 (by decide) ?_
  refine lv_iconst (v := 0) hx hb dL_account_15 (by decide) ?_
  refine W.widen (k := 0) (n := 0) (Nat.le_of_ble_eq_true rfl) (Nat.le_of_ble_eq_true rfl) ?_
  exact W.iret (v := 0) hx hb hr (QG_.mk (fun _ => 0) (fun _ => 0) (fun _ => 0) [1, 2, 0] [0] hP hD hK hS rfl trivial rfl (by decide) rfl) hS.2.2 dL_account_16
set_option maxHeartbeats 4000000 in
set_option maxRecDepth 100000 in
theorem c_X11_account_9 (l : Launch) (hl0 : l.stackTraces = false) (D : va_G) (ad : Nat → Nat) (sz : Nat) (h0 : Nat) (v0 : Value) (v1 : Value) (v2 : Value) (v3 : Value) (v4 : Value) (v5 : Value) (v6 : Value) (v7 : Value) (v8 : Value) (v9 : Value) (v10 : Value) (v11 : Value) (v12 : Value) (v13 : Value) (v14 : Value) (v15 : Value) (v16 : Value) (v17 : Value) (v18 : Value) (v19 : Value) (v20 : Value) (v21 : Value) (v22 : Value) (v23 : Value) : Met l yX11_account wsX11_account ({ frames := 0, cells := 0, slots := 0, locals := 0 }) (PC_ D ad [(h0, .inr (14, [v0, v1, v2, v3, .int 0, v4, v5, v6, v7, v8, v9, v10, v11, v12, v13, v14, v15, v16, v17, v18, v19, v20, v21, v22, v23]))] [] sz [.ref h0, .int 9]) (QG_ D (fun q i => some (.int 0)) (fun q i => True) (fun q k i => [(h0, .inr (14, [v0, v1, v2, v3, .int 0, v4, v5, v6, v7, v8, v9, v10, v11, v12, v13, v14, v15, v16, v17, v18, v19, v20, v21, .int 0, v23]))]) (fun q k i => []) (va_A [(h0, .inr (14, [v0, v1, v2, v3, .int 0, v4, v5, v6, v7, v8, v9, v10, v11, v12, v13, v14, v15, v16, v17, v18, v19, v20, v21, v22, v23]))] sz)) 0 0 (va_A [(h0, .inr (14, [v0, v1, v2, v3, .int 0, v4, v5, v6, v7, v8, v9, v10, v11, v12, v13, v14, v15, v16, v17, v18, v19, v20, v21, v22, v23]))] sz) := by
  refine Met.ofW (cc := cX11_account) (maxL := 4) (ret := (some .int)) (by decide) rfl ?_
  intro p e s m args below meth c s₁ B hml hv
  obtain ⟨rfl, hsz, hP, hK, hD0, hF⟩ := hv
  have hx := B.exec
  have hb := B.bytes
  have hr := B.returns
  have hts := atoms_spec (ws := wsX11_account) B.pre
  have hown : s.vm.findClass RX11 = some m.cls := findClass_of_methodNamed B.named
  have hlocks := B.notSynchronized
  subst hsz
  have hD := hD0.self (sz := s.heap.size)
  generalize hAe : va_A [(h0, .inr (14, [v0, v1, v2, v3, .int 0, v4, v5, v6, v7, v8, v9, v10, v11, v12, v13, v14, v15, v16, v17, v18, v19, v20, v21, v22, v23]))] s.heap.size = A at hD hF ⊢
  have hA : ∀ q : Nat, s.heap.size ≤ q → A q := fun q h => by rw [← hAe]; exact Or.inr h
  obtain ⟨H, hHe⟩ : ∃ H : Heap, H = s.heap := ⟨_, rfl⟩
  have hS : va_S A s.heap H [] := by rw [hHe]; exact va_S.rf
  have hP : va_P D vwCl [(h0, .inr (14, [v0, v1, v2, v3, .int 0, v4, v5, v6, v7, v8, v9, v10, v11, v12, v13, v14, v15, v16, v17, v18, v19, v20, v21, v22, v23]))] H := by rw [hHe]; exact hP
  rw [← hHe]
  have hi_X11 : ∀ w ∈ wsX110, w ∈ wsX11_account := by decide +kernel
  have hl := lv_entry [.ref h0, .int 9] (n := 4) (Nat.le_of_ble_eq_true rfl)
  rw [lg_entry_eq]
  generalize (lg_sl [.ref h0, .int 9] ++ List.replicate (4 - (lg_sl [.ref h0, .int 9]).length) Slot.unset).toArray = ls at hl ⊢
  have hl : lv_has ls 4 [(0, .ref h0), (1, .int 9)] := hl
  refine lv_aload_n hx hb dX11_account_0 rfl (lv_at hl 0 rfl) ?_
  refine lv_iconst (v := 0) hx hb dX11_account_1 (by decide) ?_
  refine va_put (D := D) (ci := 14) (v := .int 0) (ty := .int) (own := RX11) (C := RX11) (T := TX11) (N := 25) hx hb hts hi_X11 tyX11 tyX11_ok nmX11 hown hK hP hD hS 0 rfl rfl 23 (by decide) (hts (.fieldLink RX11 47 "CanalMapsModel" "thrown" "I") (List.mem_of_getElem? (i := 1) (by decide +kernel))) (fun _ h9 => h9) rfl (by decide +kernel) rfl rfl (Nat.le_of_ble_eq_true rfl) dX11_account_2 (fun H locs hP hD hS => ?_)
  have hP : va_P D vwCl [(h0, .inr (14, [v0, v1, v2, v3, .int 0, v4, v5, v6, v7, v8, v9, v10, v11, v12, v13, v14, v15, v16, v17, v18, v19, v20, v21, .int 0, v23]))] H := hP
  have hD : va_D A [(h0, .inr (14, [v0, v1, v2, v3, .int 0, v4, v5, v6, v7, v8, v9, v10, v11, v12, v13, v14, v15, v16, v17, v18, v19, v20, v21, .int 0, v23]))] := hD
  refine lv_iconst (v := 0) hx hb dX11_account_5 (by decide) ?_
  refine lv_istore_n (lv' := [(2, .int 0), (0, .ref h0), (1, .int 9)]) hx hb dX11_account_6 rfl hl (by decide) rfl (fun ls hl => ?_)
  refine lv_iload_n hx hb dX11_account_7 rfl (lv_at hl 2 rfl) ?_
  refine lv_tableIn (tgt := 152) (off := 144) hx hb dX11_account_8 (by decide +kernel) (by decide +kernel) (by decide +kernel) (by decide) ?_
  refine lv_aload_n hx hb dX11_account_152 rfl (lv_at hl 1 rfl) ?_
  refine va_get (D := D) (ci := 14) (v := .int 0) (own := RX11) (C := RX11) (T := TX11) (N := 25) hx hb hts hi_X11 hown hK hP 0 rfl rfl 4 (by decide) (hts (.fieldLink RX11 60 "CanalMapsModel" "undos" "I") (List.mem_of_getElem? (i := 3) (by decide +kernel))) (fun _ h9 => h9) rfl dX11_account_153 ?_
  refine W.widen (k := 0) (n := 0) (Nat.le_of_ble_eq_true rfl) (Nat.le_of_ble_eq_true rfl) ?_
  exact W.iret (v := 0) hx hb hr (QG_.mk (fun _ => 0) (fun _ => 0) (fun _ => 0) [0] [] hP hD hK hS rfl trivial rfl (by decide) rfl) hS.2.2 dX11_account_156
set_option maxHeartbeats 4000000 in
set_option maxRecDepth 100000 in
theorem c_X10_account_10 (l : Launch) (hl0 : l.stackTraces = false) (D : va_G) (ad : Nat → Nat) (sz : Nat) (h0 : Nat) (h1 : Nat) (v0 : Value) (v1 : Value) (v2 : Value) (v3 : Value) (v4 : Value) (v5 : Value) (v6 : Value) (v7 : Value) (v8 : Value) (v9 : Value) (v10 : Value) (v11 : Value) (v12 : Value) : Met l yX10_account wsX10_account ({ frames := 0, cells := 0, slots := 0, locals := 0 }) (PC_ D ad [(h0, .inr (13, [v0, v1, v2, v3, v4, .ref h1, v5, v6, v7, v8])), (h1, .inr (6, [v9, .int 0, v10, v11, v12]))] [] sz [.ref h0, .int 10]) (QG_ D (fun q i => some (.int 0)) (fun q i => True) (fun q k i => [(h0, .inr (13, [v0, v1, v2, v3, v4, .ref h1, v5, v6, v7, v8])), (h1, .inr (6, [v9, .int 0, v10, v11, v12]))]) (fun q k i => []) (va_A [(h0, .inr (13, [v0, v1, v2, v3, v4, .ref h1, v5, v6, v7, v8])), (h1, .inr (6, [v9, .int 0, v10, v11, v12]))] sz)) 0 0 (va_A [(h0, .inr (13, [v0, v1, v2, v3, v4, .ref h1, v5, v6, v7, v8])), (h1, .inr (6, [v9, .int 0, v10, v11, v12]))] sz) := by
  refine Met.ofW (cc := cX10_account) (maxL := 2) (ret := (some .int)) (by decide) rfl ?_
  intro p e s m args below meth c s₁ B hml hv
  obtain ⟨rfl, hsz, hP, hK, hD0, hF⟩ := hv
  have hx := B.exec
  have hb := B.bytes
  have hr := B.returns
  have hts := atoms_spec (ws := wsX10_account) B.pre
  have hown : s.vm.findClass RX10 = some m.cls := findClass_of_methodNamed B.named
  have hlocks := B.notSynchronized
  subst hsz
  have hD := hD0.self (sz := s.heap.size)
  generalize hAe : va_A [(h0, .inr (13, [v0, v1, v2, v3, v4, .ref h1, v5, v6, v7, v8])), (h1, .inr (6, [v9, .int 0, v10, v11, v12]))] s.heap.size = A at hD hF ⊢
  have hA : ∀ q : Nat, s.heap.size ≤ q → A q := fun q h => by rw [← hAe]; exact Or.inr h
  obtain ⟨H, hHe⟩ : ∃ H : Heap, H = s.heap := ⟨_, rfl⟩
  have hS : va_S A s.heap H [] := by rw [hHe]; exact va_S.rf
  have hP : va_P D vwCl [(h0, .inr (13, [v0, v1, v2, v3, v4, .ref h1, v5, v6, v7, v8])), (h1, .inr (6, [v9, .int 0, v10, v11, v12]))] H := by rw [hHe]; exact hP
  rw [← hHe]
  have hi_X10 : ∀ w ∈ wsX100, w ∈ wsX10_account := by decide +kernel
  have hi_X3 : ∀ w ∈ wsX30, w ∈ wsX10_account := by decide +kernel
  have hl := lv_entry [.ref h0, .int 10] (n := 2) (Nat.le_of_ble_eq_true rfl)
  rw [lg_entry_eq]
  generalize (lg_sl [.ref h0, .int 10] ++ List.replicate (2 - (lg_sl [.ref h0, .int 10]).length) Slot.unset).toArray = ls at hl ⊢
  have hl : lv_has ls 2 [(0, .ref h0), (1, .int 10)] := hl
  refine lv_iload_n hx hb dX10_account_0 rfl (lv_at hl 1 rfl) ?_
  refine lv_tableIn (tgt := 146) (off := 145) hx hb dX10_account_1 (by decide +kernel) (by decide +kernel) (by decide +kernel) (by decide) ?_
  refine lv_aload_n hx hb dX10_account_146 rfl (lv_at hl 0 rfl) ?_
  refine va_get (D := D) (ci := 13) (v := .ref h1) (own := RX10) (C := RX10) (T := TX10) (N := 10) hx hb hts hi_X10 hown hK hP 0 rfl rfl 5 (by decide) (hts (.fieldLink RX10 19 "CanalMaps" "text" "LCanalMaps$CommandText;") (List.mem_of_getElem? (i := 5) (by decide +kernel))) (fun _ h9 => h9) rfl dX10_account_147 ?_
  refine va_getN (D := D) (ci := 6) (v := .int 0) (own := RX10) (C := RX3) (T := TX3) (N := 5) hx hb hts hi_X3 hown hK hP 1 rfl rfl 1 (by decide) (fxn_ hF (RX10, 277, "CanalMaps$CommandText", "length", "I")) (fun _ h9 => h9) rfl dX10_account_150 ?_
  refine W.widen (k := 0) (n := 0) (Nat.le_of_ble_eq_true rfl) (Nat.le_of_ble_eq_true rfl) ?_
  exact W.iret (v := 0) hx hb hr (QG_.mk (fun _ => 0) (fun _ => 0) (fun _ => 0) [0, 1] [] hP hD hK hS rfl trivial rfl (by decide) rfl) hS.2.2 dX10_account_153
set_option maxHeartbeats 4000000 in
set_option maxRecDepth 100000 in
theorem c_L_account_10 (l : Launch) (hl0 : l.stackTraces = false) (D : va_G) (ad : Nat → Nat) (sz : Nat) (h0 : Nat) (h1 : Nat) (h2 : Nat) (k2 : ClassId) (v0 : Value) (v1 : Value) (v2 : Value) (v3 : Value) (v4 : Value) (v5 : Value) (v6 : Value) (v7 : Value) (v8 : Value) (v9 : Value) (v10 : Value) (v11 : Value) (v12 : Value) (f0 : Nat → Int64) : Met l yL_account wsL_account ({ frames := 1, cells := 0, slots := 0, locals := 23 }) (PC_ D ad [(h0, .inr (13, [v0, v1, v2, v3, v4, .ref h1, v5, v6, v7, v8])), (h1, .inr (6, [v9, .int 0, v10, v11, v12])), (h2, .inl (k2, 1, .inr (.inl f0)))] [(k2, .long)] sz [.ref h0, .int 10, .ref h2]) (QG_ D (fun q i => some (.int 0)) (fun q i => True) (fun q k i => [(h0, .inr (13, [v0, v1, v2, v3, v4, .ref h1, v5, v6, v7, v8])), (h1, .inr (6, [v9, .int 0, v10, v11, v12])), (h2, .inl (k2, 1, .inr (.inl (vp_updL f0 0 0))))]) (fun q k i => [(k2, .long)]) (va_A [(h0, .inr (13, [v0, v1, v2, v3, v4, .ref h1, v5, v6, v7, v8])), (h1, .inr (6, [v9, .int 0, v10, v11, v12])), (h2, .inl (k2, 1, .inr (.inl f0)))] sz)) 0 0 (va_A [(h0, .inr (13, [v0, v1, v2, v3, v4, .ref h1, v5, v6, v7, v8])), (h1, .inr (6, [v9, .int 0, v10, v11, v12])), (h2, .inl (k2, 1, .inr (.inl f0)))] sz) := by
  refine va_MetW (cc := cL_account) (maxL := 4) (ret := (some .int)) (by decide) rfl ?_
  intro p e s m args below meth c s₁ B hml hv
  obtain ⟨rfl, hsz, hP, hK, hD0, hF⟩ := hv
  have hx := B.exec
  have hb := B.bytes
  have hr := B.returns
  have hts := atoms_spec (ws := wsL_account) B.pre
  have hown : s.vm.findClass RL = some m.cls := findClass_of_methodNamed B.named
  have hlocks := B.notSynchronized
  have htb := vx_table (x := yL_account) B (hts _ (List.mem_cons_self))
  subst hsz
  have hD := hD0.self (sz := s.heap.size)
  generalize hAe : va_A [(h0, .inr (13, [v0, v1, v2, v3, v4, .ref h1, v5, v6, v7, v8])), (h1, .inr (6, [v9, .int 0, v10, v11, v12])), (h2, .inl (k2, 1, .inr (.inl f0)))] s.heap.size = A at hD hF ⊢
  have hA : ∀ q : Nat, s.heap.size ≤ q → A q := fun q h => by rw [← hAe]; exact Or.inr h
  obtain ⟨H, hHe⟩ : ∃ H : Heap, H = s.heap := ⟨_, rfl⟩
  have hS : va_S A s.heap H [] := by rw [hHe]; exact va_S.rf
  have hP : va_P D vwCl [(h0, .inr (13, [v0, v1, v2, v3, v4, .ref h1, v5, v6, v7, v8])), (h1, .inr (6, [v9, .int 0, v10, v11, v12])), (h2, .inl (k2, 1, .inr (.inl f0)))] H := by rw [hHe]; exact hP
  rw [← hHe]
  have hl := lv_entry [.ref h0, .int 10, .ref h2] (n := 4) (Nat.le_of_ble_eq_true rfl)
  rw [lg_entry_eq]
  generalize (lg_sl [.ref h0, .int 10, .ref h2] ++ List.replicate (4 - (lg_sl [.ref h0, .int 10, .ref h2]).length) Slot.unset).toArray = ls at hl ⊢
  have hl : lv_has ls 4 [(0, .ref h0), (1, .int 10), (2, .ref h2)] := hl
  refine lv_aload_n hx hb dL_account_0 rfl (lv_at hl 2 rfl) ?_
  refine lv_iconst (v := 0) hx hb dL_account_1 (by decide) ?_
  refine lv_aload_n hx hb dL_account_2 rfl (lv_at hl 0 rfl) ?_
  refine lv_iload_n hx hb dL_account_3 rfl (lv_at hl 1 rfl) ?_
  refine kc_ (wc := [(h0, .inr (13, [v0, v1, v2, v3, v4, .ref h1, v5, v6, v7, v8])), (h1, .inr (6, [v9, .int 0, v10, v11, v12]))]) (wr := [(h2, .inl (k2, 1, .inr (.inl f0)))]) (va_runV (As := [.int 10]) (rest := [.int 0, .ref h2]) ⟨hx, hb, hml, hown, hts⟩ (c_X10_account_10 l hl0 D ad H.size h0 h1 (v0) (v1) (v2) (v3) (v4) (v5) (v6) (v7) (v8) (v9) (v10) (v11) (v12)) (cwV 1 hts gL_account_X10_account rfl rfl rfl (by decide +kernel) ⟨Nat.le_of_ble_eq_true rfl, Nat.le_of_ble_eq_true rfl⟩) ⟨PC_.blind, va_recv hK hP (ci := 13) (q0 := 0) rfl rfl, PC_.pre hF hK hP hD hS hA [0, 1] [] rfl (by decide) rfl⟩ rfl rfl hl.1 rfl (lv_room (Nat.le_of_ble_eq_true rfl)) dL_account_4 ⟨Nat.le_of_ble_eq_true rfl, Nat.le_of_ble_eq_true rfl⟩) hK hP hD hS hA [0, 1] [2] [0] rfl rfl (by decide) (by decide) rfl (fun qa_1 ka_1 ia_1 H locs hpo hP hD hK hS => ?_)
  have hP : va_P D vwCl [(h2, .inl (k2, 1, .inr (.inl f0))), (h0, .inr (13, [v0, v1, v2, v3, v4, .ref h1, v5, v6, v7, v8])), (h1, .inr (6, [v9, .int 0, v10, v11, v12]))] H := hP
  have hD : va_D A [(h2, .inl (k2, 1, .inr (.inl f0))), (h0, .inr (13, [v0, v1, v2, v3, v4, .ref h1, v5, v6, v7, v8])), (h1, .inr (6, [v9, .int 0, v10, v11, v12]))] := hD
  have hK : va_K D vwCl [(k2, .long)] s := hK
  refine W.eq (g2 := F0 m 7 ls [.int 0, .int 0, .ref h2]) rfl ?_
  refine lv_i2l (v := 0) hx hb dL_account_7 (by decide +kernel) ?_
  refine ka_last (g := (vp_updL f0 0 0)) hx hb hK hP hD hS 0 0 rfl rfl (vin_ (by decide +kernel)) (congrArg (fun z9 => vp_updL _ z9 _) (by decide +kernel)) dL_account_8 (fun H locs hP hD hS => ?_)
  have hP : va_P D vwCl [(h2, .inl (k2, 1, .inr (.inl (vp_updL f0 0 0)))), (h0, .inr (13, [v0, v1, v2, v3, v4, .ref h1, v5, v6, v7, v8])), (h1, .inr (6, [v9, .int 0, v10, v11, v12]))] H := hP
  have hD : va_D A [(h2, .inl (k2, 1, .inr (.inl (vp_updL f0 0 0)))), (h0, .inr (13, [v0, v1, v2, v3, v4, .ref h1, v5, v6, v7, v8])), (h1, .inr (6, [v9, .int 0, v10, v11, v12]))] := hD
  refine lv_goto (tgt := 15) hx hb dL_account_9 (by decide) ?_
  refine lv_iconst (v := 0) hx hb dL_account_15 (by decide) ?_
  refine W.widen (k := 0) (n := 0) (Nat.le_of_ble_eq_true rfl) (Nat.le_of_ble_eq_true rfl) ?_
  exact W.iret (v := 0) hx hb hr (QG_.mk (fun _ => 0) (fun _ => 0) (fun _ => 0) [1, 2, 0] [0] hP hD hK hS rfl trivial rfl (by decide) rfl) hS.2.2 dL_account_16
set_option maxHeartbeats 4000000 in
set_option maxRecDepth 100000 in
theorem c_X11_account_10 (l : Launch) (hl0 : l.stackTraces = false) (D : va_G) (ad : Nat → Nat) (sz : Nat) (h0 : Nat) (v0 : Value) (v1 : Value) (v2 : Value) (v3 : Value) (v4 : Value) (v5 : Value) (v6 : Value) (v7 : Value) (v8 : Value) (v9 : Value) (v10 : Value) (v11 : Value) (v12 : Value) (v13 : Value) (v14 : Value) (v15 : Value) (v16 : Value) (v17 : Value) (v18 : Value) (v19 : Value) (v20 : Value) (v21 : Value) (v22 : Value) (v23 : Value) : Met l yX11_account wsX11_account ({ frames := 0, cells := 0, slots := 0, locals := 0 }) (PC_ D ad [(h0, .inr (14, [v0, v1, v2, v3, v4, v5, v6, v7, v8, v9, v10, v11, v12, .int 0, v13, v14, v15, v16, v17, v18, v19, v20, v21, v22, v23]))] [] sz [.ref h0, .int 10]) (QG_ D (fun q i => some (.int 0)) (fun q i => True) (fun q k i => [(h0, .inr (14, [v0, v1, v2, v3, v4, v5, v6, v7, v8, v9, v10, v11, v12, .int 0, v13, v14, v15, v16, v17, v18, v19, v20, v21, .int 0, v23]))]) (fun q k i => []) (va_A [(h0, .inr (14, [v0, v1, v2, v3, v4, v5, v6, v7, v8, v9, v10, v11, v12, .int 0, v13, v14, v15, v16, v17, v18, v19, v20, v21, v22, v23]))] sz)) 0 0 (va_A [(h0, .inr (14, [v0, v1, v2, v3, v4, v5, v6, v7, v8, v9, v10, v11, v12, .int 0, v13, v14, v15, v16, v17, v18, v19, v20, v21, v22, v23]))] sz) := by
  refine Met.ofW (cc := cX11_account) (maxL := 4) (ret := (some .int)) (by decide) rfl ?_
  intro p e s m args below meth c s₁ B hml hv
  obtain ⟨rfl, hsz, hP, hK, hD0, hF⟩ := hv
  have hx := B.exec
  have hb := B.bytes
  have hr := B.returns
  have hts := atoms_spec (ws := wsX11_account) B.pre
  have hown : s.vm.findClass RX11 = some m.cls := findClass_of_methodNamed B.named
  have hlocks := B.notSynchronized
  subst hsz
  have hD := hD0.self (sz := s.heap.size)
  generalize hAe : va_A [(h0, .inr (14, [v0, v1, v2, v3, v4, v5, v6, v7, v8, v9, v10, v11, v12, .int 0, v13, v14, v15, v16, v17, v18, v19, v20, v21, v22, v23]))] s.heap.size = A at hD hF ⊢
  have hA : ∀ q : Nat, s.heap.size ≤ q → A q := fun q h => by rw [← hAe]; exact Or.inr h
  obtain ⟨H, hHe⟩ : ∃ H : Heap, H = s.heap := ⟨_, rfl⟩
  have hS : va_S A s.heap H [] := by rw [hHe]; exact va_S.rf
  have hP : va_P D vwCl [(h0, .inr (14, [v0, v1, v2, v3, v4, v5, v6, v7, v8, v9, v10, v11, v12, .int 0, v13, v14, v15, v16, v17, v18, v19, v20, v21, v22, v23]))] H := by rw [hHe]; exact hP
  rw [← hHe]
  have hi_X11 : ∀ w ∈ wsX110, w ∈ wsX11_account := by decide +kernel
  have hl := lv_entry [.ref h0, .int 10] (n := 4) (Nat.le_of_ble_eq_true rfl)
  rw [lg_entry_eq]
  generalize (lg_sl [.ref h0, .int 10] ++ List.replicate (4 - (lg_sl [.ref h0, .int 10]).length) Slot.unset).toArray = ls at hl ⊢
  have hl : lv_has ls 4 [(0, .ref h0), (1, .int 10)] := hl
  refine lv_aload_n hx hb dX11_account_0 rfl (lv_at hl 0 rfl) ?_
  refine lv_iconst (v := 0) hx hb dX11_account_1 (by decide) ?_
  refine va_put (D := D) (ci := 14) (v := .int 0) (ty := .int) (own := RX11) (C := RX11) (T := TX11) (N := 25) hx hb hts hi_X11 tyX11 tyX11_ok nmX11 hown hK hP hD hS 0 rfl rfl 23 (by decide) (hts (.fieldLink RX11 47 "CanalMapsModel" "thrown" "I") (List.mem_of_getElem? (i := 1) (by decide +kernel))) (fun _ h9 => h9) rfl (by decide +kernel) rfl rfl (Nat.le_of_ble_eq_true rfl) dX11_account_2 (fun H locs hP hD hS => ?_)
  have hP : va_P D vwCl [(h0, .inr (14, [v0, v1, v2, v3, v4, v5, v6, v7, v8, v9, v10, v11, v12, .int 0, v13, v14, v15, v16, v17, v18, v19, v20, v21, .int 0, v23]))] H := hP
  have hD : va_D A [(h0, .inr (14, [v0, v1, v2, v3, v4, v5, v6, v7, v8, v9, v10, v11, v12, .int 0, v13, v14, v15, v16, v17, v18, v19, v20, v21, .int 0, v23]))] := hD
  refine lv_iconst (v := 0) hx hb dX11_account_5 (by decide) ?_
  refine lv_istore_n (lv' := [(2, .int 0), (0, .ref h0), (1, .int 10)]) hx hb dX11_account_6 rfl hl (by decide) rfl (fun ls hl => ?_)
  refine lv_iload_n hx hb dX11_account_7 rfl (lv_at hl 2 rfl) ?_
  refine lv_tableIn (tgt := 157) (off := 149) hx hb dX11_account_8 (by decide +kernel) (by decide +kernel) (by decide +kernel) (by decide) ?_
  refine lv_aload_n hx hb dX11_account_157 rfl (lv_at hl 1 rfl) ?_
  refine va_get (D := D) (ci := 14) (v := .int 0) (own := RX11) (C := RX11) (T := TX11) (N := 25) hx hb hts hi_X11 hown hK hP 0 rfl rfl 13 (by decide) (hts (.fieldLink RX11 228 "CanalMapsModel" "length" "I") (List.mem_of_getElem? (i := 4) (by decide +kernel))) (fun _ h9 => h9) rfl dX11_account_158 ?_
  refine W.widen (k := 0) (n := 0) (Nat.le_of_ble_eq_true rfl) (Nat.le_of_ble_eq_true rfl) ?_
  exact W.iret (v := 0) hx hb hr (QG_.mk (fun _ => 0) (fun _ => 0) (fun _ => 0) [0] [] hP hD hK hS rfl trivial rfl (by decide) rfl) hS.2.2 dX11_account_161
set_option maxHeartbeats 4000000 in
set_option maxRecDepth 100000 in
theorem c_X10_account_11 (l : Launch) (hl0 : l.stackTraces = false) (D : va_G) (ad : Nat → Nat) (sz : Nat) (r0 : Nat) (p0 : Int32) (hy0 : p0.toInt < 0 ∨ 10 < p0.toInt) : vx_Met l yX10_account wsX10_account ({ frames := 6, cells := 1, slots := 6, locals := 100 }) (PC_ D ad [] [] sz [.ref r0, .int p0]) QN_ (XT_ "java/lang/IllegalArgumentException" (va_A [] sz)) 1 6 (va_A [] sz) := by
  refine vx_ofW (cc := cX10_account) (maxL := 2) (ret := (some .int)) (by decide) rfl ?_
  intro p e s m args below meth c s₁ B hml htab hv
  obtain ⟨rfl, hsz, hP, hK, hD0, hF⟩ := hv
  have hx := B.exec
  have hb := B.bytes
  have hr := B.returns
  have hts := atoms_spec (ws := wsX10_account) B.pre
  have hown : s.vm.findClass RX10 = some m.cls := findClass_of_methodNamed B.named
  have hlocks := B.notSynchronized
  subst hsz
  have hD := hD0.self (sz := s.heap.size)
  generalize hAe : va_A [] s.heap.size = A at hD hF ⊢
  have hA : ∀ q : Nat, s.heap.size ≤ q → A q := fun q h => by rw [← hAe]; exact Or.inr h
  obtain ⟨H, hHe⟩ : ∃ H : Heap, H = s.heap := ⟨_, rfl⟩
  have hS : va_S A s.heap H [] := by rw [hHe]; exact va_S.rf
  have hP : va_P D vwCl [] H := by rw [hHe]; exact hP
  rw [← hHe]
  have hl := lv_entry [.ref r0, .int p0] (n := 2) (Nat.le_of_ble_eq_true rfl)
  rw [lg_entry_eq]
  generalize (lg_sl [.ref r0, .int p0] ++ List.replicate (2 - (lg_sl [.ref r0, .int p0]).length) Slot.unset).toArray = ls at hl ⊢
  have hl : lv_has ls 2 [(0, .ref r0), (1, .int p0)] := hl
  refine lv_iload_n hx hb dX10_account_0 rfl (lv_at hl 1 rfl) ?_
  refine lv_tableOut (tgt := 154) hx hb dX10_account_1 hy0 (by decide) ?_
  obtain ⟨sa9, hstr⟩ := fxs_ hF RX10 382 "what is not from 0 to 10"
  exact vx_throwSW (own := RX10) (cls := "java/lang/IllegalArgumentException") (names := ["java/lang/RuntimeException", "java/lang/Exception"]) hx hb hl0 hown (by decide +kernel) (by decide +kernel) (hts (.classLink RX10 149 "java/lang/IllegalArgumentException") (List.mem_of_getElem? (i := 1) (by decide +kernel))) (hts (.initialized "java/lang/IllegalArgumentException") (List.mem_of_getElem? (i := 2) (by decide +kernel))) hstr (fxw_ hts (by decide +kernel) (by decide +kernel) (fxb_ hF "java/lang/IllegalArgumentException")) (by decide +kernel) hF.2.2.2.2.1 hF.2.2.2.2.2.1 hS (by rw [hml]; exact hl.1) dX10_account_154 dX10_account_157 dX10_account_158 dX10_account_161 dX10_account_164 (fun x9 hx9 => (htab x9 hx9).elim) (Nat.le_of_ble_eq_true rfl) (Nat.le_of_ble_eq_true rfl) (Nat.le_of_ble_eq_true rfl) (Nat.le_of_ble_eq_true rfl) hlocks (fun t9 _ hz9 hq9 => ⟨rfl, xt_ hS hz9 hq9⟩) hS.2.2 (Nat.le_of_ble_eq_true rfl) (Nat.le_of_ble_eq_true rfl)
set_option maxHeartbeats 4000000 in
set_option maxRecDepth 100000 in
theorem c_L_account_11 (l : Launch) (hl0 : l.stackTraces = false) (D : va_G) (ad : Nat → Nat) (sz : Nat) (h0 : Nat) (r0 : Nat) (v0 : Value) (v1 : Value) (v2 : Value) (v3 : Value) (v4 : Value) (v5 : Value) (v6 : Value) (v7 : Value) (v8 : Value) (v9 : Value) (p0 : Int32) (hy0 : p0.toInt < 0 ∨ 10 < p0.toInt) : Met l yL_account wsL_account ({ frames := 7, cells := 1, slots := 6, locals := 123 }) (PC_ D ad [(h0, .inr (13, [v0, v1, v2, v3, v4, v5, v6, v7, v8, v9]))] [] sz [.ref h0, .int p0, .ref r0]) (QG_ D (fun q i => some (.int 1)) (fun q i => True) (fun q k i => []) (fun q k i => []) (va_A [(h0, .inr (13, [v0, v1, v2, v3, v4, v5, v6, v7, v8, v9]))] sz)) 1 6 (va_A [(h0, .inr (13, [v0, v1, v2, v3, v4, v5, v6, v7, v8, v9]))] sz) := by
  refine va_MetW (cc := cL_account) (maxL := 4) (ret := (some .int)) (by decide) rfl ?_
  intro p e s m args below meth c s₁ B hml hv
  obtain ⟨rfl, hsz, hP, hK, hD0, hF⟩ := hv
  have hx := B.exec
  have hb := B.bytes
  have hr := B.returns
  have hts := atoms_spec (ws := wsL_account) B.pre
  have hown : s.vm.findClass RL = some m.cls := findClass_of_methodNamed B.named
  have hlocks := B.notSynchronized
  have htb := vx_table (x := yL_account) B (hts _ (List.mem_cons_self))
  subst hsz
  have hD := hD0.self (sz := s.heap.size)
  generalize hAe : va_A [(h0, .inr (13, [v0, v1, v2, v3, v4, v5, v6, v7, v8, v9]))] s.heap.size = A at hD hF ⊢
  have hA : ∀ q : Nat, s.heap.size ≤ q → A q := fun q h => by rw [← hAe]; exact Or.inr h
  obtain ⟨H, hHe⟩ : ∃ H : Heap, H = s.heap := ⟨_, rfl⟩
  have hS : va_S A s.heap H [] := by rw [hHe]; exact va_S.rf
  have hP : va_P D vwCl [(h0, .inr (13, [v0, v1, v2, v3, v4, v5, v6, v7, v8, v9]))] H := by rw [hHe]; exact hP
  rw [← hHe]
  have hl := lv_entry [.ref h0, .int p0, .ref r0] (n := 4) (Nat.le_of_ble_eq_true rfl)
  rw [lg_entry_eq]
  generalize (lg_sl [.ref h0, .int p0, .ref r0] ++ List.replicate (4 - (lg_sl [.ref h0, .int p0, .ref r0]).length) Slot.unset).toArray = ls at hl ⊢
  have hl : lv_has ls 4 [(0, .ref h0), (1, .int p0), (2, .ref r0)] := hl
  refine lv_aload_n hx hb dL_account_0 rfl (lv_at hl 2 rfl) ?_
  refine lv_iconst (v := 0) hx hb dL_account_1 (by decide) ?_
  refine lv_aload_n hx hb dL_account_2 rfl (lv_at hl 0 rfl) ?_
  refine lv_iload_n hx hb dL_account_3 rfl (lv_at hl 1 rfl) ?_
  refine kx_ (E0 := "java/lang/IllegalArgumentException") (wc := []) (vx_runV (As := [.int p0]) (rest := [.int 0, .ref r0]) ⟨hx, hb, hml, hown, hts⟩ (c_X10_account_11 l hl0 D ad H.size h0 p0 hy0) (cwV 1 hts gL_account_X10_account rfl rfl rfl (by decide +kernel) ⟨Nat.le_of_ble_eq_true rfl, Nat.le_of_ble_eq_true rfl⟩) ⟨PC_.blind, va_recv hK hP (ci := 13) (q0 := 0) rfl rfl, PC_.pre hF hK hP hD hS hA [] [] rfl (by decide) rfl⟩ rfl rfl hl.1 rfl (lv_room (Nat.le_of_ble_eq_true rfl)) dL_account_4 ⟨Nat.le_of_ble_eq_true rfl, Nat.le_of_ble_eq_true rfl⟩) hD hS hA [] rfl (fun ce q9 H locs hS hce hvm hcl => ?_)
  refine vx_catch (own := RL) (name := "java/lang/IllegalArgumentException") (E := "java/lang/IllegalArgumentException") hown [] (⟨0, 9, 12, 38⟩ : ExceptionTableEntry) [] (htb.trans rfl) (fun z hz => by cases hz) (by decide) (by decide) (hts (.classLink RL 38 "java/lang/IllegalArgumentException") (List.mem_of_getElem? (i := 1) (by decide +kernel))) (fxk_ hF "java/lang/IllegalArgumentException" "java/lang/IllegalArgumentException") hce hvm hcl ?_
  have hP : va_P D vwCl [] H := fun k q h => by simp at h
  have hD : va_D A [] := ⟨fun i j p q h => by simp at h, fun k q h => by simp at h⟩
  have hK : va_K D vwCl [] s := ⟨hK.1, fun k q h => by simp at h⟩
  refine W.eq (g2 := F0 m 12 ls [.ref q9]) rfl ?_
  refine lv_astore_n (lv' := [(3, .ref q9), (0, .ref h0), (1, .int p0), (2, .ref r0)]) hx hb dL_account_12 rfl hl (by decide) rfl (fun ls hl => ?_)
  refine lv_iconst (v := 1) hx hb dL_account_13 (by decide) ?_
  refine W.widen (k := 1) (n := 6) (Nat.le_of_ble_eq_true rfl) (Nat.le_of_ble_eq_true rfl) ?_
  exact W.iret (v := 1) hx hb hr (QG_.mk (fun _ => 0) (fun _ => 0) (fun _ => 0) [] [] hP hD hK hS rfl trivial rfl (by decide) rfl) hS.2.2 dL_account_14
set_option maxHeartbeats 4000000 in
set_option maxRecDepth 100000 in
theorem c_X11_account_11 (l : Launch) (hl0 : l.stackTraces = false) (D : va_G) (ad : Nat → Nat) (sz : Nat) (h0 : Nat) (v0 : Value) (v1 : Value) (v2 : Value) (v3 : Value) (v4 : Value) (v5 : Value) (v6 : Value) (v7 : Value) (v8 : Value) (v9 : Value) (v10 : Value) (v11 : Value) (v12 : Value) (v13 : Value) (v14 : Value) (v15 : Value) (v16 : Value) (v17 : Value) (v18 : Value) (v19 : Value) (v20 : Value) (v21 : Value) (v22 : Value) (v23 : Value) (v24 : Value) (p0 : Int32) (hy0 : p0.toInt < 0 ∨ 10 < p0.toInt) : Met l yX11_account wsX11_account ({ frames := 1, cells := 0, slots := 0, locals := 23 }) (PC_ D ad [(h0, .inr (14, [v0, v1, v2, v3, v4, v5, v6, v7, v8, v9, v10, v11, v12, v13, v14, v15, v16, v17, v18, v19, v20, v21, v22, v23, v24]))] [] sz [.ref h0, .int p0]) (QG_ D (fun q i => some (.int 0)) (fun q i => True) (fun q k i => [(h0, .inr (14, [v0, v1, v2, v3, v4, v5, v6, v7, v8, v9, v10, v11, v12, v13, v14, v15, v16, v17, v18, v19, v20, v21, v22, .int 1, v24]))]) (fun q k i => []) (va_A [(h0, .inr (14, [v0, v1, v2, v3, v4, v5, v6, v7, v8, v9, v10, v11, v12, v13, v14, v15, v16, v17, v18, v19, v20, v21, v22, v23, v24]))] sz)) 0 0 (va_A [(h0, .inr (14, [v0, v1, v2, v3, v4, v5, v6, v7, v8, v9, v10, v11, v12, v13, v14, v15, v16, v17, v18, v19, v20, v21, v22, v23, v24]))] sz) := by
  refine Met.ofW (cc := cX11_account) (maxL := 4) (ret := (some .int)) (by decide) rfl ?_
  intro p e s m args below meth c s₁ B hml hv
  obtain ⟨rfl, hsz, hP, hK, hD0, hF⟩ := hv
  have hx := B.exec
  have hb := B.bytes
  have hr := B.returns
  have hts := atoms_spec (ws := wsX11_account) B.pre
  have hown : s.vm.findClass RX11 = some m.cls := findClass_of_methodNamed B.named
  have hlocks := B.notSynchronized
  subst hsz
  have hD := hD0.self (sz := s.heap.size)
  generalize hAe : va_A [(h0, .inr (14, [v0, v1, v2, v3, v4, v5, v6, v7, v8, v9, v10, v11, v12, v13, v14, v15, v16, v17, v18, v19, v20, v21, v22, v23, v24]))] s.heap.size = A at hD hF ⊢
  have hA : ∀ q : Nat, s.heap.size ≤ q → A q := fun q h => by rw [← hAe]; exact Or.inr h
  obtain ⟨H, hHe⟩ : ∃ H : Heap, H = s.heap := ⟨_, rfl⟩
  have hS : va_S A s.heap H [] := by rw [hHe]; exact va_S.rf
  have hP : va_P D vwCl [(h0, .inr (14, [v0, v1, v2, v3, v4, v5, v6, v7, v8, v9, v10, v11, v12, v13, v14, v15, v16, v17, v18, v19, v20, v21, v22, v23, v24]))] H := by rw [hHe]; exact hP
  rw [← hHe]
  have hi_X11 : ∀ w ∈ wsX110, w ∈ wsX11_account := by decide +kernel
  have hl := lv_entry [.ref h0, .int p0] (n := 4) (Nat.le_of_ble_eq_true rfl)
  rw [lg_entry_eq]
  generalize (lg_sl [.ref h0, .int p0] ++ List.replicate (4 - (lg_sl [.ref h0, .int p0]).length) Slot.unset).toArray = ls at hl ⊢
  have hl : lv_has ls 4 [(0, .ref h0), (1, .int p0)] := hl
  refine lv_aload_n hx hb dX11_account_0 rfl (lv_at hl 0 rfl) ?_
  refine lv_iconst (v := 0) hx hb dX11_account_1 (by decide) ?_
  refine va_put (D := D) (ci := 14) (v := .int 0) (ty := .int) (own := RX11) (C := RX11) (T := TX11) (N := 25) hx hb hts hi_X11 tyX11 tyX11_ok nmX11 hown hK hP hD hS 0 rfl rfl 23 (by decide) (hts (.fieldLink RX11 47 "CanalMapsModel" "thrown" "I") (List.mem_of_getElem? (i := 1) (by decide +kernel))) (fun _ h9 => h9) rfl (by decide +kernel) rfl rfl (Nat.le_of_ble_eq_true rfl) dX11_account_2 (fun H locs hP hD hS => ?_)
  have hP : va_P D vwCl [(h0, .inr (14, [v0, v1, v2, v3, v4, v5, v6, v7, v8, v9, v10, v11, v12, v13, v14, v15, v16, v17, v18, v19, v20, v21, v22, .int 0, v24]))] H := hP
  have hD : va_D A [(h0, .inr (14, [v0, v1, v2, v3, v4, v5, v6, v7, v8, v9, v10, v11, v12, v13, v14, v15, v16, v17, v18, v19, v20, v21, v22, .int 0, v24]))] := hD
  refine lv_iconst (v := 0) hx hb dX11_account_5 (by decide) ?_
  refine lv_istore_n (lv' := [(2, .int 0), (0, .ref h0), (1, .int p0)]) hx hb dX11_account_6 rfl hl (by decide) rfl (fun ls hl => ?_)
  refine lv_iload_n hx hb dX11_account_7 rfl (lv_at hl 2 rfl) ?_
  refine lv_tableOut (tgt := 162) hx hb dX11_account_8 hy0 (by decide) ?_
  refine lv_aload_n hx hb dX11_account_162 rfl (lv_at hl 1 rfl) ?_
  refine lv_iconst (v := 1) hx hb dX11_account_163 (by decide) ?_
  refine kc_ (wc := [(h0, .inr (14, [v0, v1, v2, v3, v4, v5, v6, v7, v8, v9, v10, v11, v12, v13, v14, v15, v16, v17, v18, v19, v20, v21, v22, .int 0, v24]))]) (wr := []) (va_runV (As := [.int 1]) (rest := []) ⟨hx, hb, hml, hown, hts⟩ (c_X11_raises_0 l hl0 D ad H.size h0 (v0) (v1) (v2) (v3) (v4) (v5) (v6) (v7) (v8) (v9) (v10) (v11) (v12) (v13) (v14) (v15) (v16) (v17) (v18) (v19) (v20) (v21) (v22) (.int 0) (v24)) (cwV 1 hts gX11_account_X11_raises rfl rfl rfl (by decide +kernel) ⟨Nat.le_of_ble_eq_true rfl, Nat.le_of_ble_eq_true rfl⟩) ⟨PC_.blind, va_recv hK hP (ci := 14) (q0 := 0) rfl rfl, PC_.pre hF hK hP hD hS hA [0] [] rfl (by decide) rfl⟩ rfl rfl hl.1 rfl (lv_room (Nat.le_of_ble_eq_true rfl)) dX11_account_164 ⟨Nat.le_of_ble_eq_true rfl, Nat.le_of_ble_eq_true rfl⟩) hK hP hD hS hA [0] [] [] rfl rfl (by decide) (by decide) rfl (fun qa_1 ka_1 ia_1 H locs hpo hP hD hK hS => ?_)
  have hP : va_P D vwCl [(h0, .inr (14, [v0, v1, v2, v3, v4, v5, v6, v7, v8, v9, v10, v11, v12, v13, v14, v15, v16, v17, v18, v19, v20, v21, v22, .int 1, v24]))] H := hP
  have hD : va_D A [(h0, .inr (14, [v0, v1, v2, v3, v4, v5, v6, v7, v8, v9, v10, v11, v12, v13, v14, v15, v16, v17, v18, v19, v20, v21, v22, .int 1, v24]))] := hD
  have hK : va_K D vwCl [] s := hK
  refine W.eq (g2 := F0 m 167 ls [.int 0]) rfl ?_
  refine W.widen (k := 0) (n := 0) (Nat.le_of_ble_eq_true rfl) (Nat.le_of_ble_eq_true rfl) ?_
  exact W.iret (v := 0) hx hb hr (QG_.mk (fun _ => 0) (fun _ => 0) (fun _ => 0) [0] [] hP hD hK hS rfl trivial rfl (by decide) rfl) hS.2.2 dX11_account_167
set_option maxHeartbeats 4000000 in
set_option maxRecDepth 100000 in
theorem c_X10_undo_0 (l : Launch) (hl0 : l.stackTraces = false) (D : va_G) (ad : Nat → Nat) (sz : Nat) (h0 : Nat) (h1 : Nat) (v0 : Value) (v1 : Value) (v2 : Value) (v3 : Value) (v4 : Value) (v5 : Value) (v6 : Value) (v7 : Value) (v8 : Value) (v9 : Value) (v10 : Value) : vx_Met l yX10_undo wsX10_undo ({ frames := 6, cells := 1, slots := 6, locals := 100 }) (PC_ D ad [(h0, .inr (13, [v0, v1, v2, .ref h1, v3, v4, v5, v6, v7, v8])), (h1, .inr (7, [v9, v10, .int 0]))] [] sz [.ref h0]) QN_ (XT_ "java/lang/IllegalStateException" (va_A [(h0, .inr (13, [v0, v1, v2, .ref h1, v3, v4, v5, v6, v7, v8])), (h1, .inr (7, [v9, v10, .int 0]))] sz)) 1 6 (va_A [(h0, .inr (13, [v0, v1, v2, .ref h1, v3, v4, v5, v6, v7, v8])), (h1, .inr (7, [v9, v10, .int 0]))] sz) := by
  refine vx_ofW (cc := cX10_undo) (maxL := 1) (ret := (some .int)) (by decide) rfl ?_
  intro p e s m args below meth c s₁ B hml htab hv
  obtain ⟨rfl, hsz, hP, hK, hD0, hF⟩ := hv
  have hx := B.exec
  have hb := B.bytes
  have hr := B.returns
  have hts := atoms_spec (ws := wsX10_undo) B.pre
  have hown : s.vm.findClass RX10 = some m.cls := findClass_of_methodNamed B.named
  have hlocks := B.notSynchronized
  subst hsz
  have hD := hD0.self (sz := s.heap.size)
  generalize hAe : va_A [(h0, .inr (13, [v0, v1, v2, .ref h1, v3, v4, v5, v6, v7, v8])), (h1, .inr (7, [v9, v10, .int 0]))] s.heap.size = A at hD hF ⊢
  have hA : ∀ q : Nat, s.heap.size ≤ q → A q := fun q h => by rw [← hAe]; exact Or.inr h
  obtain ⟨H, hHe⟩ : ∃ H : Heap, H = s.heap := ⟨_, rfl⟩
  have hS : va_S A s.heap H [] := by rw [hHe]; exact va_S.rf
  have hP : va_P D vwCl [(h0, .inr (13, [v0, v1, v2, .ref h1, v3, v4, v5, v6, v7, v8])), (h1, .inr (7, [v9, v10, .int 0]))] H := by rw [hHe]; exact hP
  rw [← hHe]
  have hi_X10 : ∀ w ∈ wsX100, w ∈ wsX10_undo := by decide +kernel
  have hi_X4 : ∀ w ∈ wsX40, w ∈ wsX10_undo := by decide +kernel
  have hl := lv_entry [.ref h0] (n := 1) (Nat.le_of_ble_eq_true rfl)
  rw [lg_entry_eq]
  generalize (lg_sl [.ref h0] ++ List.replicate (1 - (lg_sl [.ref h0]).length) Slot.unset).toArray = ls at hl ⊢
  have hl : lv_has ls 1 [(0, .ref h0)] := hl
  refine lv_aload_n hx hb dX10_undo_0 rfl (lv_at hl 0 rfl) ?_
  refine va_get (D := D) (ci := 13) (v := .ref h1) (own := RX10) (C := RX10) (T := TX10) (N := 10) hx hb hts hi_X10 hown hK hP 0 rfl rfl 3 (by decide) (hts (.fieldLink RX10 63 "CanalMaps" "history" "LCanalMaps$History;") (List.mem_of_getElem? (i := 3) (by decide +kernel))) (fun _ h9 => h9) rfl dX10_undo_1 ?_
  refine va_getN (D := D) (ci := 7) (v := .int 0) (own := RX10) (C := RX4) (T := TX4) (N := 3) hx hb hts hi_X4 hown hK hP 1 rfl rfl 2 (by decide) (fxn_ hF (RX10, 381, "CanalMaps$History", "count", "I")) (fun _ h9 => h9) rfl dX10_undo_4 ?_
  refine lv_if_ne (tgt := 21) hx hb dX10_undo_7 (by decide) (fun c9 => absurd (by decide +kernel) c9) (fun _ => ?_)
  obtain ⟨sa9, hstr⟩ := fxs_ hF RX10 384 "there is nothing to undo"
  exact vx_throwSW (own := RX10) (cls := "java/lang/IllegalStateException") (names := ["java/lang/RuntimeException", "java/lang/Exception"]) hx hb hl0 hown (by decide +kernel) (by decide +kernel) (hts (.classLink RX10 268 "java/lang/IllegalStateException") (List.mem_of_getElem? (i := 1) (by decide +kernel))) (hts (.initialized "java/lang/IllegalStateException") (List.mem_of_getElem? (i := 2) (by decide +kernel))) hstr (fxw_ hts (by decide +kernel) (by decide +kernel) (fxb_ hF "java/lang/IllegalStateException")) (by decide +kernel) hF.2.2.2.2.1 hF.2.2.2.2.2.1 hS (by rw [hml]; exact hl.1) dX10_undo_10 dX10_undo_13 dX10_undo_14 dX10_undo_17 dX10_undo_20 (fun x9 hx9 => (htab x9 hx9).elim) (Nat.le_of_ble_eq_true rfl) (Nat.le_of_ble_eq_true rfl) (Nat.le_of_ble_eq_true rfl) (Nat.le_of_ble_eq_true rfl) hlocks (fun t9 _ hz9 hq9 => ⟨rfl, xt_ hS hz9 hq9⟩) hS.2.2 (Nat.le_of_ble_eq_true rfl) (Nat.le_of_ble_eq_true rfl)
set_option maxHeartbeats 4000000 in
set_option maxRecDepth 100000 in
theorem c_L_undo_0 (l : Launch) (hl0 : l.stackTraces = false) (D : va_G) (ad : Nat → Nat) (sz : Nat) (h0 : Nat) (h1 : Nat) (r0 : Nat) (v0 : Value) (v1 : Value) (v2 : Value) (v3 : Value) (v4 : Value) (v5 : Value) (v6 : Value) (v7 : Value) (v8 : Value) (v9 : Value) (v10 : Value) : Met l yL_undo wsL_undo ({ frames := 7, cells := 1, slots := 6, locals := 122 }) (PC_ D ad [(h0, .inr (13, [v0, v1, v2, .ref h1, v3, v4, v5, v6, v7, v8])), (h1, .inr (7, [v9, v10, .int 0]))] [] sz [.ref h0, .ref r0]) (QG_ D (fun q i => some (.int 1)) (fun q i => True) (fun q k i => []) (fun q k i => []) (va_A [(h0, .inr (13, [v0, v1, v2, .ref h1, v3, v4, v5, v6, v7, v8])), (h1, .inr (7, [v9, v10, .int 0]))] sz)) 1 6 (va_A [(h0, .inr (13, [v0, v1, v2, .ref h1, v3, v4, v5, v6, v7, v8])), (h1, .inr (7, [v9, v10, .int 0]))] sz) := by
  refine va_MetW (cc := cL_undo) (maxL := 3) (ret := (some .int)) (by decide) rfl ?_
  intro p e s m args below meth c s₁ B hml hv
  obtain ⟨rfl, hsz, hP, hK, hD0, hF⟩ := hv
  have hx := B.exec
  have hb := B.bytes
  have hr := B.returns
  have hts := atoms_spec (ws := wsL_undo) B.pre
  have hown : s.vm.findClass RL = some m.cls := findClass_of_methodNamed B.named
  have hlocks := B.notSynchronized
  have htb := vx_table (x := yL_undo) B (hts _ (List.mem_cons_self))
  subst hsz
  have hD := hD0.self (sz := s.heap.size)
  generalize hAe : va_A [(h0, .inr (13, [v0, v1, v2, .ref h1, v3, v4, v5, v6, v7, v8])), (h1, .inr (7, [v9, v10, .int 0]))] s.heap.size = A at hD hF ⊢
  have hA : ∀ q : Nat, s.heap.size ≤ q → A q := fun q h => by rw [← hAe]; exact Or.inr h
  obtain ⟨H, hHe⟩ : ∃ H : Heap, H = s.heap := ⟨_, rfl⟩
  have hS : va_S A s.heap H [] := by rw [hHe]; exact va_S.rf
  have hP : va_P D vwCl [(h0, .inr (13, [v0, v1, v2, .ref h1, v3, v4, v5, v6, v7, v8])), (h1, .inr (7, [v9, v10, .int 0]))] H := by rw [hHe]; exact hP
  rw [← hHe]
  have hl := lv_entry [.ref h0, .ref r0] (n := 3) (Nat.le_of_ble_eq_true rfl)
  rw [lg_entry_eq]
  generalize (lg_sl [.ref h0, .ref r0] ++ List.replicate (3 - (lg_sl [.ref h0, .ref r0]).length) Slot.unset).toArray = ls at hl ⊢
  have hl : lv_has ls 3 [(0, .ref h0), (1, .ref r0)] := hl
  refine lv_aload_n hx hb dL_undo_0 rfl (lv_at hl 1 rfl) ?_
  refine lv_iconst (v := 0) hx hb dL_undo_1 (by decide) ?_
  refine lv_aload_n hx hb dL_undo_2 rfl (lv_at hl 0 rfl) ?_
  refine kx_ (E0 := "java/lang/IllegalStateException") (wc := [(h0, .inr (13, [v0, v1, v2, .ref h1, v3, v4, v5, v6, v7, v8])), (h1, .inr (7, [v9, v10, .int 0]))]) (vx_runV (As := []) (rest := [.int 0, .ref r0]) ⟨hx, hb, hml, hown, hts⟩ (c_X10_undo_0 l hl0 D ad H.size h0 h1 (v0) (v1) (v2) (v3) (v4) (v5) (v6) (v7) (v8) (v9) (v10)) (cwV 0 hts gL_undo_X10_undo rfl rfl rfl (by decide +kernel) ⟨Nat.le_of_ble_eq_true rfl, Nat.le_of_ble_eq_true rfl⟩) ⟨PC_.blind, va_recv hK hP (ci := 13) (q0 := 0) rfl rfl, PC_.pre hF hK hP hD hS hA [0, 1] [] rfl (by decide) rfl⟩ rfl rfl hl.1 rfl (lv_room (Nat.le_of_ble_eq_true rfl)) dL_undo_3 ⟨Nat.le_of_ble_eq_true rfl, Nat.le_of_ble_eq_true rfl⟩) hD hS hA [0, 1] rfl (fun ce q9 H locs hS hce hvm hcl => ?_)
  refine vx_catch (own := RL) (name := "java/lang/IllegalStateException") (E := "java/lang/IllegalStateException") hown [] (⟨0, 8, 11, 95⟩ : ExceptionTableEntry) [] (htb.trans rfl) (fun z hz => by cases hz) (by decide) (by decide) (hts (.classLink RL 95 "java/lang/IllegalStateException") (List.mem_of_getElem? (i := 1) (by decide +kernel))) (fxk_ hF "java/lang/IllegalStateException" "java/lang/IllegalStateException") hce hvm hcl ?_
  have hP : va_P D vwCl [] H := fun k q h => by simp at h
  have hD : va_D A [] := ⟨fun i j p q h => by simp at h, fun k q h => by simp at h⟩
  have hK : va_K D vwCl [] s := ⟨hK.1, fun k q h => by simp at h⟩
  refine W.eq (g2 := F0 m 11 ls [.ref q9]) rfl ?_
  refine lv_astore_n (lv' := [(2, .ref q9), (0, .ref h0), (1, .ref r0)]) hx hb dL_undo_11 rfl hl (by decide) rfl (fun ls hl => ?_)
  refine lv_iconst (v := 1) hx hb dL_undo_12 (by decide) ?_
  refine W.widen (k := 1) (n := 6) (Nat.le_of_ble_eq_true rfl) (Nat.le_of_ble_eq_true rfl) ?_
  exact W.iret (v := 1) hx hb hr (QG_.mk (fun _ => 0) (fun _ => 0) (fun _ => 0) [] [] hP hD hK hS rfl trivial rfl (by decide) rfl) hS.2.2 dL_undo_13
set_option maxHeartbeats 4000000 in
set_option maxRecDepth 100000 in
theorem c_X11_undo_0 (l : Launch) (hl0 : l.stackTraces = false) (D : va_G) (ad : Nat → Nat) (sz : Nat) (h0 : Nat) (v0 : Value) (v1 : Value) (v2 : Value) (v3 : Value) (v4 : Value) (v5 : Value) (v6 : Value) (v7 : Value) (v8 : Value) (v9 : Value) (v10 : Value) (v11 : Value) (v12 : Value) (v13 : Value) (v14 : Value) (v15 : Value) (v16 : Value) (v17 : Value) (v18 : Value) (v19 : Value) (v20 : Value) (v21 : Value) (v22 : Value) (v23 : Value) : Met l yX11_undo wsX11_undo ({ frames := 1, cells := 0, slots := 0, locals := 23 }) (PC_ D ad [(h0, .inr (14, [v0, v1, v2, v3, .int 0, v4, v5, v6, v7, v8, v9, v10, v11, v12, v13, v14, v15, v16, v17, v18, v19, v20, v21, v22, v23]))] [] sz [.ref h0]) (QG_ D (fun q i => some (.int 0)) (fun q i => True) (fun q k i => [(h0, .inr (14, [v0, v1, v2, v3, .int 0, v4, v5, v6, v7, v8, v9, v10, v11, v12, v13, v14, v15, v16, v17, v18, v19, v20, v21, .int 1, v23]))]) (fun q k i => []) (va_A [(h0, .inr (14, [v0, v1, v2, v3, .int 0, v4, v5, v6, v7, v8, v9, v10, v11, v12, v13, v14, v15, v16, v17, v18, v19, v20, v21, v22, v23]))] sz)) 0 0 (va_A [(h0, .inr (14, [v0, v1, v2, v3, .int 0, v4, v5, v6, v7, v8, v9, v10, v11, v12, v13, v14, v15, v16, v17, v18, v19, v20, v21, v22, v23]))] sz) := by
  refine Met.ofW (cc := cX11_undo) (maxL := 3) (ret := (some .int)) (by decide) rfl ?_
  intro p e s m args below meth c s₁ B hml hv
  obtain ⟨rfl, hsz, hP, hK, hD0, hF⟩ := hv
  have hx := B.exec
  have hb := B.bytes
  have hr := B.returns
  have hts := atoms_spec (ws := wsX11_undo) B.pre
  have hown : s.vm.findClass RX11 = some m.cls := findClass_of_methodNamed B.named
  have hlocks := B.notSynchronized
  subst hsz
  have hD := hD0.self (sz := s.heap.size)
  generalize hAe : va_A [(h0, .inr (14, [v0, v1, v2, v3, .int 0, v4, v5, v6, v7, v8, v9, v10, v11, v12, v13, v14, v15, v16, v17, v18, v19, v20, v21, v22, v23]))] s.heap.size = A at hD hF ⊢
  have hA : ∀ q : Nat, s.heap.size ≤ q → A q := fun q h => by rw [← hAe]; exact Or.inr h
  obtain ⟨H, hHe⟩ : ∃ H : Heap, H = s.heap := ⟨_, rfl⟩
  have hS : va_S A s.heap H [] := by rw [hHe]; exact va_S.rf
  have hP : va_P D vwCl [(h0, .inr (14, [v0, v1, v2, v3, .int 0, v4, v5, v6, v7, v8, v9, v10, v11, v12, v13, v14, v15, v16, v17, v18, v19, v20, v21, v22, v23]))] H := by rw [hHe]; exact hP
  rw [← hHe]
  have hi_X11 : ∀ w ∈ wsX110, w ∈ wsX11_undo := by decide +kernel
  have hl := lv_entry [.ref h0] (n := 3) (Nat.le_of_ble_eq_true rfl)
  rw [lg_entry_eq]
  generalize (lg_sl [.ref h0] ++ List.replicate (3 - (lg_sl [.ref h0]).length) Slot.unset).toArray = ls at hl ⊢
  have hl : lv_has ls 3 [(0, .ref h0)] := hl
  refine lv_aload_n hx hb dX11_undo_0 rfl (lv_at hl 0 rfl) ?_
  refine lv_iconst (v := 0) hx hb dX11_undo_1 (by decide) ?_
  refine va_put (D := D) (ci := 14) (v := .int 0) (ty := .int) (own := RX11) (C := RX11) (T := TX11) (N := 25) hx hb hts hi_X11 tyX11 tyX11_ok nmX11 hown hK hP hD hS 0 rfl rfl 23 (by decide) (hts (.fieldLink RX11 47 "CanalMapsModel" "thrown" "I") (List.mem_of_getElem? (i := 1) (by decide +kernel))) (fun _ h9 => h9) rfl (by decide +kernel) rfl rfl (Nat.le_of_ble_eq_true rfl) dX11_undo_2 (fun H locs hP hD hS => ?_)
  have hP : va_P D vwCl [(h0, .inr (14, [v0, v1, v2, v3, .int 0, v4, v5, v6, v7, v8, v9, v10, v11, v12, v13, v14, v15, v16, v17, v18, v19, v20, v21, .int 0, v23]))] H := hP
  have hD : va_D A [(h0, .inr (14, [v0, v1, v2, v3, .int 0, v4, v5, v6, v7, v8, v9, v10, v11, v12, v13, v14, v15, v16, v17, v18, v19, v20, v21, .int 0, v23]))] := hD
  refine lv_aload_n hx hb dX11_undo_5 rfl (lv_at hl 0 rfl) ?_
  refine va_get (D := D) (ci := 14) (v := .int 0) (own := RX11) (C := RX11) (T := TX11) (N := 25) hx hb hts hi_X11 hown hK hP 0 rfl rfl 4 (by decide) (hts (.fieldLink RX11 60 "CanalMapsModel" "undos" "I") (List.mem_of_getElem? (i := 2) (by decide +kernel))) (fun _ h9 => h9) rfl dX11_undo_6 ?_
  refine lv_if_ne (tgt := 18) hx hb dX11_undo_9 (by decide) (fun c9 => absurd (by decide +kernel) c9) (fun _ => ?_)
  refine lv_aload_n hx hb dX11_undo_12 rfl (lv_at hl 0 rfl) ?_
  refine lv_iconst (v := 1) hx hb dX11_undo_13 (by decide) ?_
  refine kc_ (wc := [(h0, .inr (14, [v0, v1, v2, v3, .int 0, v4, v5, v6, v7, v8, v9, v10, v11, v12, v13, v14, v15, v16, v17, v18, v19, v20, v21, .int 0, v23]))]) (wr := []) (va_runV (As := [.int 1]) (rest := []) ⟨hx, hb, hml, hown, hts⟩ (c_X11_raises_0 l hl0 D ad H.size h0 (v0) (v1) (v2) (v3) (.int 0) (v4) (v5) (v6) (v7) (v8) (v9) (v10) (v11) (v12) (v13) (v14) (v15) (v16) (v17) (v18) (v19) (v20) (v21) (.int 0) (v23)) (cwV 1 hts gX11_undo_X11_raises rfl rfl rfl (by decide +kernel) ⟨Nat.le_of_ble_eq_true rfl, Nat.le_of_ble_eq_true rfl⟩) ⟨PC_.blind, va_recv hK hP (ci := 14) (q0 := 0) rfl rfl, PC_.pre hF hK hP hD hS hA [0] [] rfl (by decide) rfl⟩ rfl rfl hl.1 rfl (lv_room (Nat.le_of_ble_eq_true rfl)) dX11_undo_14 ⟨Nat.le_of_ble_eq_true rfl, Nat.le_of_ble_eq_true rfl⟩) hK hP hD hS hA [0] [] [] rfl rfl (by decide) (by decide) rfl (fun qa_1 ka_1 ia_1 H locs hpo hP hD hK hS => ?_)
  have hP : va_P D vwCl [(h0, .inr (14, [v0, v1, v2, v3, .int 0, v4, v5, v6, v7, v8, v9, v10, v11, v12, v13, v14, v15, v16, v17, v18, v19, v20, v21, .int 1, v23]))] H := hP
  have hD : va_D A [(h0, .inr (14, [v0, v1, v2, v3, .int 0, v4, v5, v6, v7, v8, v9, v10, v11, v12, v13, v14, v15, v16, v17, v18, v19, v20, v21, .int 1, v23]))] := hD
  have hK : va_K D vwCl [] s := hK
  refine W.eq (g2 := F0 m 17 ls [.int 0]) rfl ?_
  refine W.widen (k := 0) (n := 0) (Nat.le_of_ble_eq_true rfl) (Nat.le_of_ble_eq_true rfl) ?_
  exact W.iret (v := 0) hx hb hr (QG_.mk (fun _ => 0) (fun _ => 0) (fun _ => 0) [0] [] hP hD hK hS rfl trivial rfl (by decide) rfl) hS.2.2 dX11_undo_17
set_option maxHeartbeats 4000000 in
set_option maxRecDepth 100000 in
theorem c_X10_save_0 (l : Launch) (hl0 : l.stackTraces = false) (D : va_G) (ad : Nat → Nat) (sz : Nat) (h0 : Nat) (h1 : Nat) (h2 : Nat) (h3 : Nat) (h4 : Nat) (h5 : Nat) (h6 : Nat) (h7 : Nat) (h8 : Nat) (h9 : Nat) (h10 : Nat) (h11 : Nat) (h12 : Nat) (k3 : ClassId) (k4 : ClassId) (k5 : ClassId) (k6 : ClassId) (k7 : ClassId) (k8 : ClassId) (k10 : ClassId) (k12 : ClassId) (v0 : Value) (v1 : Value) (v2 : Value) (v3 : Value) (v4 : Value) (v5 : Value) (v6 : Value) (v7 : Value) (v8 : Value) (v9 : Value) (v10 : Value) (v11 : Value) (v12 : Value) (v13 : Value) (v14 : Value) (v15 : Value) (v16 : Value) (f0 : Nat → Int32) (f1 : Nat → Int32) : Met l yX10_save wsX10_save ({ frames := 3, cells := 0, slots := 0, locals := 106 }) (PC_ D ad [(h0, .inr (13, [.ref h1, v0, .ref h2, v1, v2, v3, v4, v5, v6, v7])), (h1, .inr (11, [v8, .ref h3, .ref h5, .ref h7, .ref h11, .int 0, .int 0, .int 0, .int 0, .int 0])), (h2, .inr (11, [v9, .ref h4, .ref h6, .ref h8, .ref h9, v10, v11, v12, v13, v14])), (h3, .inl (k3, 6, .inl (fun _ => 0))), (h4, .inl (k4, 6, .inl (fun _ => 0))), (h5, .inl (k5, 36, .inl (fun _ => 0))), (h6, .inl (k6, 36, .inl (fun _ => 0))), (h7, .inl (k7, 36, .inl (fun _ => 0))), (h8, .inl (k8, 36, .inl (fun _ => 0))), (h9, .inr (8, [.ref h10, v15, v16])), (h10, .inl (k10, 64, .inl f0)), (h11, .inr (8, [.ref h12, .int 0, .int 0])), (h12, .inl (k12, 64, .inl f1))] [(k3, .int), (k4, .int), (k5, .int), (k6, .int), (k7, .int), (k8, .int), (k10, .int), (k12, .int)] sz [.ref h0]) (QG_ D (fun q i => some (.int 0)) (fun q i => True) (fun q k i => [(h0, .inr (13, [.ref h1, v0, .ref h2, v1, v2, v3, v4, .int 1, v6, v7])), (h1, .inr (11, [v8, .ref h3, .ref h5, .ref h7, .ref h11, .int 0, .int 0, .int 0, .int 0, .int 0])), (h2, .inr (11, [v9, .ref h4, .ref h6, .ref h8, .ref h9, .int 0, .int 0, .int 0, .int 0, .int 0])), (h3, .inl (k3, 6, .inl (fun _ => 0))), (h4, .inl (k4, 6, .inl (fun _ => 0))), (h5, .inl (k5, 36, .inl (fun _ => 0))), (h6, .inl (k6, 36, .inl (fun _ => 0))), (h7, .inl (k7, 36, .inl (fun _ => 0))), (h8, .inl (k8, 36, .inl (fun _ => 0))), (h9, .inr (8, [.ref h10, .int 0, .int 0])), (h10, .inl (k10, 64, .inl f0)), (h11, .inr (8, [.ref h12, .int 0, .int 0])), (h12, .inl (k12, 64, .inl f1))]) (fun q k i => [(k3, .int), (k4, .int), (k5, .int), (k6, .int), (k7, .int), (k8, .int), (k10, .int), (k12, .int)]) (va_A [(h0, .inr (13, [.ref h1, v0, .ref h2, v1, v2, v3, v4, v5, v6, v7])), (h1, .inr (11, [v8, .ref h3, .ref h5, .ref h7, .ref h11, .int 0, .int 0, .int 0, .int 0, .int 0])), (h2, .inr (11, [v9, .ref h4, .ref h6, .ref h8, .ref h9, v10, v11, v12, v13, v14])), (h3, .inl (k3, 6, .inl (fun _ => 0))), (h4, .inl (k4, 6, .inl (fun _ => 0))), (h5, .inl (k5, 36, .inl (fun _ => 0))), (h6, .inl (k6, 36, .inl (fun _ => 0))), (h7, .inl (k7, 36, .inl (fun _ => 0))), (h8, .inl (k8, 36, .inl (fun _ => 0))), (h9, .inr (8, [.ref h10, v15, v16])), (h10, .inl (k10, 64, .inl f0)), (h11, .inr (8, [.ref h12, .int 0, .int 0])), (h12, .inl (k12, 64, .inl f1))] sz)) 0 0 (va_A [(h0, .inr (13, [.ref h1, v0, .ref h2, v1, v2, v3, v4, v5, v6, v7])), (h1, .inr (11, [v8, .ref h3, .ref h5, .ref h7, .ref h11, .int 0, .int 0, .int 0, .int 0, .int 0])), (h2, .inr (11, [v9, .ref h4, .ref h6, .ref h8, .ref h9, v10, v11, v12, v13, v14])), (h3, .inl (k3, 6, .inl (fun _ => 0))), (h4, .inl (k4, 6, .inl (fun _ => 0))), (h5, .inl (k5, 36, .inl (fun _ => 0))), (h6, .inl (k6, 36, .inl (fun _ => 0))), (h7, .inl (k7, 36, .inl (fun _ => 0))), (h8, .inl (k8, 36, .inl (fun _ => 0))), (h9, .inr (8, [.ref h10, v15, v16])), (h10, .inl (k10, 64, .inl f0)), (h11, .inr (8, [.ref h12, .int 0, .int 0])), (h12, .inl (k12, 64, .inl f1))] sz) := by
  refine Met.ofW (cc := cX10_save) (maxL := 1) (ret := (some .int)) (by decide) rfl ?_
  intro p e s m args below meth c s₁ B hml hv
  obtain ⟨rfl, hsz, hP, hK, hD0, hF⟩ := hv
  have hx := B.exec
  have hb := B.bytes
  have hr := B.returns
  have hts := atoms_spec (ws := wsX10_save) B.pre
  have hown : s.vm.findClass RX10 = some m.cls := findClass_of_methodNamed B.named
  have hlocks := B.notSynchronized
  subst hsz
  have hD := hD0.self (sz := s.heap.size)
  generalize hAe : va_A [(h0, .inr (13, [.ref h1, v0, .ref h2, v1, v2, v3, v4, v5, v6, v7])), (h1, .inr (11, [v8, .ref h3, .ref h5, .ref h7, .ref h11, .int 0, .int 0, .int 0, .int 0, .int 0])), (h2, .inr (11, [v9, .ref h4, .ref h6, .ref h8, .ref h9, v10, v11, v12, v13, v14])), (h3, .inl (k3, 6, .inl (fun _ => 0))), (h4, .inl (k4, 6, .inl (fun _ => 0))), (h5, .inl (k5, 36, .inl (fun _ => 0))), (h6, .inl (k6, 36, .inl (fun _ => 0))), (h7, .inl (k7, 36, .inl (fun _ => 0))), (h8, .inl (k8, 36, .inl (fun _ => 0))), (h9, .inr (8, [.ref h10, v15, v16])), (h10, .inl (k10, 64, .inl f0)), (h11, .inr (8, [.ref h12, .int 0, .int 0])), (h12, .inl (k12, 64, .inl f1))] s.heap.size = A at hD hF ⊢
  have hA : ∀ q : Nat, s.heap.size ≤ q → A q := fun q h => by rw [← hAe]; exact Or.inr h
  obtain ⟨H, hHe⟩ : ∃ H : Heap, H = s.heap := ⟨_, rfl⟩
  have hS : va_S A s.heap H [] := by rw [hHe]; exact va_S.rf
  have hP : va_P D vwCl [(h0, .inr (13, [.ref h1, v0, .ref h2, v1, v2, v3, v4, v5, v6, v7])), (h1, .inr (11, [v8, .ref h3, .ref h5, .ref h7, .ref h11, .int 0, .int 0, .int 0, .int 0, .int 0])), (h2, .inr (11, [v9, .ref h4, .ref h6, .ref h8, .ref h9, v10, v11, v12, v13, v14])), (h3, .inl (k3, 6, .inl (fun _ => 0))), (h4, .inl (k4, 6, .inl (fun _ => 0))), (h5, .inl (k5, 36, .inl (fun _ => 0))), (h6, .inl (k6, 36, .inl (fun _ => 0))), (h7, .inl (k7, 36, .inl (fun _ => 0))), (h8, .inl (k8, 36, .inl (fun _ => 0))), (h9, .inr (8, [.ref h10, v15, v16])), (h10, .inl (k10, 64, .inl f0)), (h11, .inr (8, [.ref h12, .int 0, .int 0])), (h12, .inl (k12, 64, .inl f1))] H := by rw [hHe]; exact hP
  rw [← hHe]
  have hi_X10 : ∀ w ∈ wsX100, w ∈ wsX10_save := by decide +kernel
  have hi_X8 : ∀ w ∈ wsX80, w ∈ wsX10_save := by decide +kernel
  have hl := lv_entry [.ref h0] (n := 1) (Nat.le_of_ble_eq_true rfl)
  rw [lg_entry_eq]
  generalize (lg_sl [.ref h0] ++ List.replicate (1 - (lg_sl [.ref h0]).length) Slot.unset).toArray = ls at hl ⊢
  have hl : lv_has ls 1 [(0, .ref h0)] := hl
  refine lv_aload_n hx hb dX10_save_0 rfl (lv_at hl 0 rfl) ?_
  refine va_get (D := D) (ci := 13) (v := .ref h2) (own := RX10) (C := RX10) (T := TX10) (N := 10) hx hb hts hi_X10 hown hK hP 0 rfl rfl 2 (by decide) (hts (.fieldLink RX10 57 "CanalMaps" "saved" "LCanalMaps$Survey;") (List.mem_of_getElem? (i := 1) (by decide +kernel))) (fun _ h9 => h9) rfl dX10_save_1 ?_
  refine lv_aload_n hx hb dX10_save_4 rfl (lv_at hl 0 rfl) ?_
  refine va_get (D := D) (ci := 13) (v := .ref h1) (own := RX10) (C := RX10) (T := TX10) (N := 10) hx hb hts hi_X10 hown hK hP 0 rfl rfl 0 (by decide) (hts (.fieldLink RX10 50 "CanalMaps" "now" "LCanalMaps$Survey;") (List.mem_of_getElem? (i := 2) (by decide +kernel))) (fun _ h9 => h9) rfl dX10_save_5 ?_
  refine kc_ (wc := [(h1, .inr (11, [v8, .ref h3, .ref h5, .ref h7, .ref h11, .int 0, .int 0, .int 0, .int 0, .int 0])), (h2, .inr (11, [v9, .ref h4, .ref h6, .ref h8, .ref h9, v10, v11, v12, v13, v14])), (h3, .inl (k3, 6, .inl (fun _ => 0))), (h4, .inl (k4, 6, .inl (fun _ => 0))), (h5, .inl (k5, 36, .inl (fun _ => 0))), (h6, .inl (k6, 36, .inl (fun _ => 0))), (h7, .inl (k7, 36, .inl (fun _ => 0))), (h8, .inl (k8, 36, .inl (fun _ => 0))), (h9, .inr (8, [.ref h10, v15, v16])), (h10, .inl (k10, 64, .inl f0)), (h11, .inr (8, [.ref h12, .int 0, .int 0])), (h12, .inl (k12, 64, .inl f1))]) (wr := [(h0, .inr (13, [.ref h1, v0, .ref h2, v1, v2, v3, v4, v5, v6, v7]))]) (va_runV (As := [.ref h1]) (rest := []) ⟨hx, hb, hml, hown, hts⟩ (c_X8_copyFrom_0 l hl0 D ad H.size h1 h2 h3 h4 h5 h6 h7 h8 h9 h10 h11 h12 k3 k4 k5 k6 k7 k8 k10 k12 (v8) (v9) (v10) (v11) (v12) (v13) (v14) (v15) (v16) f0 f1) (cwV 1 hts gX10_save_X8_copyFrom rfl rfl rfl (by decide +kernel) ⟨Nat.le_of_ble_eq_true rfl, Nat.le_of_ble_eq_true rfl⟩) ⟨PC_.blind, va_recv hK hP (ci := 11) (q0 := 2) rfl rfl, PC_.pre hF hK hP hD hS hA [1, 2, 3, 4, 5, 6, 7, 8, 9, 10, 11, 12] [0, 1, 2, 3, 4, 5, 6, 7] rfl (by decide) rfl⟩ rfl rfl hl.1 rfl (lv_room (Nat.le_of_ble_eq_true rfl)) dX10_save_8 ⟨Nat.le_of_ble_eq_true rfl, Nat.le_of_ble_eq_true rfl⟩) hK hP hD hS hA [1, 2, 3, 4, 5, 6, 7, 8, 9, 10, 11, 12] [0] [] rfl rfl (by decide) (by decide) rfl (fun qa_1 ka_1 ia_1 H locs hpo hP hD hK hS => ?_)
  have hP : va_P D vwCl [(h0, .inr (13, [.ref h1, v0, .ref h2, v1, v2, v3, v4, v5, v6, v7])), (h1, .inr (11, [v8, .ref h3, .ref h5, .ref h7, .ref h11, .int 0, .int 0, .int 0, .int 0, .int 0])), (h2, .inr (11, [v9, .ref h4, .ref h6, .ref h8, .ref h9, .int 0, .int 0, .int 0, .int 0, .int 0])), (h3, .inl (k3, 6, .inl (fun _ => 0))), (h4, .inl (k4, 6, .inl (fun _ => 0))), (h5, .inl (k5, 36, .inl (fun _ => 0))), (h6, .inl (k6, 36, .inl (fun _ => 0))), (h7, .inl (k7, 36, .inl (fun _ => 0))), (h8, .inl (k8, 36, .inl (fun _ => 0))), (h9, .inr (8, [.ref h10, .int 0, .int 0])), (h10, .inl (k10, 64, .inl f0)), (h11, .inr (8, [.ref h12, .int 0, .int 0])), (h12, .inl (k12, 64, .inl f1))] H := hP
  have hD : va_D A [(h0, .inr (13, [.ref h1, v0, .ref h2, v1, v2, v3, v4, v5, v6, v7])), (h1, .inr (11, [v8, .ref h3, .ref h5, .ref h7, .ref h11, .int 0, .int 0, .int 0, .int 0, .int 0])), (h2, .inr (11, [v9, .ref h4, .ref h6, .ref h8, .ref h9, .int 0, .int 0, .int 0, .int 0, .int 0])), (h3, .inl (k3, 6, .inl (fun _ => 0))), (h4, .inl (k4, 6, .inl (fun _ => 0))), (h5, .inl (k5, 36, .inl (fun _ => 0))), (h6, .inl (k6, 36, .inl (fun _ => 0))), (h7, .inl (k7, 36, .inl (fun _ => 0))), (h8, .inl (k8, 36, .inl (fun _ => 0))), (h9, .inr (8, [.ref h10, .int 0, .int 0])), (h10, .inl (k10, 64, .inl f0)), (h11, .inr (8, [.ref h12, .int 0, .int 0])), (h12, .inl (k12, 64, .inl f1))] := hD
  have hK : va_K D vwCl [(k3, .int), (k4, .int), (k5, .int), (k6, .int), (k7, .int), (k8, .int), (k10, .int), (k12, .int)] s := hK
  refine W.eq (g2 := F0 m 11 ls []) rfl ?_
  refine lv_aload_n hx hb dX10_save_11 rfl (lv_at hl 0 rfl) ?_
  refine lv_iconst (v := 1) hx hb dX10_save_12 (by decide) ?_
  refine va_put (D := D) (ci := 13) (v := .int 1) (ty := .boolean) (own := RX10) (C := RX10) (T := TX10) (N := 10) hx hb hts hi_X10 tyX10 tyX10_ok nmX10 hown hK hP hD hS 0 rfl rfl 7 (by decide) (hts (.fieldLink RX10 30 "CanalMaps" "isSaved" "Z") (List.mem_of_getElem? (i := 3) (by decide +kernel))) (fun _ h9 => h9) rfl (by decide +kernel) rfl rfl (Nat.le_of_ble_eq_true rfl) dX10_save_13 (fun H locs hP hD hS => ?_)
  have hP : va_P D vwCl [(h0, .inr (13, [.ref h1, v0, .ref h2, v1, v2, v3, v4, .int 1, v6, v7])), (h1, .inr (11, [v8, .ref h3, .ref h5, .ref h7, .ref h11, .int 0, .int 0, .int 0, .int 0, .int 0])), (h2, .inr (11, [v9, .ref h4, .ref h6, .ref h8, .ref h9, .int 0, .int 0, .int 0, .int 0, .int 0])), (h3, .inl (k3, 6, .inl (fun _ => 0))), (h4, .inl (k4, 6, .inl (fun _ => 0))), (h5, .inl (k5, 36, .inl (fun _ => 0))), (h6, .inl (k6, 36, .inl (fun _ => 0))), (h7, .inl (k7, 36, .inl (fun _ => 0))), (h8, .inl (k8, 36, .inl (fun _ => 0))), (h9, .inr (8, [.ref h10, .int 0, .int 0])), (h10, .inl (k10, 64, .inl f0)), (h11, .inr (8, [.ref h12, .int 0, .int 0])), (h12, .inl (k12, 64, .inl f1))] H := hP
  have hD : va_D A [(h0, .inr (13, [.ref h1, v0, .ref h2, v1, v2, v3, v4, .int 1, v6, v7])), (h1, .inr (11, [v8, .ref h3, .ref h5, .ref h7, .ref h11, .int 0, .int 0, .int 0, .int 0, .int 0])), (h2, .inr (11, [v9, .ref h4, .ref h6, .ref h8, .ref h9, .int 0, .int 0, .int 0, .int 0, .int 0])), (h3, .inl (k3, 6, .inl (fun _ => 0))), (h4, .inl (k4, 6, .inl (fun _ => 0))), (h5, .inl (k5, 36, .inl (fun _ => 0))), (h6, .inl (k6, 36, .inl (fun _ => 0))), (h7, .inl (k7, 36, .inl (fun _ => 0))), (h8, .inl (k8, 36, .inl (fun _ => 0))), (h9, .inr (8, [.ref h10, .int 0, .int 0])), (h10, .inl (k10, 64, .inl f0)), (h11, .inr (8, [.ref h12, .int 0, .int 0])), (h12, .inl (k12, 64, .inl f1))] := hD
  refine lv_aload_n hx hb dX10_save_16 rfl (lv_at hl 0 rfl) ?_
  refine va_get (D := D) (ci := 13) (v := .ref h1) (own := RX10) (C := RX10) (T := TX10) (N := 10) hx hb hts hi_X10 hown hK hP 0 rfl rfl 0 (by decide) (hts (.fieldLink RX10 50 "CanalMaps" "now" "LCanalMaps$Survey;") (List.mem_of_getElem? (i := 2) (by decide +kernel))) (fun _ h9 => h9) rfl dX10_save_17 ?_
  refine va_getN (D := D) (ci := 11) (v := .int 0) (own := RX10) (C := RX8) (T := TX8) (N := 10) hx hb hts hi_X8 hown hK hP 1 rfl rfl 5 (by decide) (fxn_ hF (RX10, 238, "CanalMaps$Survey", "surveyors", "I")) (fun _ h9 => h9) rfl dX10_save_20 ?_
  refine W.widen (k := 0) (n := 0) (Nat.le_of_ble_eq_true rfl) (Nat.le_of_ble_eq_true rfl) ?_
  exact W.iret (v := 0) hx hb hr (QG_.mk (fun _ => 0) (fun _ => 0) (fun _ => 0) [0, 1, 2, 3, 4, 5, 6, 7, 8, 9, 10, 11, 12] [0, 1, 2, 3, 4, 5, 6, 7] hP hD hK hS rfl trivial rfl (by decide) rfl) hS.2.2 dX10_save_23
set_option maxHeartbeats 4000000 in
set_option maxRecDepth 100000 in
theorem c_X11_save_0 (l : Launch) (hl0 : l.stackTraces = false) (D : va_G) (ad : Nat → Nat) (sz : Nat) (h0 : Nat) (h1 : Nat) (h2 : Nat) (k1 : ClassId) (k2 : ClassId) (v0 : Value) (v1 : Value) (v2 : Value) (v3 : Value) (v4 : Value) (v5 : Value) (v6 : Value) (v7 : Value) (v8 : Value) (v9 : Value) (v10 : Value) (v11 : Value) (v12 : Value) (v13 : Value) (v14 : Value) (v15 : Value) (v16 : Value) (v17 : Value) (v18 : Value) (v19 : Value) (v20 : Value) (v21 : Value) (v22 : Value) : Met l yX11_save wsX11_save ({ frames := 1, cells := 0, slots := 0, locals := 25 }) (PC_ D ad [(h0, .inr (14, [.ref h1, v0, v1, v2, v3, .ref h2, v4, v5, v6, v7, v8, v9, v10, v11, v12, v13, v14, v15, v16, v17, v18, v19, v20, v21, v22])), (h1, .inl (k1, 8277, .inl (fun _ => 0))), (h2, .inl (k2, 8277, .inl (fun _ => 0)))] [(k1, .int), (k2, .int)] sz [.ref h0]) (QG_ D (fun q i => some (.int 0)) (fun q i => True) (fun q k i => [(h0, .inr (14, [.ref h1, v0, v1, v2, v3, .ref h2, .int 1, v5, v6, v7, v8, v9, v10, v11, v12, v13, v14, v15, v16, v17, v18, v19, v20, .int 0, v22])), (h1, .inl (k1, 8277, .inl (fun _ => 0))), (h2, .inl (k2, 8277, .inl (fun _ => 0)))]) (fun q k i => [(k1, .int), (k2, .int)]) (va_A [(h0, .inr (14, [.ref h1, v0, v1, v2, v3, .ref h2, v4, v5, v6, v7, v8, v9, v10, v11, v12, v13, v14, v15, v16, v17, v18, v19, v20, v21, v22])), (h1, .inl (k1, 8277, .inl (fun _ => 0))), (h2, .inl (k2, 8277, .inl (fun _ => 0)))] sz)) 0 0 (va_A [(h0, .inr (14, [.ref h1, v0, v1, v2, v3, .ref h2, v4, v5, v6, v7, v8, v9, v10, v11, v12, v13, v14, v15, v16, v17, v18, v19, v20, v21, v22])), (h1, .inl (k1, 8277, .inl (fun _ => 0))), (h2, .inl (k2, 8277, .inl (fun _ => 0)))] sz) := by
  refine Met.ofW (cc := cX11_save) (maxL := 1) (ret := (some .int)) (by decide) rfl ?_
  intro p e s m args below meth c s₁ B hml hv
  obtain ⟨rfl, hsz, hP, hK, hD0, hF⟩ := hv
  have hx := B.exec
  have hb := B.bytes
  have hr := B.returns
  have hts := atoms_spec (ws := wsX11_save) B.pre
  have hown : s.vm.findClass RX11 = some m.cls := findClass_of_methodNamed B.named
  have hlocks := B.notSynchronized
  subst hsz
  have hD := hD0.self (sz := s.heap.size)
  generalize hAe : va_A [(h0, .inr (14, [.ref h1, v0, v1, v2, v3, .ref h2, v4, v5, v6, v7, v8, v9, v10, v11, v12, v13, v14, v15, v16, v17, v18, v19, v20, v21, v22])), (h1, .inl (k1, 8277, .inl (fun _ => 0))), (h2, .inl (k2, 8277, .inl (fun _ => 0)))] s.heap.size = A at hD hF ⊢
  have hA : ∀ q : Nat, s.heap.size ≤ q → A q := fun q h => by rw [← hAe]; exact Or.inr h
  obtain ⟨H, hHe⟩ : ∃ H : Heap, H = s.heap := ⟨_, rfl⟩
  have hS : va_S A s.heap H [] := by rw [hHe]; exact va_S.rf
  have hP : va_P D vwCl [(h0, .inr (14, [.ref h1, v0, v1, v2, v3, .ref h2, v4, v5, v6, v7, v8, v9, v10, v11, v12, v13, v14, v15, v16, v17, v18, v19, v20, v21, v22])), (h1, .inl (k1, 8277, .inl (fun _ => 0))), (h2, .inl (k2, 8277, .inl (fun _ => 0)))] H := by rw [hHe]; exact hP
  rw [← hHe]
  have hi_X11 : ∀ w ∈ wsX110, w ∈ wsX11_save := by decide +kernel
  have hl := lv_entry [.ref h0] (n := 1) (Nat.le_of_ble_eq_true rfl)
  rw [lg_entry_eq]
  generalize (lg_sl [.ref h0] ++ List.replicate (1 - (lg_sl [.ref h0]).length) Slot.unset).toArray = ls at hl ⊢
  have hl : lv_has ls 1 [(0, .ref h0)] := hl
  refine lv_aload_n hx hb dX11_save_0 rfl (lv_at hl 0 rfl) ?_
  refine lv_iconst (v := 0) hx hb dX11_save_1 (by decide) ?_
  refine va_put (D := D) (ci := 14) (v := .int 0) (ty := .int) (own := RX11) (C := RX11) (T := TX11) (N := 25) hx hb hts hi_X11 tyX11 tyX11_ok nmX11 hown hK hP hD hS 0 rfl rfl 23 (by decide) (hts (.fieldLink RX11 47 "CanalMapsModel" "thrown" "I") (List.mem_of_getElem? (i := 1) (by decide +kernel))) (fun _ h9 => h9) rfl (by decide +kernel) rfl rfl (Nat.le_of_ble_eq_true rfl) dX11_save_2 (fun H locs hP hD hS => ?_)
  have hP : va_P D vwCl [(h0, .inr (14, [.ref h1, v0, v1, v2, v3, .ref h2, v4, v5, v6, v7, v8, v9, v10, v11, v12, v13, v14, v15, v16, v17, v18, v19, v20, .int 0, v22])), (h1, .inl (k1, 8277, .inl (fun _ => 0))), (h2, .inl (k2, 8277, .inl (fun _ => 0)))] H := hP
  have hD : va_D A [(h0, .inr (14, [.ref h1, v0, v1, v2, v3, .ref h2, v4, v5, v6, v7, v8, v9, v10, v11, v12, v13, v14, v15, v16, v17, v18, v19, v20, .int 0, v22])), (h1, .inl (k1, 8277, .inl (fun _ => 0))), (h2, .inl (k2, 8277, .inl (fun _ => 0)))] := hD
  refine lv_aload_n hx hb dX11_save_5 rfl (lv_at hl 0 rfl) ?_
  refine lv_iconst (v := 1) hx hb dX11_save_6 (by decide) ?_
  refine va_put (D := D) (ci := 14) (v := .int 1) (ty := .boolean) (own := RX11) (C := RX11) (T := TX11) (N := 25) hx hb hts hi_X11 tyX11 tyX11_ok nmX11 hown hK hP hD hS 0 rfl rfl 6 (by decide) (hts (.fieldLink RX11 262 "CanalMapsModel" "isSaved" "Z") (List.mem_of_getElem? (i := 2) (by decide +kernel))) (fun _ h9 => h9) rfl (by decide +kernel) rfl rfl (Nat.le_of_ble_eq_true rfl) dX11_save_7 (fun H locs hP hD hS => ?_)
  have hP : va_P D vwCl [(h0, .inr (14, [.ref h1, v0, v1, v2, v3, .ref h2, .int 1, v5, v6, v7, v8, v9, v10, v11, v12, v13, v14, v15, v16, v17, v18, v19, v20, .int 0, v22])), (h1, .inl (k1, 8277, .inl (fun _ => 0))), (h2, .inl (k2, 8277, .inl (fun _ => 0)))] H := hP
  have hD : va_D A [(h0, .inr (14, [.ref h1, v0, v1, v2, v3, .ref h2, .int 1, v5, v6, v7, v8, v9, v10, v11, v12, v13, v14, v15, v16, v17, v18, v19, v20, .int 0, v22])), (h1, .inl (k1, 8277, .inl (fun _ => 0))), (h2, .inl (k2, 8277, .inl (fun _ => 0)))] := hD
  refine lv_aload_n hx hb dX11_save_10 rfl (lv_at hl 0 rfl) ?_
  refine va_get (D := D) (ci := 14) (v := .ref h1) (own := RX11) (C := RX11) (T := TX11) (N := 25) hx hb hts hi_X11 hown hK hP 0 rfl rfl 0 (by decide) (hts (.fieldLink RX11 9 "CanalMapsModel" "now" "[I") (List.mem_of_getElem? (i := 3) (by decide +kernel))) (fun _ h9 => h9) rfl dX11_save_11 ?_
  refine lv_aload_n hx hb dX11_save_14 rfl (lv_at hl 0 rfl) ?_
  refine va_get (D := D) (ci := 14) (v := .ref h2) (own := RX11) (C := RX11) (T := TX11) (N := 25) hx hb hts hi_X11 hown hK hP 0 rfl rfl 5 (by decide) (hts (.fieldLink RX11 23 "CanalMapsModel" "saved" "[I") (List.mem_of_getElem? (i := 4) (by decide +kernel))) (fun _ h9 => h9) rfl dX11_save_15 ?_
  refine kc_ (wc := [(h1, .inl (k1, 8277, .inl (fun _ => 0))), (h2, .inl (k2, 8277, .inl (fun _ => 0)))]) (wr := [(h0, .inr (14, [.ref h1, v0, v1, v2, v3, .ref h2, .int 1, v5, v6, v7, v8, v9, v10, v11, v12, v13, v14, v15, v16, v17, v18, v19, v20, .int 0, v22]))]) (va_runS (As := [.ref h1, .ref h2]) (rest := []) ⟨hx, hb, hml, hown, hts⟩ (c_X11_copies_0 l hl0 D ad H.size h1 h2 k1 k2) (va_cwS 2 hts gX11_save_X11_copies rfl rfl rfl (by decide +kernel) ⟨Nat.le_of_ble_eq_true rfl, Nat.le_of_ble_eq_true rfl⟩) ⟨PC_.blind, PC_.pre hF hK hP hD hS hA [1, 2] [0, 1] rfl (by decide) rfl⟩ rfl rfl hl.1 rfl (lv_room (Nat.le_of_ble_eq_true rfl)) dX11_save_18 ⟨Nat.le_of_ble_eq_true rfl, Nat.le_of_ble_eq_true rfl⟩) hK hP hD hS hA [1, 2] [0] [] rfl rfl (by decide) (by decide) rfl (fun qa_1 ka_1 ia_1 H locs hpo hP hD hK hS => ?_)
  have hP : va_P D vwCl [(h0, .inr (14, [.ref h1, v0, v1, v2, v3, .ref h2, .int 1, v5, v6, v7, v8, v9, v10, v11, v12, v13, v14, v15, v16, v17, v18, v19, v20, .int 0, v22])), (h1, .inl (k1, 8277, .inl (fun _ => 0))), (h2, .inl (k2, 8277, .inl (fun _ => 0)))] H := hP
  have hD : va_D A [(h0, .inr (14, [.ref h1, v0, v1, v2, v3, .ref h2, .int 1, v5, v6, v7, v8, v9, v10, v11, v12, v13, v14, v15, v16, v17, v18, v19, v20, .int 0, v22])), (h1, .inl (k1, 8277, .inl (fun _ => 0))), (h2, .inl (k2, 8277, .inl (fun _ => 0)))] := hD
  have hK : va_K D vwCl [(k1, .int), (k2, .int)] s := hK
  refine W.eq (g2 := F0 m 21 ls []) rfl ?_
  refine lv_aload_n hx hb dX11_save_21 rfl (lv_at hl 0 rfl) ?_
  refine va_get (D := D) (ci := 14) (v := .ref h1) (own := RX11) (C := RX11) (T := TX11) (N := 25) hx hb hts hi_X11 hown hK hP 0 rfl rfl 0 (by decide) (hts (.fieldLink RX11 9 "CanalMapsModel" "now" "[I") (List.mem_of_getElem? (i := 3) (by decide +kernel))) (fun _ h9 => h9) rfl dX11_save_22 ?_
  refine lv_iconst (v := 0) hx hb dX11_save_25 (by decide) ?_
  refine va_iald hx hb hK hP 1 0 rfl rfl (vin_ (by decide +kernel)) dX11_save_26 ?_
  refine kt_ (v := 0) (by decide +kernel) ?_
  refine W.widen (k := 0) (n := 0) (Nat.le_of_ble_eq_true rfl) (Nat.le_of_ble_eq_true rfl) ?_
  exact W.iret (v := 0) hx hb hr (QG_.mk (fun _ => 0) (fun _ => 0) (fun _ => 0) [0, 1, 2] [0, 1] hP hD hK hS rfl trivial rfl (by decide) rfl) hS.2.2 dX11_save_27
set_option maxHeartbeats 4000000 in
set_option maxRecDepth 100000 in
theorem c_X10_restore_0 (l : Launch) (hl0 : l.stackTraces = false) (D : va_G) (ad : Nat → Nat) (sz : Nat) (h0 : Nat) (v0 : Value) (v1 : Value) (v2 : Value) (v3 : Value) (v4 : Value) (v5 : Value) (v6 : Value) (v7 : Value) (v8 : Value) : vx_Met l yX10_restore wsX10_restore ({ frames := 6, cells := 1, slots := 6, locals := 100 }) (PC_ D ad [(h0, .inr (13, [v0, v1, v2, v3, v4, v5, v6, .int 0, v7, v8]))] [] sz [.ref h0]) QN_ (XT_ "java/lang/IllegalStateException" (va_A [(h0, .inr (13, [v0, v1, v2, v3, v4, v5, v6, .int 0, v7, v8]))] sz)) 1 6 (va_A [(h0, .inr (13, [v0, v1, v2, v3, v4, v5, v6, .int 0, v7, v8]))] sz) := by
  refine vx_ofW (cc := cX10_restore) (maxL := 1) (ret := (some .int)) (by decide) rfl ?_
  intro p e s m args below meth c s₁ B hml htab hv
  obtain ⟨rfl, hsz, hP, hK, hD0, hF⟩ := hv
  have hx := B.exec
  have hb := B.bytes
  have hr := B.returns
  have hts := atoms_spec (ws := wsX10_restore) B.pre
  have hown : s.vm.findClass RX10 = some m.cls := findClass_of_methodNamed B.named
  have hlocks := B.notSynchronized
  subst hsz
  have hD := hD0.self (sz := s.heap.size)
  generalize hAe : va_A [(h0, .inr (13, [v0, v1, v2, v3, v4, v5, v6, .int 0, v7, v8]))] s.heap.size = A at hD hF ⊢
  have hA : ∀ q : Nat, s.heap.size ≤ q → A q := fun q h => by rw [← hAe]; exact Or.inr h
  obtain ⟨H, hHe⟩ : ∃ H : Heap, H = s.heap := ⟨_, rfl⟩
  have hS : va_S A s.heap H [] := by rw [hHe]; exact va_S.rf
  have hP : va_P D vwCl [(h0, .inr (13, [v0, v1, v2, v3, v4, v5, v6, .int 0, v7, v8]))] H := by rw [hHe]; exact hP
  rw [← hHe]
  have hi_X10 : ∀ w ∈ wsX100, w ∈ wsX10_restore := by decide +kernel
  have hl := lv_entry [.ref h0] (n := 1) (Nat.le_of_ble_eq_true rfl)
  rw [lg_entry_eq]
  generalize (lg_sl [.ref h0] ++ List.replicate (1 - (lg_sl [.ref h0]).length) Slot.unset).toArray = ls at hl ⊢
  have hl : lv_has ls 1 [(0, .ref h0)] := hl
  refine lv_aload_n hx hb dX10_restore_0 rfl (lv_at hl 0 rfl) ?_
  refine va_get (D := D) (ci := 13) (v := .int 0) (own := RX10) (C := RX10) (T := TX10) (N := 10) hx hb hts hi_X10 hown hK hP 0 rfl rfl 7 (by decide) (hts (.fieldLink RX10 30 "CanalMaps" "isSaved" "Z") (List.mem_of_getElem? (i := 3) (by decide +kernel))) (fun _ h9 => h9) rfl dX10_restore_1 ?_
  refine lv_if_ne (tgt := 18) hx hb dX10_restore_4 (by decide) (fun c9 => absurd (by decide +kernel) c9) (fun _ => ?_)
  obtain ⟨sa9, hstr⟩ := fxs_ hF RX10 389 "there is no snapshot"
  exact vx_throwSW (own := RX10) (cls := "java/lang/IllegalStateException") (names := ["java/lang/RuntimeException", "java/lang/Exception"]) hx hb hl0 hown (by decide +kernel) (by decide +kernel) (hts (.classLink RX10 268 "java/lang/IllegalStateException") (List.mem_of_getElem? (i := 1) (by decide +kernel))) (hts (.initialized "java/lang/IllegalStateException") (List.mem_of_getElem? (i := 2) (by decide +kernel))) hstr (fxw_ hts (by decide +kernel) (by decide +kernel) (fxb_ hF "java/lang/IllegalStateException")) (by decide +kernel) hF.2.2.2.2.1 hF.2.2.2.2.2.1 hS (by rw [hml]; exact hl.1) dX10_restore_7 dX10_restore_10 dX10_restore_11 dX10_restore_14 dX10_restore_17 (fun x9 hx9 => (htab x9 hx9).elim) (Nat.le_of_ble_eq_true rfl) (Nat.le_of_ble_eq_true rfl) (Nat.le_of_ble_eq_true rfl) (Nat.le_of_ble_eq_true rfl) hlocks (fun t9 _ hz9 hq9 => ⟨rfl, xt_ hS hz9 hq9⟩) hS.2.2 (Nat.le_of_ble_eq_true rfl) (Nat.le_of_ble_eq_true rfl)
set_option maxHeartbeats 4000000 in
set_option maxRecDepth 100000 in
theorem c_L_restore_0 (l : Launch) (hl0 : l.stackTraces = false) (D : va_G) (ad : Nat → Nat) (sz : Nat) (h0 : Nat) (r0 : Nat) (v0 : Value) (v1 : Value) (v2 : Value) (v3 : Value) (v4 : Value) (v5 : Value) (v6 : Value) (v7 : Value) (v8 : Value) : Met l yL_restore wsL_restore ({ frames := 7, cells := 1, slots := 6, locals := 122 }) (PC_ D ad [(h0, .inr (13, [v0, v1, v2, v3, v4, v5, v6, .int 0, v7, v8]))] [] sz [.ref h0, .ref r0]) (QG_ D (fun q i => some (.int 1)) (fun q i => True) (fun q k i => []) (fun q k i => []) (va_A [(h0, .inr (13, [v0, v1, v2, v3, v4, v5, v6, .int 0, v7, v8]))] sz)) 1 6 (va_A [(h0, .inr (13, [v0, v1, v2, v3, v4, v5, v6, .int 0, v7, v8]))] sz) := by
  refine va_MetW (cc := cL_restore) (maxL := 3) (ret := (some .int)) (by decide) rfl ?_
  intro p e s m args below meth c s₁ B hml hv
  obtain ⟨rfl, hsz, hP, hK, hD0, hF⟩ := hv
  have hx := B.exec
  have hb := B.bytes
  have hr := B.returns
  have hts := atoms_spec (ws := wsL_restore) B.pre
  have hown : s.vm.findClass RL = some m.cls := findClass_of_methodNamed B.named
  have hlocks := B.notSynchronized
  have htb := vx_table (x := yL_restore) B (hts _ (List.mem_cons_self))
  subst hsz
  have hD := hD0.self (sz := s.heap.size)
  generalize hAe : va_A [(h0, .inr (13, [v0, v1, v2, v3, v4, v5, v6, .int 0, v7, v8]))] s.heap.size = A at hD hF ⊢
  have hA : ∀ q : Nat, s.heap.size ≤ q → A q := fun q h => by rw [← hAe]; exact Or.inr h
  obtain ⟨H, hHe⟩ : ∃ H : Heap, H = s.heap := ⟨_, rfl⟩
  have hS : va_S A s.heap H [] := by rw [hHe]; exact va_S.rf
  have hP : va_P D vwCl [(h0, .inr (13, [v0, v1, v2, v3, v4, v5, v6, .int 0, v7, v8]))] H := by rw [hHe]; exact hP
  rw [← hHe]
  have hl := lv_entry [.ref h0, .ref r0] (n := 3) (Nat.le_of_ble_eq_true rfl)
  rw [lg_entry_eq]
  generalize (lg_sl [.ref h0, .ref r0] ++ List.replicate (3 - (lg_sl [.ref h0, .ref r0]).length) Slot.unset).toArray = ls at hl ⊢
  have hl : lv_has ls 3 [(0, .ref h0), (1, .ref r0)] := hl
  refine lv_aload_n hx hb dL_restore_0 rfl (lv_at hl 1 rfl) ?_
  refine lv_iconst (v := 0) hx hb dL_restore_1 (by decide) ?_
  refine lv_aload_n hx hb dL_restore_2 rfl (lv_at hl 0 rfl) ?_
  refine kx_ (E0 := "java/lang/IllegalStateException") (wc := [(h0, .inr (13, [v0, v1, v2, v3, v4, v5, v6, .int 0, v7, v8]))]) (vx_runV (As := []) (rest := [.int 0, .ref r0]) ⟨hx, hb, hml, hown, hts⟩ (c_X10_restore_0 l hl0 D ad H.size h0 (v0) (v1) (v2) (v3) (v4) (v5) (v6) (v7) (v8)) (cwV 0 hts gL_restore_X10_restore rfl rfl rfl (by decide +kernel) ⟨Nat.le_of_ble_eq_true rfl, Nat.le_of_ble_eq_true rfl⟩) ⟨PC_.blind, va_recv hK hP (ci := 13) (q0 := 0) rfl rfl, PC_.pre hF hK hP hD hS hA [0] [] rfl (by decide) rfl⟩ rfl rfl hl.1 rfl (lv_room (Nat.le_of_ble_eq_true rfl)) dL_restore_3 ⟨Nat.le_of_ble_eq_true rfl, Nat.le_of_ble_eq_true rfl⟩) hD hS hA [0] rfl (fun ce q9 H locs hS hce hvm hcl => ?_)
  refine vx_catch (own := RL) (name := "java/lang/IllegalStateException") (E := "java/lang/IllegalStateException") hown [] (⟨0, 8, 11, 95⟩ : ExceptionTableEntry) [] (htb.trans rfl) (fun z hz => by cases hz) (by decide) (by decide) (hts (.classLink RL 95 "java/lang/IllegalStateException") (List.mem_of_getElem? (i := 1) (by decide +kernel))) (fxk_ hF "java/lang/IllegalStateException" "java/lang/IllegalStateException") hce hvm hcl ?_
  have hP : va_P D vwCl [] H := fun k q h => by simp at h
  have hD : va_D A [] := ⟨fun i j p q h => by simp at h, fun k q h => by simp at h⟩
  have hK : va_K D vwCl [] s := ⟨hK.1, fun k q h => by simp at h⟩
  refine W.eq (g2 := F0 m 11 ls [.ref q9]) rfl ?_
  refine lv_astore_n (lv' := [(2, .ref q9), (0, .ref h0), (1, .ref r0)]) hx hb dL_restore_11 rfl hl (by decide) rfl (fun ls hl => ?_)
  refine lv_iconst (v := 1) hx hb dL_restore_12 (by decide) ?_
  refine W.widen (k := 1) (n := 6) (Nat.le_of_ble_eq_true rfl) (Nat.le_of_ble_eq_true rfl) ?_
  exact W.iret (v := 1) hx hb hr (QG_.mk (fun _ => 0) (fun _ => 0) (fun _ => 0) [] [] hP hD hK hS rfl trivial rfl (by decide) rfl) hS.2.2 dL_restore_13
set_option maxHeartbeats 4000000 in
set_option maxRecDepth 100000 in
theorem c_X11_restore_0 (l : Launch) (hl0 : l.stackTraces = false) (D : va_G) (ad : Nat → Nat) (sz : Nat) (h0 : Nat) (v0 : Value) (v1 : Value) (v2 : Value) (v3 : Value) (v4 : Value) (v5 : Value) (v6 : Value) (v7 : Value) (v8 : Value) (v9 : Value) (v10 : Value) (v11 : Value) (v12 : Value) (v13 : Value) (v14 : Value) (v15 : Value) (v16 : Value) (v17 : Value) (v18 : Value) (v19 : Value) (v20 : Value) (v21 : Value) (v22 : Value) (v23 : Value) : Met l yX11_restore wsX11_restore ({ frames := 1, cells := 0, slots := 0, locals := 23 }) (PC_ D ad [(h0, .inr (14, [v0, v1, v2, v3, v4, v5, .int 0, v6, v7, v8, v9, v10, v11, v12, v13, v14, v15, v16, v17, v18, v19, v20, v21, v22, v23]))] [] sz [.ref h0]) (QG_ D (fun q i => some (.int 0)) (fun q i => True) (fun q k i => [(h0, .inr (14, [v0, v1, v2, v3, v4, v5, .int 0, v6, v7, v8, v9, v10, v11, v12, v13, v14, v15, v16, v17, v18, v19, v20, v21, .int 1, v23]))]) (fun q k i => []) (va_A [(h0, .inr (14, [v0, v1, v2, v3, v4, v5, .int 0, v6, v7, v8, v9, v10, v11, v12, v13, v14, v15, v16, v17, v18, v19, v20, v21, v22, v23]))] sz)) 0 0 (va_A [(h0, .inr (14, [v0, v1, v2, v3, v4, v5, .int 0, v6, v7, v8, v9, v10, v11, v12, v13, v14, v15, v16, v17, v18, v19, v20, v21, v22, v23]))] sz) := by
  refine Met.ofW (cc := cX11_restore) (maxL := 1) (ret := (some .int)) (by decide) rfl ?_
  intro p e s m args below meth c s₁ B hml hv
  obtain ⟨rfl, hsz, hP, hK, hD0, hF⟩ := hv
  have hx := B.exec
  have hb := B.bytes
  have hr := B.returns
  have hts := atoms_spec (ws := wsX11_restore) B.pre
  have hown : s.vm.findClass RX11 = some m.cls := findClass_of_methodNamed B.named
  have hlocks := B.notSynchronized
  subst hsz
  have hD := hD0.self (sz := s.heap.size)
  generalize hAe : va_A [(h0, .inr (14, [v0, v1, v2, v3, v4, v5, .int 0, v6, v7, v8, v9, v10, v11, v12, v13, v14, v15, v16, v17, v18, v19, v20, v21, v22, v23]))] s.heap.size = A at hD hF ⊢
  have hA : ∀ q : Nat, s.heap.size ≤ q → A q := fun q h => by rw [← hAe]; exact Or.inr h
  obtain ⟨H, hHe⟩ : ∃ H : Heap, H = s.heap := ⟨_, rfl⟩
  have hS : va_S A s.heap H [] := by rw [hHe]; exact va_S.rf
  have hP : va_P D vwCl [(h0, .inr (14, [v0, v1, v2, v3, v4, v5, .int 0, v6, v7, v8, v9, v10, v11, v12, v13, v14, v15, v16, v17, v18, v19, v20, v21, v22, v23]))] H := by rw [hHe]; exact hP
  rw [← hHe]
  have hi_X11 : ∀ w ∈ wsX110, w ∈ wsX11_restore := by decide +kernel
  have hl := lv_entry [.ref h0] (n := 1) (Nat.le_of_ble_eq_true rfl)
  rw [lg_entry_eq]
  generalize (lg_sl [.ref h0] ++ List.replicate (1 - (lg_sl [.ref h0]).length) Slot.unset).toArray = ls at hl ⊢
  have hl : lv_has ls 1 [(0, .ref h0)] := hl
  refine lv_aload_n hx hb dX11_restore_0 rfl (lv_at hl 0 rfl) ?_
  refine lv_iconst (v := 0) hx hb dX11_restore_1 (by decide) ?_
  refine va_put (D := D) (ci := 14) (v := .int 0) (ty := .int) (own := RX11) (C := RX11) (T := TX11) (N := 25) hx hb hts hi_X11 tyX11 tyX11_ok nmX11 hown hK hP hD hS 0 rfl rfl 23 (by decide) (hts (.fieldLink RX11 47 "CanalMapsModel" "thrown" "I") (List.mem_of_getElem? (i := 1) (by decide +kernel))) (fun _ h9 => h9) rfl (by decide +kernel) rfl rfl (Nat.le_of_ble_eq_true rfl) dX11_restore_2 (fun H locs hP hD hS => ?_)
  have hP : va_P D vwCl [(h0, .inr (14, [v0, v1, v2, v3, v4, v5, .int 0, v6, v7, v8, v9, v10, v11, v12, v13, v14, v15, v16, v17, v18, v19, v20, v21, .int 0, v23]))] H := hP
  have hD : va_D A [(h0, .inr (14, [v0, v1, v2, v3, v4, v5, .int 0, v6, v7, v8, v9, v10, v11, v12, v13, v14, v15, v16, v17, v18, v19, v20, v21, .int 0, v23]))] := hD
  refine lv_aload_n hx hb dX11_restore_5 rfl (lv_at hl 0 rfl) ?_
  refine va_get (D := D) (ci := 14) (v := .int 0) (own := RX11) (C := RX11) (T := TX11) (N := 25) hx hb hts hi_X11 hown hK hP 0 rfl rfl 6 (by decide) (hts (.fieldLink RX11 262 "CanalMapsModel" "isSaved" "Z") (List.mem_of_getElem? (i := 2) (by decide +kernel))) (fun _ h9 => h9) rfl dX11_restore_6 ?_
  refine lv_if_ne (tgt := 18) hx hb dX11_restore_9 (by decide) (fun c9 => absurd (by decide +kernel) c9) (fun _ => ?_)
  refine lv_aload_n hx hb dX11_restore_12 rfl (lv_at hl 0 rfl) ?_
  refine lv_iconst (v := 1) hx hb dX11_restore_13 (by decide) ?_
  refine kc_ (wc := [(h0, .inr (14, [v0, v1, v2, v3, v4, v5, .int 0, v6, v7, v8, v9, v10, v11, v12, v13, v14, v15, v16, v17, v18, v19, v20, v21, .int 0, v23]))]) (wr := []) (va_runV (As := [.int 1]) (rest := []) ⟨hx, hb, hml, hown, hts⟩ (c_X11_raises_0 l hl0 D ad H.size h0 (v0) (v1) (v2) (v3) (v4) (v5) (.int 0) (v6) (v7) (v8) (v9) (v10) (v11) (v12) (v13) (v14) (v15) (v16) (v17) (v18) (v19) (v20) (v21) (.int 0) (v23)) (cwV 1 hts gX11_restore_X11_raises rfl rfl rfl (by decide +kernel) ⟨Nat.le_of_ble_eq_true rfl, Nat.le_of_ble_eq_true rfl⟩) ⟨PC_.blind, va_recv hK hP (ci := 14) (q0 := 0) rfl rfl, PC_.pre hF hK hP hD hS hA [0] [] rfl (by decide) rfl⟩ rfl rfl hl.1 rfl (lv_room (Nat.le_of_ble_eq_true rfl)) dX11_restore_14 ⟨Nat.le_of_ble_eq_true rfl, Nat.le_of_ble_eq_true rfl⟩) hK hP hD hS hA [0] [] [] rfl rfl (by decide) (by decide) rfl (fun qa_1 ka_1 ia_1 H locs hpo hP hD hK hS => ?_)
  have hP : va_P D vwCl [(h0, .inr (14, [v0, v1, v2, v3, v4, v5, .int 0, v6, v7, v8, v9, v10, v11, v12, v13, v14, v15, v16, v17, v18, v19, v20, v21, .int 1, v23]))] H := hP
  have hD : va_D A [(h0, .inr (14, [v0, v1, v2, v3, v4, v5, .int 0, v6, v7, v8, v9, v10, v11, v12, v13, v14, v15, v16, v17, v18, v19, v20, v21, .int 1, v23]))] := hD
  have hK : va_K D vwCl [] s := hK
  refine W.eq (g2 := F0 m 17 ls [.int 0]) rfl ?_
  refine W.widen (k := 0) (n := 0) (Nat.le_of_ble_eq_true rfl) (Nat.le_of_ble_eq_true rfl) ?_
  exact W.iret (v := 0) hx hb hr (QG_.mk (fun _ => 0) (fun _ => 0) (fun _ => 0) [0] [] hP hD hK hS rfl trivial rfl (by decide) rfl) hS.2.2 dX11_restore_17
