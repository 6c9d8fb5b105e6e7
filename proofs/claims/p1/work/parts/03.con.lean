set_option maxHeartbeats 4000000 in
set_option maxRecDepth 100000 in
theorem c_X9_init_0 (l : Launch) (hl0 : l.stackTraces = false) (D : va_G) (ad : Nat → Nat) (sz : Nat) (h0 : Nat) (v0 : Value) (v1 : Value) : Met l yX9_init wsX9_init ({ frames := 1, cells := 2, slots := 42, locals := 40 }) (PC_ D ad [(h0, .inr (12, [v0, v1]))] [] sz [.ref h0]) (QG_ D (fun q i => none) (fun q i => True) (fun q k i => [(h0, .inr (12, [.ref (q 0), .ref (q 1)])), ((q 0), .inl ((k 0), 36, .inl (fun _ => 0))), ((q 1), .inl ((k 1), 6, .inl (fun _ => 0)))]) (fun q k i => [((k 0), .int), ((k 1), .int)]) (va_A [(h0, .inr (12, [v0, v1]))] sz)) 2 42 (va_A [(h0, .inr (12, [v0, v1]))] sz) := by
  refine Met.ofW (cc := cX9_init) (maxL := 1) (ret := none) (by decide) rfl ?_
  intro p e s m args below meth c s₁ B hml hv
  obtain ⟨rfl, hsz, hP, hK, hD0, hF⟩ := hv
  have hx := B.exec
  have hb := B.bytes
  have hr := B.returns
  have hts := atoms_spec (ws := wsX9_init) B.pre
  have hown : s.vm.findClass RX9 = some m.cls := findClass_of_methodNamed B.named
  have hlocks := B.notSynchronized
  have hin : meth.name = "<init>" := (name_of_methodNamed B.named B.method).1
  subst hsz
  have hD := hD0.self (sz := s.heap.size)
  generalize hAe : va_A [(h0, .inr (12, [v0, v1]))] s.heap.size = A at hD hF ⊢
  have hA : ∀ q : Nat, s.heap.size ≤ q → A q := fun q h => by rw [← hAe]; exact Or.inr h
  obtain ⟨H, hHe⟩ : ∃ H : Heap, H = s.heap := ⟨_, rfl⟩
  have hS : va_S A s.heap H [] := by rw [hHe]; exact va_S.rf
  have hP : va_P D vwCl [(h0, .inr (12, [v0, v1]))] H := by rw [hHe]; exact hP
  rw [← hHe]
  have hi_X9 : ∀ w ∈ wsX90, w ∈ wsX9_init := by decide +kernel
  have hl := lv_entry [.ref h0] (n := 1) (Nat.le_of_ble_eq_true rfl)
  rw [lg_entry_eq]
  generalize (lg_sl [.ref h0] ++ List.replicate (1 - (lg_sl [.ref h0]).length) Slot.unset).toArray = ls at hl ⊢
  have hl : lv_has ls 1 [(0, .ref h0)] := hl
  refine lv_aload_n hx hb dX9_init_0 rfl (lv_at hl 0 rfl) ?_
  refine W.objInit hx hb hown (hts (.methodLink RX9 3 objectInit) (List.mem_of_getElem? (i := 1) (by decide +kernel))) (hts (.instanceMethod objectInit) (List.mem_of_getElem? (i := 2) (by decide +kernel))) (hts (.code objectInit ⟨#[0xb1]⟩ 1 none) (List.mem_of_getElem? (i := 3) (by decide +kernel))) rfl (by rw [hml]; exact hl.1) rfl dX9_init_1 (Nat.le_of_ble_eq_true rfl) (Nat.le_of_ble_eq_true rfl) ?_
  refine W.eq (g2 := F0 m 4 ls []) rfl ?_
  refine lv_aload_n hx hb dX9_init_4 rfl (lv_at hl 0 rfl) ?_
  refine lv_bipush (v := 36) hx hb dX9_init_5 (by decide) ?_
  refine va_newa (atype := .int) hx hb (hts (.arrayClass .int) (List.mem_of_getElem? (i := 4) (by decide +kernel))) rfl hK hP hD hS hA (a0 := (36, .inl (fun _ => 0))) (fun _ => rfl) (by decide +kernel) (by decide +kernel) (Nat.le_of_ble_eq_true rfl) (Nat.le_of_ble_eq_true rfl) (Nat.le_of_ble_eq_true rfl) dX9_init_7 (fun q_1 kk_1 H hK hP hD hS => ?_)
  have hP : va_P D vwCl [(h0, .inr (12, [v0, v1])), (q_1, .inl (kk_1, 36, .inl (fun _ => 0)))] H := hP
  have hD : va_D A [(h0, .inr (12, [v0, v1])), (q_1, .inl (kk_1, 36, .inl (fun _ => 0)))] := hD
  have hK : va_K D vwCl [(kk_1, .int)] s := hK
  refine va_putF (D := D) (ci := 12) (v := .ref q_1) (ty := tyX9 0) (own := RX9) (C := RX9) (T := TX9) (N := 2) hx hb hts hi_X9 tyX9 tyX9_ok nmX9 hown hK hP hD hS 0 rfl rfl 0 (by decide) (hts (.fieldLink RX9 9 "CanalMaps$Ways" "costs" "[I") (List.mem_of_getElem? (i := 5) (by decide +kernel))) (fun _ h9 => h9) rfl hin rfl (by decide +kernel) rfl rfl (Nat.le_of_ble_eq_true rfl) dX9_init_9 (fun H locs hP hD hS => ?_)
  have hP : va_P D vwCl [(h0, .inr (12, [.ref q_1, v1])), (q_1, .inl (kk_1, 36, .inl (fun _ => 0)))] H := hP
  have hD : va_D A [(h0, .inr (12, [.ref q_1, v1])), (q_1, .inl (kk_1, 36, .inl (fun _ => 0)))] := hD
  refine lv_aload_n hx hb dX9_init_12 rfl (lv_at hl 0 rfl) ?_
  refine lv_bipush (v := 6) hx hb dX9_init_13 (by decide) ?_
  refine va_newa (atype := .int) hx hb (hts (.arrayClass .int) (List.mem_of_getElem? (i := 4) (by decide +kernel))) rfl hK hP hD hS hA (a0 := (6, .inl (fun _ => 0))) (fun _ => rfl) (by decide +kernel) (by decide +kernel) (Nat.le_of_ble_eq_true rfl) (Nat.le_of_ble_eq_true rfl) (Nat.le_of_ble_eq_true rfl) dX9_init_15 (fun q_2 kk_2 H hK hP hD hS => ?_)
  have hP : va_P D vwCl [(h0, .inr (12, [.ref q_1, v1])), (q_1, .inl (kk_1, 36, .inl (fun _ => 0))), (q_2, .inl (kk_2, 6, .inl (fun _ => 0)))] H := hP
  have hD : va_D A [(h0, .inr (12, [.ref q_1, v1])), (q_1, .inl (kk_1, 36, .inl (fun _ => 0))), (q_2, .inl (kk_2, 6, .inl (fun _ => 0)))] := hD
  have hK : va_K D vwCl [(kk_1, .int), (kk_2, .int)] s := hK
  refine va_putF (D := D) (ci := 12) (v := .ref q_2) (ty := tyX9 1) (own := RX9) (C := RX9) (T := TX9) (N := 2) hx hb hts hi_X9 tyX9 tyX9_ok nmX9 hown hK hP hD hS 0 rfl rfl 1 (by decide) (hts (.fieldLink RX9 15 "CanalMaps$Ways" "distances" "[I") (List.mem_of_getElem? (i := 6) (by decide +kernel))) (fun _ h9 => h9) rfl hin rfl (by decide +kernel) rfl rfl (Nat.le_of_ble_eq_true rfl) dX9_init_17 (fun H locs hP hD hS => ?_)
  have hP : va_P D vwCl [(h0, .inr (12, [.ref q_1, .ref q_2])), (q_1, .inl (kk_1, 36, .inl (fun _ => 0))), (q_2, .inl (kk_2, 6, .inl (fun _ => 0)))] H := hP
  have hD : va_D A [(h0, .inr (12, [.ref q_1, .ref q_2])), (q_1, .inl (kk_1, 36, .inl (fun _ => 0))), (q_2, .inl (kk_2, 6, .inl (fun _ => 0)))] := hD
  refine W.widen (k := 2) (n := 42) (Nat.le_of_ble_eq_true rfl) (Nat.le_of_ble_eq_true rfl) ?_
  exact W.vret hx hb hr (QG_.mk (fun n => [q_1, q_2].getD n 0) (fun n => [kk_1, kk_2].getD n 0) (fun _ => 0) [0, 1, 2] [0, 1] hP hD hK hS rfl trivial rfl (by decide) rfl) hS.2.2 dX9_init_20
set_option maxHeartbeats 4000000 in
set_option maxRecDepth 100000 in
theorem c_X3_init_0 (l : Launch) (hl0 : l.stackTraces = false) (D : va_G) (ad : Nat → Nat) (sz : Nat) (h0 : Nat) (v0 : Value) (v1 : Value) (v2 : Value) (v3 : Value) (v4 : Value) : Met l yX3_init wsX3_init ({ frames := 1, cells := 2, slots := 63, locals := 40 }) (PC_ D ad [(h0, .inr (6, [v0, v1, v2, v3, v4]))] [] sz [.ref h0]) (QG_ D (fun q i => none) (fun q i => True) (fun q k i => [(h0, .inr (6, [.ref (q 0), .int 0, .int 0, .ref (ad 0), .ref (q 1)])), ((q 0), .inl ((k 0), 60, .inl (fun _ => 0))), ((q 1), .inl ((k 1), 3, .inl (fun _ => 0)))]) (fun q k i => [((k 0), .char), ((k 1), .int)]) (va_A [(h0, .inr (6, [v0, v1, v2, v3, v4]))] sz)) 2 63 (va_A [(h0, .inr (6, [v0, v1, v2, v3, v4]))] sz) := by
  refine Met.ofW (cc := cX3_init) (maxL := 1) (ret := none) (by decide) rfl ?_
  intro p e s m args below meth c s₁ B hml hv
  obtain ⟨rfl, hsz, hP, hK, hD0, hF⟩ := hv
  have hx := B.exec
  have hb := B.bytes
  have hr := B.returns
  have hts := atoms_spec (ws := wsX3_init) B.pre
  have hown : s.vm.findClass RX3 = some m.cls := findClass_of_methodNamed B.named
  have hlocks := B.notSynchronized
  have hin : meth.name = "<init>" := (name_of_methodNamed B.named B.method).1
  subst hsz
  have hD := hD0.self (sz := s.heap.size)
  generalize hAe : va_A [(h0, .inr (6, [v0, v1, v2, v3, v4]))] s.heap.size = A at hD hF ⊢
  have hA : ∀ q : Nat, s.heap.size ≤ q → A q := fun q h => by rw [← hAe]; exact Or.inr h
  obtain ⟨H, hHe⟩ : ∃ H : Heap, H = s.heap := ⟨_, rfl⟩
  have hS : va_S A s.heap H [] := by rw [hHe]; exact va_S.rf
  have hP : va_P D vwCl [(h0, .inr (6, [v0, v1, v2, v3, v4]))] H := by rw [hHe]; exact hP
  rw [← hHe]
  have hi_X3 : ∀ w ∈ wsX30, w ∈ wsX3_init := by decide +kernel
  have hl := lv_entry [.ref h0] (n := 1) (Nat.le_of_ble_eq_true rfl)
  rw [lg_entry_eq]
  generalize (lg_sl [.ref h0] ++ List.replicate (1 - (lg_sl [.ref h0]).length) Slot.unset).toArray = ls at hl ⊢
  have hl : lv_has ls 1 [(0, .ref h0)] := hl
  refine lv_aload_n hx hb dX3_init_0 rfl (lv_at hl 0 rfl) ?_
  refine W.objInit hx hb hown (hts (.methodLink RX3 3 objectInit) (List.mem_of_getElem? (i := 1) (by decide +kernel))) (hts (.instanceMethod objectInit) (List.mem_of_getElem? (i := 2) (by decide +kernel))) (hts (.code objectInit ⟨#[0xb1]⟩ 1 none) (List.mem_of_getElem? (i := 3) (by decide +kernel))) rfl (by rw [hml]; exact hl.1) rfl dX3_init_1 (Nat.le_of_ble_eq_true rfl) (Nat.le_of_ble_eq_true rfl) ?_
  refine W.eq (g2 := F0 m 4 ls []) rfl ?_
  refine lv_aload_n hx hb dX3_init_4 rfl (lv_at hl 0 rfl) ?_
  refine lv_bipush (v := 60) hx hb dX3_init_5 (by decide) ?_
  refine va_newa (atype := .char) hx hb (hts (.arrayClass .char) (List.mem_of_getElem? (i := 4) (by decide +kernel))) rfl hK hP hD hS hA (a0 := (60, .inl (fun _ => 0))) (fun _ => rfl) (by decide +kernel) (by decide +kernel) (Nat.le_of_ble_eq_true rfl) (Nat.le_of_ble_eq_true rfl) (Nat.le_of_ble_eq_true rfl) dX3_init_7 (fun q_1 kk_1 H hK hP hD hS => ?_)
  have hP : va_P D vwCl [(h0, .inr (6, [v0, v1, v2, v3, v4])), (q_1, .inl (kk_1, 60, .inl (fun _ => 0)))] H := hP
  have hD : va_D A [(h0, .inr (6, [v0, v1, v2, v3, v4])), (q_1, .inl (kk_1, 60, .inl (fun _ => 0)))] := hD
  have hK : va_K D vwCl [(kk_1, .char)] s := hK
  refine va_putF (D := D) (ci := 6) (v := .ref q_1) (ty := tyX3 0) (own := RX3) (C := RX3) (T := TX3) (N := 5) hx hb hts hi_X3 tyX3 tyX3_ok nmX3 hown hK hP hD hS 0 rfl rfl 0 (by decide) (hts (.fieldLink RX3 9 "CanalMaps$CommandText" "signs" "[C") (List.mem_of_getElem? (i := 5) (by decide +kernel))) (fun _ h9 => h9) rfl hin rfl (by decide +kernel) rfl rfl (Nat.le_of_ble_eq_true rfl) dX3_init_9 (fun H locs hP hD hS => ?_)
  have hP : va_P D vwCl [(h0, .inr (6, [.ref q_1, v1, v2, v3, v4])), (q_1, .inl (kk_1, 60, .inl (fun _ => 0)))] H := hP
  have hD : va_D A [(h0, .inr (6, [.ref q_1, v1, v2, v3, v4])), (q_1, .inl (kk_1, 60, .inl (fun _ => 0)))] := hD
  refine lv_aload_n hx hb dX3_init_12 rfl (lv_at hl 0 rfl) ?_
  refine lv_iconst (v := 0) hx hb dX3_init_13 (by decide) ?_
  refine va_put (D := D) (ci := 6) (v := .int 0) (ty := .int) (own := RX3) (C := RX3) (T := TX3) (N := 5) hx hb hts hi_X3 tyX3 tyX3_ok nmX3 hown hK hP hD hS 0 rfl rfl 1 (by decide) (hts (.fieldLink RX3 15 "CanalMaps$CommandText" "length" "I") (List.mem_of_getElem? (i := 6) (by decide +kernel))) (fun _ h9 => h9) rfl (by decide +kernel) rfl rfl (Nat.le_of_ble_eq_true rfl) dX3_init_14 (fun H locs hP hD hS => ?_)
  have hP : va_P D vwCl [(h0, .inr (6, [.ref q_1, .int 0, v2, v3, v4])), (q_1, .inl (kk_1, 60, .inl (fun _ => 0)))] H := hP
  have hD : va_D A [(h0, .inr (6, [.ref q_1, .int 0, v2, v3, v4])), (q_1, .inl (kk_1, 60, .inl (fun _ => 0)))] := hD
  refine lv_aload_n hx hb dX3_init_17 rfl (lv_at hl 0 rfl) ?_
  refine lv_iconst (v := 0) hx hb dX3_init_18 (by decide) ?_
  refine va_put (D := D) (ci := 6) (v := .int 0) (ty := .int) (own := RX3) (C := RX3) (T := TX3) (N := 5) hx hb hts hi_X3 tyX3 tyX3_ok nmX3 hown hK hP hD hS 0 rfl rfl 2 (by decide) (hts (.fieldLink RX3 19 "CanalMaps$CommandText" "place" "I") (List.mem_of_getElem? (i := 7) (by decide +kernel))) (fun _ h9 => h9) rfl (by decide +kernel) rfl rfl (Nat.le_of_ble_eq_true rfl) dX3_init_19 (fun H locs hP hD hS => ?_)
  have hP : va_P D vwCl [(h0, .inr (6, [.ref q_1, .int 0, .int 0, v3, v4])), (q_1, .inl (kk_1, 60, .inl (fun _ => 0)))] H := hP
  have hD : va_D A [(h0, .inr (6, [.ref q_1, .int 0, .int 0, v3, v4])), (q_1, .inl (kk_1, 60, .inl (fun _ => 0)))] := hD
  refine lv_aload_n hx hb dX3_init_22 rfl (lv_at hl 0 rfl) ?_
  refine va_gets (C := "CanalMaps$Change") (n := "COME") (d := "LCanalMaps$Change;") (own := RX3) (ref := "CanalMaps$Change") (v := .ref (ad 0)) hx hb (hF.1.1 0 (by decide)).1 hS hown (hts (.fieldLink RX3 22 "CanalMaps$Change" "COME" "LCanalMaps$Change;") (List.mem_of_getElem? (i := 8) (by decide +kernel))) (fun _ h9 => h9) dX3_init_23 ?_
  refine va_put (D := D) (ci := 6) (v := .ref (ad 0)) (ty := tyX3 3) (own := RX3) (C := RX3) (T := TX3) (N := 5) hx hb hts hi_X3 tyX3 tyX3_ok nmX3 hown hK hP hD hS 0 rfl rfl 3 (by decide) (hts (.fieldLink RX3 28 "CanalMaps$CommandText" "change" "LCanalMaps$Change;") (List.mem_of_getElem? (i := 9) (by decide +kernel))) (fun _ h9 => h9) rfl (by decide +kernel) rfl rfl (Nat.le_of_ble_eq_true rfl) dX3_init_26 (fun H locs hP hD hS => ?_)
  have hP : va_P D vwCl [(h0, .inr (6, [.ref q_1, .int 0, .int 0, .ref (ad 0), v4])), (q_1, .inl (kk_1, 60, .inl (fun _ => 0)))] H := hP
  have hD : va_D A [(h0, .inr (6, [.ref q_1, .int 0, .int 0, .ref (ad 0), v4])), (q_1, .inl (kk_1, 60, .inl (fun _ => 0)))] := hD
  refine lv_aload_n hx hb dX3_init_29 rfl (lv_at hl 0 rfl) ?_
  refine lv_iconst (v := 3) hx hb dX3_init_30 (by decide) ?_
  refine va_newa (atype := .int) hx hb (hts (.arrayClass .int) (List.mem_of_getElem? (i := 10) (by decide +kernel))) rfl hK hP hD hS hA (a0 := (3, .inl (fun _ => 0))) (fun _ => rfl) (by decide +kernel) (by decide +kernel) (Nat.le_of_ble_eq_true rfl) (Nat.le_of_ble_eq_true rfl) (Nat.le_of_ble_eq_true rfl) dX3_init_31 (fun q_2 kk_2 H hK hP hD hS => ?_)
  have hP : va_P D vwCl [(h0, .inr (6, [.ref q_1, .int 0, .int 0, .ref (ad 0), v4])), (q_1, .inl (kk_1, 60, .inl (fun _ => 0))), (q_2, .inl (kk_2, 3, .inl (fun _ => 0)))] H := hP
  have hD : va_D A [(h0, .inr (6, [.ref q_1, .int 0, .int 0, .ref (ad 0), v4])), (q_1, .inl (kk_1, 60, .inl (fun _ => 0))), (q_2, .inl (kk_2, 3, .inl (fun _ => 0)))] := hD
  have hK : va_K D vwCl [(kk_1, .char), (kk_2, .int)] s := hK
  refine va_putF (D := D) (ci := 6) (v := .ref q_2) (ty := tyX3 4) (own := RX3) (C := RX3) (T := TX3) (N := 5) hx hb hts hi_X3 tyX3 tyX3_ok nmX3 hown hK hP hD hS 0 rfl rfl 4 (by decide) (hts (.fieldLink RX3 31 "CanalMaps$CommandText" "numbers" "[I") (List.mem_of_getElem? (i := 11) (by decide +kernel))) (fun _ h9 => h9) rfl hin rfl (by decide +kernel) rfl rfl (Nat.le_of_ble_eq_true rfl) dX3_init_33 (fun H locs hP hD hS => ?_)
  have hP : va_P D vwCl [(h0, .inr (6, [.ref q_1, .int 0, .int 0, .ref (ad 0), .ref q_2])), (q_1, .inl (kk_1, 60, .inl (fun _ => 0))), (q_2, .inl (kk_2, 3, .inl (fun _ => 0)))] H := hP
  have hD : va_D A [(h0, .inr (6, [.ref q_1, .int 0, .int 0, .ref (ad 0), .ref q_2])), (q_1, .inl (kk_1, 60, .inl (fun _ => 0))), (q_2, .inl (kk_2, 3, .inl (fun _ => 0)))] := hD
  refine W.widen (k := 2) (n := 63) (Nat.le_of_ble_eq_true rfl) (Nat.le_of_ble_eq_true rfl) ?_
  exact W.vret hx hb hr (QG_.mk (fun n => [q_1, q_2].getD n 0) (fun n => [kk_1, kk_2].getD n 0) (fun _ => 0) [0, 1, 2] [0, 1] hP hD hK hS rfl trivial rfl (by decide) rfl) hS.2.2 dX3_init_36
set_option maxHeartbeats 4000000 in
set_option maxRecDepth 100000 in
theorem c_J5_init_d00df_0 (l : Launch) (hl0 : l.stackTraces = false) (D : va_G) (ad : Nat → Nat) (sz : Nat) (h0 : Nat) (v0 : Value) (v1 : Value) (v2 : Value) (v3 : Value) : Met l yJ5_init_d00df wsJ5_init_d00df ({ frames := 1, cells := 1, slots := 16, locals := 40 }) (PC_ D ad [(h0, .inr (1, [v0, v1, v2, v3]))] [] sz [.ref h0, .int 16]) (QG_ D (fun q i => none) (fun q i => True) (fun q k i => [(h0, .inr (1, [.ref (q 0), .int 0, v2, v3])), ((q 0), .inl ((k 0), 16, .inl (fun _ => 0)))]) (fun q k i => [((k 0), .byte)]) (va_A [(h0, .inr (1, [v0, v1, v2, v3]))] sz)) 1 16 (va_A [(h0, .inr (1, [v0, v1, v2, v3]))] sz) := by
  refine Met.ofW (cc := cJ5_init_d00df) (maxL := 2) (ret := none) (by decide) rfl ?_
  intro p e s m args below meth c s₁ B hml hv
  obtain ⟨rfl, hsz, hP, hK, hD0, hF⟩ := hv
  have hx := B.exec
  have hb := B.bytes
  have hr := B.returns
  have hts := atoms_spec (ws := wsJ5_init_d00df) B.pre
  have hown : s.vm.findClass RJ5 = some m.cls := findClass_of_methodNamed B.named
  have hlocks := B.notSynchronized
  have hin : meth.name = "<init>" := (name_of_methodNamed B.named B.method).1
  subst hsz
  have hD := hD0.self (sz := s.heap.size)
  generalize hAe : va_A [(h0, .inr (1, [v0, v1, v2, v3]))] s.heap.size = A at hD hF ⊢
  have hA : ∀ q : Nat, s.heap.size ≤ q → A q := fun q h => by rw [← hAe]; exact Or.inr h
  obtain ⟨H, hHe⟩ : ∃ H : Heap, H = s.heap := ⟨_, rfl⟩
  have hS : va_S A s.heap H [] := by rw [hHe]; exact va_S.rf
  have hP : va_P D vwCl [(h0, .inr (1, [v0, v1, v2, v3]))] H := by rw [hHe]; exact hP
  rw [← hHe]
  have hi_J4 : ∀ w ∈ wsJ40, w ∈ wsJ5_init_d00df := by decide +kernel
  have hl := lv_entry [.ref h0, .int 16] (n := 2) (Nat.le_of_ble_eq_true rfl)
  rw [lg_entry_eq]
  generalize (lg_sl [.ref h0, .int 16] ++ List.replicate (2 - (lg_sl [.ref h0, .int 16]).length) Slot.unset).toArray = ls at hl ⊢
  have hl : lv_has ls 2 [(0, .ref h0), (1, .int 16)] := hl
  refine lv_aload_n hx hb dJ5_init_d00df_0 rfl (lv_at hl 0 rfl) ?_
  refine W.objInit hx hb hown (hts (.methodLink RJ5 3 objectInit) (List.mem_of_getElem? (i := 1) (by decide +kernel))) (hts (.instanceMethod objectInit) (List.mem_of_getElem? (i := 2) (by decide +kernel))) (hts (.code objectInit ⟨#[0xb1]⟩ 1 none) (List.mem_of_getElem? (i := 3) (by decide +kernel))) rfl (by rw [hml]; exact hl.1) rfl dJ5_init_d00df_1 (Nat.le_of_ble_eq_true rfl) (Nat.le_of_ble_eq_true rfl) ?_
  refine W.eq (g2 := F0 m 4 ls []) rfl ?_
  refine va_gets (C := "java/lang/String") (n := "COMPACT_STRINGS") (d := "Z") (own := RJ5) (ref := "java/lang/String") (v := .int 1) hx hb hF.2.2.2.1 hS hown (hts (.fieldLink RJ5 18 "java/lang/String" "COMPACT_STRINGS" "Z") (List.mem_of_getElem? (i := 4) (by decide +kernel))) (fun _ h9 => h9) dJ5_init_d00df_4 ?_
  refine lv_if_eq (tgt := 25) hx hb dJ5_init_d00df_7 (by decide) (fun c9 => absurd c9 (by decide +kernel)) (fun _ => ?_)
  refine lv_aload_n hx hb dJ5_init_d00df_10 rfl (lv_at hl 0 rfl) ?_
  refine lv_iload_n hx hb dJ5_init_d00df_11 rfl (lv_at hl 1 rfl) ?_
  refine va_newa (atype := .byte) hx hb (hts (.arrayClass .byte) (List.mem_of_getElem? (i := 5) (by decide +kernel))) rfl hK hP hD hS hA (a0 := (16, .inl (fun _ => 0))) (fun _ => rfl) (by decide +kernel) (by decide +kernel) (Nat.le_of_ble_eq_true rfl) (Nat.le_of_ble_eq_true rfl) (Nat.le_of_ble_eq_true rfl) dJ5_init_d00df_12 (fun q_1 kk_1 H hK hP hD hS => ?_)
  have hP : va_P D vwCl [(h0, .inr (1, [v0, v1, v2, v3])), (q_1, .inl (kk_1, 16, .inl (fun _ => 0)))] H := hP
  have hD : va_D A [(h0, .inr (1, [v0, v1, v2, v3])), (q_1, .inl (kk_1, 16, .inl (fun _ => 0)))] := hD
  have hK : va_K D vwCl [(kk_1, .byte)] s := hK
  refine va_put (D := D) (ci := 1) (v := .ref q_1) (ty := tyJ4 0) (own := RJ5) (C := RJ4) (T := TJ4) (N := 4) hx hb hts hi_J4 tyJ4 tyJ4_ok nmJ4 hown hK hP hD hS 0 rfl rfl 0 (by decide) (hts (.fieldLink RJ5 15 "java/lang/AbstractStringBuilder" "value" "[B") (List.mem_of_getElem? (i := 6) (by decide +kernel))) (fun _ h9 => h9) rfl (by decide +kernel) rfl rfl (Nat.le_of_ble_eq_true rfl) dJ5_init_d00df_14 (fun H locs hP hD hS => ?_)
  have hP : va_P D vwCl [(h0, .inr (1, [.ref q_1, v1, v2, v3])), (q_1, .inl (kk_1, 16, .inl (fun _ => 0)))] H := hP
  have hD : va_D A [(h0, .inr (1, [.ref q_1, v1, v2, v3])), (q_1, .inl (kk_1, 16, .inl (fun _ => 0)))] := hD
  refine lv_aload_n hx hb dJ5_init_d00df_17 rfl (lv_at hl 0 rfl) ?_
  refine lv_iconst (v := 0) hx hb dJ5_init_d00df_18 (by decide) ?_
  refine va_put (D := D) (ci := 1) (v := .int 0) (ty := .byte) (own := RJ5) (C := RJ4) (T := TJ4) (N := 4) hx hb hts hi_J4 tyJ4 tyJ4_ok nmJ4 hown hK hP hD hS 0 rfl rfl 1 (by decide) (hts (.fieldLink RJ5 22 "java/lang/AbstractStringBuilder" "coder" "B") (List.mem_of_getElem? (i := 7) (by decide +kernel))) (fun _ h9 => h9) rfl (by decide +kernel) rfl rfl (Nat.le_of_ble_eq_true rfl) dJ5_init_d00df_19 (fun H locs hP hD hS => ?_)
  have hP : va_P D vwCl [(h0, .inr (1, [.ref q_1, .int 0, v2, v3])), (q_1, .inl (kk_1, 16, .inl (fun _ => 0)))] H := hP
  have hD : va_D A [(h0, .inr (1, [.ref q_1, .int 0, v2, v3])), (q_1, .inl (kk_1, 16, .inl (fun _ => 0)))] := hD
  refine lv_goto (tgt := 38) hx hb dJ5_init_d00df_22 (by decide) ?_
  refine W.widen (k := 1) (n := 16) (Nat.le_of_ble_eq_true rfl) (Nat.le_of_ble_eq_true rfl) ?_
  exact W.vret hx hb hr (QG_.mk (fun n => [q_1].getD n 0) (fun n => [kk_1].getD n 0) (fun _ => 0) [0, 1] [0] hP hD hK hS rfl trivial rfl (by decide) rfl) hS.2.2 dJ5_init_d00df_38
set_option maxHeartbeats 4000000 in
set_option maxRecDepth 100000 in
theorem c_J4_init_da8c8_0 (l : Launch) (hl0 : l.stackTraces = false) (D : va_G) (ad : Nat → Nat) (sz : Nat) (h0 : Nat) (v0 : Value) (v1 : Value) (v2 : Value) (v3 : Value) : Met l yJ4_init_da8c8 wsJ4_init_da8c8 ({ frames := 2, cells := 1, slots := 16, locals := 63 }) (PC_ D ad [(h0, .inr (1, [v0, v1, v2, v3]))] [] sz [.ref h0]) (QG_ D (fun q i => none) (fun q i => True) (fun q k i => [(h0, .inr (1, [.ref (q 0), .int 0, v2, v3])), ((q 0), .inl ((k 0), 16, .inl (fun _ => 0)))]) (fun q k i => [((k 0), .byte)]) (va_A [(h0, .inr (1, [v0, v1, v2, v3]))] sz)) 1 16 (va_A [(h0, .inr (1, [v0, v1, v2, v3]))] sz) := by
  refine Met.ofW (cc := cJ4_init_da8c8) (maxL := 1) (ret := none) (by decide) rfl ?_
  intro p e s m args below meth c s₁ B hml hv
  obtain ⟨rfl, hsz, hP, hK, hD0, hF⟩ := hv
  have hx := B.exec
  have hb := B.bytes
  have hr := B.returns
  have hts := atoms_spec (ws := wsJ4_init_da8c8) B.pre
  have hown : s.vm.findClass RJ4 = some m.cls := findClass_of_methodNamed B.named
  have hlocks := B.notSynchronized
  have hin : meth.name = "<init>" := (name_of_methodNamed B.named B.method).1
  subst hsz
  have hD := hD0.self (sz := s.heap.size)
  generalize hAe : va_A [(h0, .inr (1, [v0, v1, v2, v3]))] s.heap.size = A at hD hF ⊢
  have hA : ∀ q : Nat, s.heap.size ≤ q → A q := fun q h => by rw [← hAe]; exact Or.inr h
  obtain ⟨H, hHe⟩ : ∃ H : Heap, H = s.heap := ⟨_, rfl⟩
  have hS : va_S A s.heap H [] := by rw [hHe]; exact va_S.rf
  have hP : va_P D vwCl [(h0, .inr (1, [v0, v1, v2, v3]))] H := by rw [hHe]; exact hP
  rw [← hHe]
  have hi_J4 : ∀ w ∈ wsJ40, w ∈ wsJ4_init_da8c8 := by decide +kernel
  have hl := lv_entry [.ref h0] (n := 1) (Nat.le_of_ble_eq_true rfl)
  rw [lg_entry_eq]
  generalize (lg_sl [.ref h0] ++ List.replicate (1 - (lg_sl [.ref h0]).length) Slot.unset).toArray = ls at hl ⊢
  have hl : lv_has ls 1 [(0, .ref h0)] := hl
  refine lv_aload_n hx hb dJ4_init_da8c8_0 rfl (lv_at hl 0 rfl) ?_
  refine lv_bipush (v := 16) hx hb dJ4_init_da8c8_1 (by decide) ?_
  refine kc_ (wc := [(h0, .inr (1, [v0, v1, v2, v3]))]) (wr := []) (va_runI (As := [.int 16]) (rest := []) ⟨hx, hb, hml, hown, hts⟩ (c_J5_init_d00df_0 l hl0 D ad H.size h0 (v0) (v1) (v2) (v3)) (cwI 1 hts gJ4_init_da8c8_J5_init_d00df rfl rfl rfl (hts (.initialized RJ5) (List.mem_of_getElem? (i := 3) (by decide +kernel))) (hts (.methodLink RJ4 1 yJ5_init_d00df) (List.mem_of_getElem? (i := 1) (by decide +kernel))) (hts (.instanceMethod yJ5_init_d00df) (List.mem_of_getElem? (i := 2) (by decide +kernel))) rfl (by decide +kernel) ⟨Nat.le_of_ble_eq_true rfl, Nat.le_of_ble_eq_true rfl⟩) ⟨PC_.blind, PC_.pre hF hK hP hD hS hA [0] [] rfl (by decide) rfl⟩ rfl rfl hl.1 rfl (lv_room (Nat.le_of_ble_eq_true rfl)) dJ4_init_da8c8_3 ⟨Nat.le_of_ble_eq_true rfl, Nat.le_of_ble_eq_true rfl⟩) hK hP hD hS hA [0] [] [] rfl rfl (by decide) (by decide) rfl (fun qa_1 ka_1 ia_1 H locs hpo hP hD hK hS => ?_)
  have hP : va_P D vwCl [(h0, .inr (1, [.ref (qa_1 0), .int 0, v2, v3])), ((qa_1 0), .inl ((ka_1 0), 16, .inl (fun _ => 0)))] H := hP
  have hD : va_D A [(h0, .inr (1, [.ref (qa_1 0), .int 0, v2, v3])), ((qa_1 0), .inl ((ka_1 0), 16, .inl (fun _ => 0)))] := hD
  have hK : va_K D vwCl [((ka_1 0), .byte)] s := hK
  refine W.eq (g2 := F0 m 6 ls []) rfl ?_
  refine W.widen (k := 1) (n := 16) (Nat.le_of_ble_eq_true rfl) (Nat.le_of_ble_eq_true rfl) ?_
  exact W.vret hx hb hr (QG_.mk (fun n => [(qa_1 0)].getD n 0) (fun n => [(ka_1 0)].getD n 0) (fun _ => 0) [0, 1] [0] hP hD hK hS rfl trivial rfl (by decide) rfl) hS.2.2 dJ4_init_da8c8_6
set_option maxHeartbeats 4000000 in
set_option maxRecDepth 100000 in
theorem c_Jxa1e45_init_da8c8_0 (l : Launch) (hl0 : l.stackTraces = false) (D : va_G) (ad : Nat → Nat) (sz : Nat) (r0 : Nat) : Met l yJxa1e45_init_da8c8 wsJxa1e45_init_da8c8 ({ frames := 1, cells := 0, slots := 0, locals := 40 }) (PC_ D ad [] [] sz [.ref r0]) (QG_ D (fun q i => none) (fun q i => True) (fun q k i => []) (fun q k i => []) (va_A [] sz)) 0 0 (va_A [] sz) := by
  refine Met.ofW (cc := cJxa1e45_init_da8c8) (maxL := 1) (ret := none) (by decide) rfl ?_
  intro p e s m args below meth c s₁ B hml hv
  obtain ⟨rfl, hsz, hP, hK, hD0, hF⟩ := hv
  have hx := B.exec
  have hb := B.bytes
  have hr := B.returns
  have hts := atoms_spec (ws := wsJxa1e45_init_da8c8) B.pre
  have hown : s.vm.findClass RJxa1e45 = some m.cls := findClass_of_methodNamed B.named
  have hlocks := B.notSynchronized
  have hin : meth.name = "<init>" := (name_of_methodNamed B.named B.method).1
  subst hsz
  have hD := hD0.self (sz := s.heap.size)
  generalize hAe : va_A [] s.heap.size = A at hD hF ⊢
  have hA : ∀ q : Nat, s.heap.size ≤ q → A q := fun q h => by rw [← hAe]; exact Or.inr h
  obtain ⟨H, hHe⟩ : ∃ H : Heap, H = s.heap := ⟨_, rfl⟩
  have hS : va_S A s.heap H [] := by rw [hHe]; exact va_S.rf
  have hP : va_P D vwCl [] H := by rw [hHe]; exact hP
  rw [← hHe]
  have hl := lv_entry [.ref r0] (n := 1) (Nat.le_of_ble_eq_true rfl)
  rw [lg_entry_eq]
  generalize (lg_sl [.ref r0] ++ List.replicate (1 - (lg_sl [.ref r0]).length) Slot.unset).toArray = ls at hl ⊢
  have hl : lv_has ls 1 [(0, .ref r0)] := hl
  refine lv_aload_n hx hb dJxa1e45_init_da8c8_0 rfl (lv_at hl 0 rfl) ?_
  refine W.objInit hx hb hown (hts (.methodLink RJxa1e45 1 objectInit) (List.mem_of_getElem? (i := 1) (by decide +kernel))) (hts (.instanceMethod objectInit) (List.mem_of_getElem? (i := 2) (by decide +kernel))) (hts (.code objectInit ⟨#[0xb1]⟩ 1 none) (List.mem_of_getElem? (i := 3) (by decide +kernel))) rfl (by rw [hml]; exact hl.1) rfl dJxa1e45_init_da8c8_1 (Nat.le_of_ble_eq_true rfl) (Nat.le_of_ble_eq_true rfl) ?_
  refine W.eq (g2 := F0 m 4 ls []) rfl ?_
  refine W.widen (k := 0) (n := 0) (Nat.le_of_ble_eq_true rfl) (Nat.le_of_ble_eq_true rfl) ?_
  exact W.vret hx hb hr (QG_.mk (fun _ => 0) (fun _ => 0) (fun _ => 0) [] [] hP hD hK hS rfl trivial rfl (by decide) rfl) hS.2.2 dJxa1e45_init_da8c8_4
set_option maxHeartbeats 4000000 in
set_option maxRecDepth 100000 in
theorem c_Jxc12de_init_da8c8_0 (l : Launch) (hl0 : l.stackTraces = false) (D : va_G) (ad : Nat → Nat) (sz : Nat) (h0 : Nat) (v0 : Value) (v1 : Value) (v2 : Value) : Met l yJxc12de_init_da8c8 wsJxc12de_init_da8c8 ({ frames := 2, cells := 0, slots := 0, locals := 62 }) (PC_ D ad [(h0, .inr (4, [v0, v1, v2]))] [] sz [.ref h0]) (QG_ D (fun q i => none) (fun q i => True) (fun q k i => [(h0, .inr (4, [.int 0, v1, v2]))]) (fun q k i => []) (va_A [(h0, .inr (4, [v0, v1, v2]))] sz)) 0 0 (va_A [(h0, .inr (4, [v0, v1, v2]))] sz) := by
  refine Met.ofW (cc := cJxc12de_init_da8c8) (maxL := 1) (ret := none) (by decide) rfl ?_
  intro p e s m args below meth c s₁ B hml hv
  obtain ⟨rfl, hsz, hP, hK, hD0, hF⟩ := hv
  have hx := B.exec
  have hb := B.bytes
  have hr := B.returns
  have hts := atoms_spec (ws := wsJxc12de_init_da8c8) B.pre
  have hown : s.vm.findClass RJxc12de = some m.cls := findClass_of_methodNamed B.named
  have hlocks := B.notSynchronized
  have hin : meth.name = "<init>" := (name_of_methodNamed B.named B.method).1
  subst hsz
  have hD := hD0.self (sz := s.heap.size)
  generalize hAe : va_A [(h0, .inr (4, [v0, v1, v2]))] s.heap.size = A at hD hF ⊢
  have hA : ∀ q : Nat, s.heap.size ≤ q → A q := fun q h => by rw [← hAe]; exact Or.inr h
  obtain ⟨H, hHe⟩ : ∃ H : Heap, H = s.heap := ⟨_, rfl⟩
  have hS : va_S A s.heap H [] := by rw [hHe]; exact va_S.rf
  have hP : va_P D vwCl [(h0, .inr (4, [v0, v1, v2]))] H := by rw [hHe]; exact hP
  rw [← hHe]
  have hi_Jx4a65c : ∀ w ∈ wsJx4a65c0, w ∈ wsJxc12de_init_da8c8 := by decide +kernel
  have hl := lv_entry [.ref h0] (n := 1) (Nat.le_of_ble_eq_true rfl)
  rw [lg_entry_eq]
  generalize (lg_sl [.ref h0] ++ List.replicate (1 - (lg_sl [.ref h0]).length) Slot.unset).toArray = ls at hl ⊢
  have hl : lv_has ls 1 [(0, .ref h0)] := hl
  refine lv_aload_n hx hb dJxc12de_init_da8c8_0 rfl (lv_at hl 0 rfl) ?_
  refine kc_ (wc := []) (wr := [(h0, .inr (4, [v0, v1, v2]))]) (va_runI (As := []) (rest := []) ⟨hx, hb, hml, hown, hts⟩ (c_Jxa1e45_init_da8c8_0 l hl0 D ad H.size h0) (cwI 0 hts gJxc12de_init_da8c8_Jxa1e45_init_da8c8 rfl rfl rfl (hts (.initialized RJxa1e45) (List.mem_of_getElem? (i := 4) (by decide +kernel))) (hts (.methodLink RJxc12de 1 yJxa1e45_init_da8c8) (List.mem_of_getElem? (i := 2) (by decide +kernel))) (hts (.instanceMethod yJxa1e45_init_da8c8) (List.mem_of_getElem? (i := 3) (by decide +kernel))) rfl (by decide +kernel) ⟨Nat.le_of_ble_eq_true rfl, Nat.le_of_ble_eq_true rfl⟩) ⟨PC_.blind, PC_.pre hF hK hP hD hS hA [] [] rfl (by decide) rfl⟩ rfl rfl hl.1 rfl (lv_room (Nat.le_of_ble_eq_true rfl)) dJxc12de_init_da8c8_1 ⟨Nat.le_of_ble_eq_true rfl, Nat.le_of_ble_eq_true rfl⟩) hK hP hD hS hA [] [0] [] rfl rfl (by decide) (by decide) rfl (fun qa_1 ka_1 ia_1 H locs hpo hP hD hK hS => ?_)
  have hP : va_P D vwCl [(h0, .inr (4, [v0, v1, v2]))] H := hP
  have hD : va_D A [(h0, .inr (4, [v0, v1, v2]))] := hD
  have hK : va_K D vwCl [] s := hK
  refine W.eq (g2 := F0 m 4 ls []) rfl ?_
  refine lv_aload_n hx hb dJxc12de_init_da8c8_4 rfl (lv_at hl 0 rfl) ?_
  refine lv_iconst (v := 0) hx hb dJxc12de_init_da8c8_5 (by decide) ?_
  refine va_put (D := D) (ci := 4) (v := .int 0) (ty := .int) (own := RJxc12de) (C := RJx4a65c) (T := TJx4a65c) (N := 3) hx hb hts hi_Jx4a65c tyJx4a65c tyJx4a65c_ok nmJx4a65c hown hK hP hD hS 0 rfl rfl 0 (by decide) (hts (.fieldLink RJxc12de 7 "java/util/AbstractList" "modCount" "I") (List.mem_of_getElem? (i := 1) (by decide +kernel))) (fun _ h9 => h9) rfl (by decide +kernel) rfl rfl (Nat.le_of_ble_eq_true rfl) dJxc12de_init_da8c8_6 (fun H locs hP hD hS => ?_)
  have hP : va_P D vwCl [(h0, .inr (4, [.int 0, v1, v2]))] H := hP
  have hD : va_D A [(h0, .inr (4, [.int 0, v1, v2]))] := hD
  refine W.widen (k := 0) (n := 0) (Nat.le_of_ble_eq_true rfl) (Nat.le_of_ble_eq_true rfl) ?_
  exact W.vret hx hb hr (QG_.mk (fun _ => 0) (fun _ => 0) (fun _ => 0) [0] [] hP hD hK hS rfl trivial rfl (by decide) rfl) hS.2.2 dJxc12de_init_da8c8_9
set_option maxHeartbeats 4000000 in
set_option maxRecDepth 100000 in
theorem c_Jx4a65c_init_da8c8_0 (l : Launch) (hl0 : l.stackTraces = false) (D : va_G) (ad : Nat → Nat) (sz : Nat) (h0 : Nat) (v0 : Value) (v1 : Value) (v2 : Value) : Met l yJx4a65c_init_da8c8 wsJx4a65c_init_da8c8 ({ frames := 3, cells := 0, slots := 0, locals := 84 }) (PC_ D ad [(h0, .inr (4, [v0, v1, v2]))] [] sz [.ref h0]) (QG_ D (fun q i => none) (fun q i => True) (fun q k i => [(h0, .inr (4, [.int 0, .ref (ad 7), v2]))]) (fun q k i => []) (va_A [(h0, .inr (4, [v0, v1, v2]))] sz)) 0 0 (va_A [(h0, .inr (4, [v0, v1, v2]))] sz) := by
  refine Met.ofW (cc := cJx4a65c_init_da8c8) (maxL := 1) (ret := none) (by decide) rfl ?_
  intro p e s m args below meth c s₁ B hml hv
  obtain ⟨rfl, hsz, hP, hK, hD0, hF⟩ := hv
  have hx := B.exec
  have hb := B.bytes
  have hr := B.returns
  have hts := atoms_spec (ws := wsJx4a65c_init_da8c8) B.pre
  have hown : s.vm.findClass RJx4a65c = some m.cls := findClass_of_methodNamed B.named
  have hlocks := B.notSynchronized
  have hin : meth.name = "<init>" := (name_of_methodNamed B.named B.method).1
  subst hsz
  have hD := hD0.self (sz := s.heap.size)
  generalize hAe : va_A [(h0, .inr (4, [v0, v1, v2]))] s.heap.size = A at hD hF ⊢
  have hA : ∀ q : Nat, s.heap.size ≤ q → A q := fun q h => by rw [← hAe]; exact Or.inr h
  obtain ⟨H, hHe⟩ : ∃ H : Heap, H = s.heap := ⟨_, rfl⟩
  have hS : va_S A s.heap H [] := by rw [hHe]; exact va_S.rf
  have hP : va_P D vwCl [(h0, .inr (4, [v0, v1, v2]))] H := by rw [hHe]; exact hP
  rw [← hHe]
  have hi_Jx4a65c : ∀ w ∈ wsJx4a65c0, w ∈ wsJx4a65c_init_da8c8 := by decide +kernel
  have hl := lv_entry [.ref h0] (n := 1) (Nat.le_of_ble_eq_true rfl)
  rw [lg_entry_eq]
  generalize (lg_sl [.ref h0] ++ List.replicate (1 - (lg_sl [.ref h0]).length) Slot.unset).toArray = ls at hl ⊢
  have hl : lv_has ls 1 [(0, .ref h0)] := hl
  refine lv_aload_n hx hb dJx4a65c_init_da8c8_0 rfl (lv_at hl 0 rfl) ?_
  refine kc_ (wc := [(h0, .inr (4, [v0, v1, v2]))]) (wr := []) (va_runI (As := []) (rest := []) ⟨hx, hb, hml, hown, hts⟩ (c_Jxc12de_init_da8c8_0 l hl0 D ad H.size h0 (v0) (v1) (v2)) (cwI 0 hts gJx4a65c_init_da8c8_Jxc12de_init_da8c8 rfl rfl rfl (hts (.initialized RJxc12de) (List.mem_of_getElem? (i := 5) (by decide +kernel))) (hts (.methodLink RJx4a65c 1 yJxc12de_init_da8c8) (List.mem_of_getElem? (i := 3) (by decide +kernel))) (hts (.instanceMethod yJxc12de_init_da8c8) (List.mem_of_getElem? (i := 4) (by decide +kernel))) rfl (by decide +kernel) ⟨Nat.le_of_ble_eq_true rfl, Nat.le_of_ble_eq_true rfl⟩) ⟨PC_.blind, PC_.pre hF hK hP hD hS hA [0] [] rfl (by decide) rfl⟩ rfl rfl hl.1 rfl (lv_room (Nat.le_of_ble_eq_true rfl)) dJx4a65c_init_da8c8_1 ⟨Nat.le_of_ble_eq_true rfl, Nat.le_of_ble_eq_true rfl⟩) hK hP hD hS hA [0] [] [] rfl rfl (by decide) (by decide) rfl (fun qa_1 ka_1 ia_1 H locs hpo hP hD hK hS => ?_)
  have hP : va_P D vwCl [(h0, .inr (4, [.int 0, v1, v2]))] H := hP
  have hD : va_D A [(h0, .inr (4, [.int 0, v1, v2]))] := hD
  have hK : va_K D vwCl [] s := hK
  refine W.eq (g2 := F0 m 4 ls []) rfl ?_
  refine lv_aload_n hx hb dJx4a65c_init_da8c8_4 rfl (lv_at hl 0 rfl) ?_
  refine va_gets (C := "java/util/ArrayList") (n := "DEFAULTCAPACITY_EMPTY_ELEMENTDATA") (d := "[Ljava/lang/Object;") (own := RJx4a65c) (ref := "java/util/ArrayList") (v := .ref (ad 7)) hx hb hF.2.2.1.1 hS hown (hts (.fieldLink RJx4a65c 39 "java/util/ArrayList" "DEFAULTCAPACITY_EMPTY_ELEMENTDATA" "[Ljava/lang/Object;") (List.mem_of_getElem? (i := 1) (by decide +kernel))) (fun _ h9 => h9) dJx4a65c_init_da8c8_5 ?_
  refine va_put (D := D) (ci := 4) (v := .ref (ad 7)) (ty := tyJx4a65c 1) (own := RJx4a65c) (C := RJx4a65c) (T := TJx4a65c) (N := 3) hx hb hts hi_Jx4a65c tyJx4a65c tyJx4a65c_ok nmJx4a65c hown hK hP hD hS 0 rfl rfl 1 (by decide) (hts (.fieldLink RJx4a65c 9 "java/util/ArrayList" "elementData" "[Ljava/lang/Object;") (List.mem_of_getElem? (i := 2) (by decide +kernel))) (fun _ h9 => h9) rfl (by decide +kernel) rfl rfl (Nat.le_of_ble_eq_true rfl) dJx4a65c_init_da8c8_8 (fun H locs hP hD hS => ?_)
  have hP : va_P D vwCl [(h0, .inr (4, [.int 0, .ref (ad 7), v2]))] H := hP
  have hD : va_D A [(h0, .inr (4, [.int 0, .ref (ad 7), v2]))] := hD
  refine W.widen (k := 0) (n := 0) (Nat.le_of_ble_eq_true rfl) (Nat.le_of_ble_eq_true rfl) ?_
  exact W.vret hx hb hr (QG_.mk (fun _ => 0) (fun _ => 0) (fun _ => 0) [0] [] hP hD hK hS rfl trivial rfl (by decide) rfl) hS.2.2 dJx4a65c_init_da8c8_11
set_option maxHeartbeats 4000000 in
set_option maxRecDepth 100000 in
theorem c_X6_init_0 (l : Launch) (hl0 : l.stackTraces = false) (D : va_G) (ad : Nat → Nat) (sz : Nat) (h0 : Nat) (r0 : Nat) (v0 : Value) (v1 : Value) (v2 : Value) (v3 : Value) : Met l yX6_init wsX6_init ({ frames := 1, cells := 0, slots := 0, locals := 40 }) (PC_ D ad [(h0, .inr (9, [v0, v1, v2, v3]))] [] sz [.ref h0, .int 0, .int 0, .int 0, .ref r0]) (QG_ D (fun q i => none) (fun q i => True) (fun q k i => [(h0, .inr (9, [.int 0, .int 0, .int 0, .ref r0]))]) (fun q k i => []) (va_A [(h0, .inr (9, [v0, v1, v2, v3]))] sz)) 0 0 (va_A [(h0, .inr (9, [v0, v1, v2, v3]))] sz) := by
  refine Met.ofW (cc := cX6_init) (maxL := 5) (ret := none) (by decide) rfl ?_
  intro p e s m args below meth c s₁ B hml hv
  obtain ⟨rfl, hsz, hP, hK, hD0, hF⟩ := hv
  have hx := B.exec
  have hb := B.bytes
  have hr := B.returns
  have hts := atoms_spec (ws := wsX6_init) B.pre
  have hown : s.vm.findClass RX6 = some m.cls := findClass_of_methodNamed B.named
  have hlocks := B.notSynchronized
  have hin : meth.name = "<init>" := (name_of_methodNamed B.named B.method).1
  subst hsz
  have hD := hD0.self (sz := s.heap.size)
  generalize hAe : va_A [(h0, .inr (9, [v0, v1, v2, v3]))] s.heap.size = A at hD hF ⊢
  have hA : ∀ q : Nat, s.heap.size ≤ q → A q := fun q h => by rw [← hAe]; exact Or.inr h
  obtain ⟨H, hHe⟩ : ∃ H : Heap, H = s.heap := ⟨_, rfl⟩
  have hS : va_S A s.heap H [] := by rw [hHe]; exact va_S.rf
  have hP : va_P D vwCl [(h0, .inr (9, [v0, v1, v2, v3]))] H := by rw [hHe]; exact hP
  rw [← hHe]
  have hi_X6 : ∀ w ∈ wsX60, w ∈ wsX6_init := by decide +kernel
  have hl := lv_entry [.ref h0, .int 0, .int 0, .int 0, .ref r0] (n := 5) (Nat.le_of_ble_eq_true rfl)
  rw [lg_entry_eq]
  generalize (lg_sl [.ref h0, .int 0, .int 0, .int 0, .ref r0] ++ List.replicate (5 - (lg_sl [.ref h0, .int 0, .int 0, .int 0, .ref r0]).length) Slot.unset).toArray = ls at hl ⊢
  have hl : lv_has ls 5 [(0, .ref h0), (1, .int 0), (2, .int 0), (3, .int 0), (4, .ref r0)] := hl
  refine lv_aload_n hx hb dX6_init_0 rfl (lv_at hl 0 rfl) ?_
  refine W.objInit hx hb hown (hts (.methodLink RX6 1 objectInit) (List.mem_of_getElem? (i := 1) (by decide +kernel))) (hts (.instanceMethod objectInit) (List.mem_of_getElem? (i := 2) (by decide +kernel))) (hts (.code objectInit ⟨#[0xb1]⟩ 1 none) (List.mem_of_getElem? (i := 3) (by decide +kernel))) rfl (by rw [hml]; exact hl.1) rfl dX6_init_1 (Nat.le_of_ble_eq_true rfl) (Nat.le_of_ble_eq_true rfl) ?_
  refine W.eq (g2 := F0 m 4 ls []) rfl ?_
  refine lv_aload_n hx hb dX6_init_4 rfl (lv_at hl 0 rfl) ?_
  refine lv_iload_n hx hb dX6_init_5 rfl (lv_at hl 1 rfl) ?_
  refine va_putF (D := D) (ci := 9) (v := .int 0) (ty := .int) (own := RX6) (C := RX6) (T := TX6) (N := 4) hx hb hts hi_X6 tyX6 tyX6_ok nmX6 hown hK hP hD hS 0 rfl rfl 0 (by decide) (hts (.fieldLink RX6 7 "CanalMaps$Page" "origin" "I") (List.mem_of_getElem? (i := 4) (by decide +kernel))) (fun _ h9 => h9) rfl hin rfl (by decide +kernel) rfl rfl (Nat.le_of_ble_eq_true rfl) dX6_init_6 (fun H locs hP hD hS => ?_)
  have hP : va_P D vwCl [(h0, .inr (9, [.int 0, v1, v2, v3]))] H := hP
  have hD : va_D A [(h0, .inr (9, [.int 0, v1, v2, v3]))] := hD
  refine lv_aload_n hx hb dX6_init_9 rfl (lv_at hl 0 rfl) ?_
  refine lv_iload_n hx hb dX6_init_10 rfl (lv_at hl 2 rfl) ?_
  refine va_putF (D := D) (ci := 9) (v := .int 0) (ty := .int) (own := RX6) (C := RX6) (T := TX6) (N := 4) hx hb hts hi_X6 tyX6 tyX6_ok nmX6 hown hK hP hD hS 0 rfl rfl 1 (by decide) (hts (.fieldLink RX6 13 "CanalMaps$Page" "serial" "I") (List.mem_of_getElem? (i := 5) (by decide +kernel))) (fun _ h9 => h9) rfl hin rfl (by decide +kernel) rfl rfl (Nat.le_of_ble_eq_true rfl) dX6_init_11 (fun H locs hP hD hS => ?_)
  have hP : va_P D vwCl [(h0, .inr (9, [.int 0, .int 0, v2, v3]))] H := hP
  have hD : va_D A [(h0, .inr (9, [.int 0, .int 0, v2, v3]))] := hD
  refine lv_aload_n hx hb dX6_init_14 rfl (lv_at hl 0 rfl) ?_
  refine lv_iload_n hx hb dX6_init_15 rfl (lv_at hl 3 rfl) ?_
  refine va_putF (D := D) (ci := 9) (v := .int 0) (ty := .int) (own := RX6) (C := RX6) (T := TX6) (N := 4) hx hb hts hi_X6 tyX6 tyX6_ok nmX6 hown hK hP hD hS 0 rfl rfl 2 (by decide) (hts (.fieldLink RX6 16 "CanalMaps$Page" "madeAt" "I") (List.mem_of_getElem? (i := 6) (by decide +kernel))) (fun _ h9 => h9) rfl hin rfl (by decide +kernel) rfl rfl (Nat.le_of_ble_eq_true rfl) dX6_init_16 (fun H locs hP hD hS => ?_)
  have hP : va_P D vwCl [(h0, .inr (9, [.int 0, .int 0, .int 0, v3]))] H := hP
  have hD : va_D A [(h0, .inr (9, [.int 0, .int 0, .int 0, v3]))] := hD
  refine lv_aload_n hx hb dX6_init_19 rfl (lv_at hl 0 rfl) ?_
  refine lv_aload hx hb dX6_init_20 (lv_at hl 4 rfl) ?_
  refine va_putF (D := D) (ci := 9) (v := .ref r0) (ty := tyX6 3) (own := RX6) (C := RX6) (T := TX6) (N := 4) hx hb hts hi_X6 tyX6 tyX6_ok nmX6 hown hK hP hD hS 0 rfl rfl 3 (by decide) (hts (.fieldLink RX6 19 "CanalMaps$Page" "costs" "[I") (List.mem_of_getElem? (i := 7) (by decide +kernel))) (fun _ h9 => h9) rfl hin rfl (by decide +kernel) rfl rfl (Nat.le_of_ble_eq_true rfl) dX6_init_22 (fun H locs hP hD hS => ?_)
  have hP : va_P D vwCl [(h0, .inr (9, [.int 0, .int 0, .int 0, .ref r0]))] H := hP
  have hD : va_D A [(h0, .inr (9, [.int 0, .int 0, .int 0, .ref r0]))] := hD
  refine W.widen (k := 0) (n := 0) (Nat.le_of_ble_eq_true rfl) (Nat.le_of_ble_eq_true rfl) ?_
  exact W.vret hx hb hr (QG_.mk (fun _ => 0) (fun _ => 0) (fun _ => 0) [0] [] hP hD hK hS rfl trivial rfl (by decide) rfl) hS.2.2 dX6_init_25
set_option maxHeartbeats 4000000 in
set_option maxRecDepth 100000 in
theorem c_Jx4a65c_grow_92f84_0 (l : Launch) (hl0 : l.stackTraces = false) (D : va_G) (ad : Nat → Nat) (sz : Nat) (h0 : Nat) (v0 : Value) (v1 : Value) : Met l yJx4a65c_grow_92f84 wsJx4a65c_grow_92f84 ({ frames := 1, cells := 1, slots := 10, locals := 40 }) (PC_ D ad [(h0, .inr (4, [v0, .ref (ad 7), v1]))] [] sz [.ref h0, .int 1]) (QG_ D (fun q i => some (.ref (q 0))) (fun q i => True) (fun q k i => [(h0, .inr (4, [v0, .ref (q 0), v1])), ((q 0), .inl ((k 0), 10, .inr (.inr (.inr (.inr (fun _ => none))))))]) (fun q k i => [((k 0), .object "java/lang/Object")]) (va_A [(h0, .inr (4, [v0, .ref (ad 7), v1]))] sz)) 1 10 (va_A [(h0, .inr (4, [v0, .ref (ad 7), v1]))] sz) := by
  refine Met.ofW (cc := cJx4a65c_grow_92f84) (maxL := 4) (ret := (some (.array (.object "java/lang/Object")))) (by decide) rfl ?_
  intro p e s m args below meth c s₁ B hml hv
  obtain ⟨rfl, hsz, hP, hK, hD0, hF⟩ := hv
  have hx := B.exec
  have hb := B.bytes
  have hr := B.returns
  have hts := atoms_spec (ws := wsJx4a65c_grow_92f84) B.pre
  have hown : s.vm.findClass RJx4a65c = some m.cls := findClass_of_methodNamed B.named
  have hlocks := B.notSynchronized
  subst hsz
  have hD := hD0.self (sz := s.heap.size)
  generalize hAe : va_A [(h0, .inr (4, [v0, .ref (ad 7), v1]))] s.heap.size = A at hD hF ⊢
  have hA : ∀ q : Nat, s.heap.size ≤ q → A q := fun q h => by rw [← hAe]; exact Or.inr h
  obtain ⟨H, hHe⟩ : ∃ H : Heap, H = s.heap := ⟨_, rfl⟩
  have hS : va_S A s.heap H [] := by rw [hHe]; exact va_S.rf
  have hP : va_P D vwCl [(h0, .inr (4, [v0, .ref (ad 7), v1]))] H := by rw [hHe]; exact hP
  rw [← hHe]
  have hi_Jx4a65c : ∀ w ∈ wsJx4a65c0, w ∈ wsJx4a65c_grow_92f84 := by decide +kernel
  have hl := lv_entry [.ref h0, .int 1] (n := 4) (Nat.le_of_ble_eq_true rfl)
  rw [lg_entry_eq]
  generalize (lg_sl [.ref h0, .int 1] ++ List.replicate (4 - (lg_sl [.ref h0, .int 1]).length) Slot.unset).toArray = ls at hl ⊢
  have hl : lv_has ls 4 [(0, .ref h0), (1, .int 1)] := hl
  refine lv_aload_n hx hb dJx4a65c_grow_92f84_0 rfl (lv_at hl 0 rfl) ?_
  refine va_get (D := D) (ci := 4) (v := .ref (ad 7)) (own := RJx4a65c) (C := RJx4a65c) (T := TJx4a65c) (N := 3) hx hb hts hi_Jx4a65c hown hK hP 0 rfl rfl 1 (by decide) (hts (.fieldLink RJx4a65c 9 "java/util/ArrayList" "elementData" "[Ljava/lang/Object;") (List.mem_of_getElem? (i := 1) (by decide +kernel))) (fun _ h9 => h9) rfl dJx4a65c_grow_92f84_1 ?_
  refine va_tlen (v := 0) hx hb hF.2.2.1.2 hS rfl dJx4a65c_grow_92f84_4 ?_
  refine lv_istore_n (lv' := [(2, .int 0), (0, .ref h0), (1, .int 1)]) hx hb dJx4a65c_grow_92f84_5 rfl hl (by decide) rfl (fun ls hl => ?_)
  refine lv_iload_n hx hb dJx4a65c_grow_92f84_6 rfl (lv_at hl 0 rfl) ?_
  refine lv_if_gt (tgt := 20) hx hb dJx4a65c_grow_92f84_7 (by decide) (fun c9 => absurd c9 (by decide +kernel)) (fun _ => ?_)
  refine lv_aload_n hx hb dJx4a65c_grow_92f84_10 rfl (lv_at hl 1 rfl) ?_
  refine va_get (D := D) (ci := 4) (v := .ref (ad 7)) (own := RJx4a65c) (C := RJx4a65c) (T := TJx4a65c) (N := 3) hx hb hts hi_Jx4a65c hown hK hP 0 rfl rfl 1 (by decide) (hts (.fieldLink RJx4a65c 9 "java/util/ArrayList" "elementData" "[Ljava/lang/Object;") (List.mem_of_getElem? (i := 1) (by decide +kernel))) (fun _ h9 => h9) rfl dJx4a65c_grow_92f84_11 ?_
  refine va_gets (C := "java/util/ArrayList") (n := "DEFAULTCAPACITY_EMPTY_ELEMENTDATA") (d := "[Ljava/lang/Object;") (own := RJx4a65c) (ref := "java/util/ArrayList") (v := .ref (ad 7)) hx hb hF.2.2.1.1 hS hown (hts (.fieldLink RJx4a65c 39 "java/util/ArrayList" "DEFAULTCAPACITY_EMPTY_ELEMENTDATA" "[Ljava/lang/Object;") (List.mem_of_getElem? (i := 2) (by decide +kernel))) (fun _ h9 => h9) dJx4a65c_grow_92f84_14 ?_
  refine W.eq (g2 := F0 m 17 ls (va_rf (some (ad 7)) :: va_rf (some (ad 7)) :: [])) rfl ?_
  refine lv_acmp_eq (tgt := 45) hx hb dJx4a65c_grow_92f84_17 (by decide) (fun _ => ?_) (fun c9 => absurd rfl c9)
  refine lv_aload_n hx hb dJx4a65c_grow_92f84_45 rfl (lv_at hl 1 rfl) ?_
  refine lv_bipush (v := 10) hx hb dJx4a65c_grow_92f84_46 (by decide) ?_
  refine lv_iload_n hx hb dJx4a65c_grow_92f84_48 rfl (lv_at hl 2 rfl) ?_
  refine va_mmax (own := RJx4a65c) hx hb (by rw [hml]; exact hl.1.symm) hown (hts (.methodLink RJx4a65c 79 Lib.Math.max.name) (List.mem_of_getElem? (i := 3) (by decide +kernel))) (hts (.static Lib.Math.max.name) (List.mem_of_getElem? (i := 4) (by decide +kernel))) (hts (.initialized "java/lang/Math") (List.mem_of_getElem? (i := 5) (by decide +kernel))) (hts (.code Lib.Math.max.name Lib.Math.max.code 2 (some .int)) (List.mem_of_getElem? (i := 6) (by decide +kernel))) (Nat.le_of_ble_eq_true rfl) (Nat.le_of_ble_eq_true rfl) (Nat.le_of_ble_eq_true rfl) (Nat.le_of_ble_eq_true rfl) dJx4a65c_grow_92f84_49 ?_
  refine kt_ (v := 10) (by decide +kernel) ?_
  refine va_newq (C := "java/lang/Object") (own := RJx4a65c) hx hb hown (hts (.classLink RJx4a65c 7 "java/lang/Object") (List.mem_of_getElem? (i := 7) (by decide +kernel))) (fxo_ hF "java/lang/Object") hK hP hD hS hA (N' := 10) (by decide +kernel) (by decide +kernel) (Nat.le_of_ble_eq_true rfl) (Nat.le_of_ble_eq_true rfl) (Nat.le_of_ble_eq_true rfl) dJx4a65c_grow_92f84_52 (fun q_1 kk_1 H hK hP hD hS => ?_)
  have hP : va_P D vwCl [(h0, .inr (4, [v0, .ref (ad 7), v1])), (q_1, .inl (kk_1, 10, .inr (.inr (.inr (.inr (fun _ => none))))))] H := hP
  have hD : va_D A [(h0, .inr (4, [v0, .ref (ad 7), v1])), (q_1, .inl (kk_1, 10, .inr (.inr (.inr (.inr (fun _ => none))))))] := hD
  have hK : va_K D vwCl [(kk_1, .object "java/lang/Object")] s := hK
  refine lv_dup_x1 hx hb dJx4a65c_grow_92f84_55 rfl rfl ?_
  refine va_put (D := D) (ci := 4) (v := .ref q_1) (ty := tyJx4a65c 1) (own := RJx4a65c) (C := RJx4a65c) (T := TJx4a65c) (N := 3) hx hb hts hi_Jx4a65c tyJx4a65c tyJx4a65c_ok nmJx4a65c hown hK hP hD hS 0 rfl rfl 1 (by decide) (hts (.fieldLink RJx4a65c 9 "java/util/ArrayList" "elementData" "[Ljava/lang/Object;") (List.mem_of_getElem? (i := 1) (by decide +kernel))) (fun _ h9 => h9) rfl (by decide +kernel) rfl rfl (Nat.le_of_ble_eq_true rfl) dJx4a65c_grow_92f84_56 (fun H locs hP hD hS => ?_)
  have hP : va_P D vwCl [(h0, .inr (4, [v0, .ref q_1, v1])), (q_1, .inl (kk_1, 10, .inr (.inr (.inr (.inr (fun _ => none))))))] H := hP
  have hD : va_D A [(h0, .inr (4, [v0, .ref q_1, v1])), (q_1, .inl (kk_1, 10, .inr (.inr (.inr (.inr (fun _ => none))))))] := hD
  refine W.widen (k := 1) (n := 10) (Nat.le_of_ble_eq_true rfl) (Nat.le_of_ble_eq_true rfl) ?_
  exact W.aret (v := .ref q_1) hx hb hr (Or.inr ⟨_, rfl⟩) (Or.inr ⟨_, rfl⟩) (QG_.mk (fun n => [q_1].getD n 0) (fun n => [kk_1].getD n 0) (fun _ => 0) [0, 1] [0] hP hD hK hS rfl trivial rfl (by decide) rfl) hS.2.2 dJx4a65c_grow_92f84_59
set_option maxHeartbeats 4000000 in
set_option maxRecDepth 100000 in
theorem c_Jx4a65c_grow_d5877_0 (l : Launch) (hl0 : l.stackTraces = false) (D : va_G) (ad : Nat → Nat) (sz : Nat) (h0 : Nat) (v0 : Value) : Met l yJx4a65c_grow_d5877 wsJx4a65c_grow_d5877 ({ frames := 2, cells := 1, slots := 10, locals := 65 }) (PC_ D ad [(h0, .inr (4, [v0, .ref (ad 7), .int 0]))] [] sz [.ref h0]) (QG_ D (fun q i => some (.ref (q 0))) (fun q i => True) (fun q k i => [(h0, .inr (4, [v0, .ref (q 0), .int 0])), ((q 0), .inl ((k 0), 10, .inr (.inr (.inr (.inr (fun _ => none))))))]) (fun q k i => [((k 0), .object "java/lang/Object")]) (va_A [(h0, .inr (4, [v0, .ref (ad 7), .int 0]))] sz)) 1 10 (va_A [(h0, .inr (4, [v0, .ref (ad 7), .int 0]))] sz) := by
  refine Met.ofW (cc := cJx4a65c_grow_d5877) (maxL := 1) (ret := (some (.array (.object "java/lang/Object")))) (by decide) rfl ?_
  intro p e s m args below meth c s₁ B hml hv
  obtain ⟨rfl, hsz, hP, hK, hD0, hF⟩ := hv
  have hx := B.exec
  have hb := B.bytes
  have hr := B.returns
  have hts := atoms_spec (ws := wsJx4a65c_grow_d5877) B.pre
  have hown : s.vm.findClass RJx4a65c = some m.cls := findClass_of_methodNamed B.named
  have hlocks := B.notSynchronized
  subst hsz
  have hD := hD0.self (sz := s.heap.size)
  generalize hAe : va_A [(h0, .inr (4, [v0, .ref (ad 7), .int 0]))] s.heap.size = A at hD hF ⊢
  have hA : ∀ q : Nat, s.heap.size ≤ q → A q := fun q h => by rw [← hAe]; exact Or.inr h
  obtain ⟨H, hHe⟩ : ∃ H : Heap, H = s.heap := ⟨_, rfl⟩
  have hS : va_S A s.heap H [] := by rw [hHe]; exact va_S.rf
  have hP : va_P D vwCl [(h0, .inr (4, [v0, .ref (ad 7), .int 0]))] H := by rw [hHe]; exact hP
  rw [← hHe]
  have hi_Jx4a65c : ∀ w ∈ wsJx4a65c0, w ∈ wsJx4a65c_grow_d5877 := by decide +kernel
  have hl := lv_entry [.ref h0] (n := 1) (Nat.le_of_ble_eq_true rfl)
  rw [lg_entry_eq]
  generalize (lg_sl [.ref h0] ++ List.replicate (1 - (lg_sl [.ref h0]).length) Slot.unset).toArray = ls at hl ⊢
  have hl : lv_has ls 1 [(0, .ref h0)] := hl
  refine lv_aload_n hx hb dJx4a65c_grow_d5877_0 rfl (lv_at hl 0 rfl) ?_
  refine lv_aload_n hx hb dJx4a65c_grow_d5877_1 rfl (lv_at hl 0 rfl) ?_
  refine va_get (D := D) (ci := 4) (v := .int 0) (own := RJx4a65c) (C := RJx4a65c) (T := TJx4a65c) (N := 3) hx hb hts hi_Jx4a65c hown hK hP 0 rfl rfl 2 (by decide) (hts (.fieldLink RJx4a65c 48 "java/util/ArrayList" "size" "I") (List.mem_of_getElem? (i := 1) (by decide +kernel))) (fun _ h9 => h9) rfl dJx4a65c_grow_d5877_2 ?_
  refine lv_iconst (v := 1) hx hb dJx4a65c_grow_d5877_5 (by decide) ?_
  refine lv_iadd hx hb dJx4a65c_grow_d5877_6 ?_
  refine kt_ (v := 1) (by decide +kernel) ?_
  refine kc_ (wc := [(h0, .inr (4, [v0, .ref (ad 7), .int 0]))]) (wr := []) (va_runV (As := [.int 1]) (rest := []) ⟨hx, hb, hml, hown, hts⟩ (c_Jx4a65c_grow_92f84_0 l hl0 D ad H.size h0 (v0) (.int 0)) (cwV 1 hts gJx4a65c_grow_d5877_Jx4a65c_grow_92f84 rfl rfl rfl (by decide +kernel) ⟨Nat.le_of_ble_eq_true rfl, Nat.le_of_ble_eq_true rfl⟩) ⟨PC_.blind, va_recv hK hP (ci := 4) (q0 := 0) rfl rfl, PC_.pre hF hK hP hD hS hA [0] [] rfl (by decide) rfl⟩ rfl rfl hl.1 rfl (lv_room (Nat.le_of_ble_eq_true rfl)) dJx4a65c_grow_d5877_7 ⟨Nat.le_of_ble_eq_true rfl, Nat.le_of_ble_eq_true rfl⟩) hK hP hD hS hA [0] [] [] rfl rfl (by decide) (by decide) rfl (fun qa_1 ka_1 ia_1 H locs hpo hP hD hK hS => ?_)
  have hP : va_P D vwCl [(h0, .inr (4, [v0, .ref (qa_1 0), .int 0])), ((qa_1 0), .inl ((ka_1 0), 10, .inr (.inr (.inr (.inr (fun _ => none))))))] H := hP
  have hD : va_D A [(h0, .inr (4, [v0, .ref (qa_1 0), .int 0])), ((qa_1 0), .inl ((ka_1 0), 10, .inr (.inr (.inr (.inr (fun _ => none))))))] := hD
  have hK : va_K D vwCl [((ka_1 0), .object "java/lang/Object")] s := hK
  refine W.eq (g2 := F0 m 10 ls [.ref (qa_1 0)]) rfl ?_
  refine W.widen (k := 1) (n := 10) (Nat.le_of_ble_eq_true rfl) (Nat.le_of_ble_eq_true rfl) ?_
  exact W.aret (v := .ref (qa_1 0)) hx hb hr (Or.inr ⟨_, rfl⟩) (Or.inr ⟨_, rfl⟩) (QG_.mk (fun n => [(qa_1 0)].getD n 0) (fun n => [(ka_1 0)].getD n 0) (fun _ => 0) [0, 1] [0] hP hD hK hS rfl trivial rfl (by decide) rfl) hS.2.2 dJx4a65c_grow_d5877_10
set_option maxHeartbeats 4000000 in
set_option maxRecDepth 100000 in
theorem c_Jx4a65c_add_72be8_0 (l : Launch) (hl0 : l.stackTraces = false) (D : va_G) (ad : Nat → Nat) (sz : Nat) (h0 : Nat) (h1 : Nat) (v0 : Value) (v1 : Value) (v2 : Value) (v3 : Value) (v4 : Value) : Met l yJx4a65c_add_72be8 wsJx4a65c_add_72be8 ({ frames := 3, cells := 1, slots := 10, locals := 87 }) (PC_ D ad [(h0, .inr (4, [v0, .ref (ad 7), .int 0])), (h1, .inr (9, [v1, v2, v3, v4]))] [] sz [.ref h0, .ref h1, .ref (ad 7), .int 0]) (QG_ D (fun q i => none) (fun q i => True) (fun q k i => [(h0, .inr (4, [v0, .ref (q 0), .int 1])), (h1, .inr (9, [v1, v2, v3, v4])), ((q 0), .inl ((k 0), 10, .inr (.inr (.inr (.inr (va_up (fun _ => none) 0 (some h1)))))))]) (fun q k i => [((k 0), .object "java/lang/Object")]) (va_A [(h0, .inr (4, [v0, .ref (ad 7), .int 0])), (h1, .inr (9, [v1, v2, v3, v4]))] sz)) 1 10 (va_A [(h0, .inr (4, [v0, .ref (ad 7), .int 0])), (h1, .inr (9, [v1, v2, v3, v4]))] sz) := by
  refine Met.ofW (cc := cJx4a65c_add_72be8) (maxL := 4) (ret := none) (by decide) rfl ?_
  intro p e s m args below meth c s₁ B hml hv
  obtain ⟨rfl, hsz, hP, hK, hD0, hF⟩ := hv
  have hx := B.exec
  have hb := B.bytes
  have hr := B.returns
  have hts := atoms_spec (ws := wsJx4a65c_add_72be8) B.pre
  have hown : s.vm.findClass RJx4a65c = some m.cls := findClass_of_methodNamed B.named
  have hlocks := B.notSynchronized
  subst hsz
  have hD := hD0.self (sz := s.heap.size)
  generalize hAe : va_A [(h0, .inr (4, [v0, .ref (ad 7), .int 0])), (h1, .inr (9, [v1, v2, v3, v4]))] s.heap.size = A at hD hF ⊢
  have hA : ∀ q : Nat, s.heap.size ≤ q → A q := fun q h => by rw [← hAe]; exact Or.inr h
  obtain ⟨H, hHe⟩ : ∃ H : Heap, H = s.heap := ⟨_, rfl⟩
  have hS : va_S A s.heap H [] := by rw [hHe]; exact va_S.rf
  have hP : va_P D vwCl [(h0, .inr (4, [v0, .ref (ad 7), .int 0])), (h1, .inr (9, [v1, v2, v3, v4]))] H := by rw [hHe]; exact hP
  rw [← hHe]
  have hi_Jx4a65c : ∀ w ∈ wsJx4a65c0, w ∈ wsJx4a65c_add_72be8 := by decide +kernel
  have hl := lv_entry [.ref h0, .ref h1, .ref (ad 7), .int 0] (n := 4) (Nat.le_of_ble_eq_true rfl)
  rw [lg_entry_eq]
  generalize (lg_sl [.ref h0, .ref h1, .ref (ad 7), .int 0] ++ List.replicate (4 - (lg_sl [.ref h0, .ref h1, .ref (ad 7), .int 0]).length) Slot.unset).toArray = ls at hl ⊢
  have hl : lv_has ls 4 [(0, .ref h0), (1, .ref h1), (2, .ref (ad 7)), (3, .int 0)] := hl
  refine lv_iload_n hx hb dJx4a65c_add_72be8_0 rfl (lv_at hl 3 rfl) ?_
  refine lv_aload_n hx hb dJx4a65c_add_72be8_1 rfl (lv_at hl 2 rfl) ?_
  refine va_tlen (v := 0) hx hb hF.2.2.1.2 hS rfl dJx4a65c_add_72be8_2 ?_
  refine lv_icmp_ne (tgt := 11) hx hb dJx4a65c_add_72be8_3 (by decide) (fun c9 => absurd (by decide +kernel) c9) (fun _ => ?_)
  refine lv_aload_n hx hb dJx4a65c_add_72be8_6 rfl (lv_at hl 0 rfl) ?_
  refine kc_ (wc := [(h0, .inr (4, [v0, .ref (ad 7), .int 0]))]) (wr := [(h1, .inr (9, [v1, v2, v3, v4]))]) (va_runV (As := []) (rest := []) ⟨hx, hb, hml, hown, hts⟩ (c_Jx4a65c_grow_d5877_0 l hl0 D ad H.size h0 (v0)) (cwV 0 hts gJx4a65c_add_72be8_Jx4a65c_grow_d5877 rfl rfl rfl (by decide +kernel) ⟨Nat.le_of_ble_eq_true rfl, Nat.le_of_ble_eq_true rfl⟩) ⟨PC_.blind, va_recv hK hP (ci := 4) (q0 := 0) rfl rfl, PC_.pre hF hK hP hD hS hA [0] [] rfl (by decide) rfl⟩ rfl rfl hl.1 rfl (lv_room (Nat.le_of_ble_eq_true rfl)) dJx4a65c_add_72be8_7 ⟨Nat.le_of_ble_eq_true rfl, Nat.le_of_ble_eq_true rfl⟩) hK hP hD hS hA [0] [1] [] rfl rfl (by decide) (by decide) rfl (fun qa_1 ka_1 ia_1 H locs hpo hP hD hK hS => ?_)
  have hP : va_P D vwCl [(h1, .inr (9, [v1, v2, v3, v4])), (h0, .inr (4, [v0, .ref (qa_1 0), .int 0])), ((qa_1 0), .inl ((ka_1 0), 10, .inr (.inr (.inr (.inr (fun _ => none))))))] H := hP
  have hD : va_D A [(h1, .inr (9, [v1, v2, v3, v4])), (h0, .inr (4, [v0, .ref (qa_1 0), .int 0])), ((qa_1 0), .inl ((ka_1 0), 10, .inr (.inr (.inr (.inr (fun _ => none))))))] := hD
  have hK : va_K D vwCl [((ka_1 0), .object "java/lang/Object")] s := hK
  refine W.eq (g2 := F0 m 10 ls [.ref (qa_1 0)]) rfl ?_
  refine lv_astore_n (lv' := [(2, .ref (qa_1 0)), (0, .ref h0), (1, .ref h1), (3, .int 0)]) hx hb dJx4a65c_add_72be8_10 rfl hl (by decide) rfl (fun ls hl => ?_)
  refine lv_aload_n hx hb dJx4a65c_add_72be8_11 rfl (lv_at hl 0 rfl) ?_
  refine lv_iload_n hx hb dJx4a65c_add_72be8_12 rfl (lv_at hl 3 rfl) ?_
  refine lv_aload_n hx hb dJx4a65c_add_72be8_13 rfl (lv_at hl 2 rfl) ?_
  refine ka_astqM (E := "java/lang/Object") (g := (va_up (fun _ => none) 0 (some h1))) hx hb hK hP hD hS 2 0 rfl rfl (va_rAny hK hP (q0 := 0) (ci := 9) rfl rfl (fxc_ hF "CanalMaps$Page" "java/lang/Object")) (vin_ (by decide +kernel)) (congrArg (fun z9 => va_up _ z9 _) (by decide +kernel)) dJx4a65c_add_72be8_14 (fun H locs hP hD hS => ?_)
  have hP : va_P D vwCl [(h1, .inr (9, [v1, v2, v3, v4])), (h0, .inr (4, [v0, .ref (qa_1 0), .int 0])), ((qa_1 0), .inl ((ka_1 0), 10, .inr (.inr (.inr (.inr (va_up (fun _ => none) 0 (some h1)))))))] H := hP
  have hD : va_D A [(h1, .inr (9, [v1, v2, v3, v4])), (h0, .inr (4, [v0, .ref (qa_1 0), .int 0])), ((qa_1 0), .inl ((ka_1 0), 10, .inr (.inr (.inr (.inr (va_up (fun _ => none) 0 (some h1)))))))] := hD
  refine lv_aload_n hx hb dJx4a65c_add_72be8_15 rfl (lv_at hl 1 rfl) ?_
  refine lv_iload_n hx hb dJx4a65c_add_72be8_16 rfl (lv_at hl 3 rfl) ?_
  refine lv_iconst (v := 1) hx hb dJx4a65c_add_72be8_17 (by decide) ?_
  refine lv_iadd hx hb dJx4a65c_add_72be8_18 ?_
  refine kt_ (v := 1) (by decide +kernel) ?_
  refine va_put (D := D) (ci := 4) (v := .int 1) (ty := .int) (own := RJx4a65c) (C := RJx4a65c) (T := TJx4a65c) (N := 3) hx hb hts hi_Jx4a65c tyJx4a65c tyJx4a65c_ok nmJx4a65c hown hK hP hD hS 1 rfl rfl 2 (by decide) (hts (.fieldLink RJx4a65c 48 "java/util/ArrayList" "size" "I") (List.mem_of_getElem? (i := 1) (by decide +kernel))) (fun _ h9 => h9) rfl (by decide +kernel) rfl rfl (Nat.le_of_ble_eq_true rfl) dJx4a65c_add_72be8_19 (fun H locs hP hD hS => ?_)
  have hP : va_P D vwCl [(h1, .inr (9, [v1, v2, v3, v4])), (h0, .inr (4, [v0, .ref (qa_1 0), .int 1])), ((qa_1 0), .inl ((ka_1 0), 10, .inr (.inr (.inr (.inr (va_up (fun _ => none) 0 (some h1)))))))] H := hP
  have hD : va_D A [(h1, .inr (9, [v1, v2, v3, v4])), (h0, .inr (4, [v0, .ref (qa_1 0), .int 1])), ((qa_1 0), .inl ((ka_1 0), 10, .inr (.inr (.inr (.inr (va_up (fun _ => none) 0 (some h1)))))))] := hD
  refine W.widen (k := 1) (n := 10) (Nat.le_of_ble_eq_true rfl) (Nat.le_of_ble_eq_true rfl) ?_
  exact W.vret hx hb hr (QG_.mk (fun n => [(qa_1 0)].getD n 0) (fun n => [(ka_1 0)].getD n 0) (fun _ => 0) [1, 0, 2] [0] hP hD hK hS rfl trivial rfl (by decide) rfl) hS.2.2 dJx4a65c_add_72be8_22
set_option maxHeartbeats 4000000 in
set_option maxRecDepth 100000 in
theorem c_Jx4a65c_add_9ea2d_0 (l : Launch) (hl0 : l.stackTraces = false) (D : va_G) (ad : Nat → Nat) (sz : Nat) (h0 : Nat) (h1 : Nat) (v0 : Value) (v1 : Value) (v2 : Value) (v3 : Value) : Met l yJx4a65c_add_9ea2d wsJx4a65c_add_9ea2d ({ frames := 4, cells := 1, slots := 10, locals := 112 }) (PC_ D ad [(h0, .inr (4, [.int 0, .ref (ad 7), .int 0])), (h1, .inr (9, [v0, v1, v2, v3]))] [] sz [.ref h0, .ref h1]) (QG_ D (fun q i => some (.int 1)) (fun q i => True) (fun q k i => [(h0, .inr (4, [.int 1, .ref (q 0), .int 1])), (h1, .inr (9, [v0, v1, v2, v3])), ((q 0), .inl ((k 0), 10, .inr (.inr (.inr (.inr (va_up (fun _ => none) 0 (some h1)))))))]) (fun q k i => [((k 0), .object "java/lang/Object")]) (va_A [(h0, .inr (4, [.int 0, .ref (ad 7), .int 0])), (h1, .inr (9, [v0, v1, v2, v3]))] sz)) 1 10 (va_A [(h0, .inr (4, [.int 0, .ref (ad 7), .int 0])), (h1, .inr (9, [v0, v1, v2, v3]))] sz) := by
  refine Met.ofW (cc := cJx4a65c_add_9ea2d) (maxL := 2) (ret := (some .boolean)) (by decide) rfl ?_
  intro p e s m args below meth c s₁ B hml hv
  obtain ⟨rfl, hsz, hP, hK, hD0, hF⟩ := hv
  have hx := B.exec
  have hb := B.bytes
  have hr := B.returns
  have hts := atoms_spec (ws := wsJx4a65c_add_9ea2d) B.pre
  have hown : s.vm.findClass RJx4a65c = some m.cls := findClass_of_methodNamed B.named
  have hlocks := B.notSynchronized
  subst hsz
  have hD := hD0.self (sz := s.heap.size)
  generalize hAe : va_A [(h0, .inr (4, [.int 0, .ref (ad 7), .int 0])), (h1, .inr (9, [v0, v1, v2, v3]))] s.heap.size = A at hD hF ⊢
  have hA : ∀ q : Nat, s.heap.size ≤ q → A q := fun q h => by rw [← hAe]; exact Or.inr h
  obtain ⟨H, hHe⟩ : ∃ H : Heap, H = s.heap := ⟨_, rfl⟩
  have hS : va_S A s.heap H [] := by rw [hHe]; exact va_S.rf
  have hP : va_P D vwCl [(h0, .inr (4, [.int 0, .ref (ad 7), .int 0])), (h1, .inr (9, [v0, v1, v2, v3]))] H := by rw [hHe]; exact hP
  rw [← hHe]
  have hi_Jx4a65c : ∀ w ∈ wsJx4a65c0, w ∈ wsJx4a65c_add_9ea2d := by decide +kernel
  have hi_X6 : ∀ w ∈ wsX60, w ∈ wsJx4a65c_add_9ea2d := by decide +kernel
  have hl := lv_entry [.ref h0, .ref h1] (n := 2) (Nat.le_of_ble_eq_true rfl)
  rw [lg_entry_eq]
  generalize (lg_sl [.ref h0, .ref h1] ++ List.replicate (2 - (lg_sl [.ref h0, .ref h1]).length) Slot.unset).toArray = ls at hl ⊢
  have hl : lv_has ls 2 [(0, .ref h0), (1, .ref h1)] := hl
  refine lv_aload_n hx hb dJx4a65c_add_9ea2d_0 rfl (lv_at hl 0 rfl) ?_
  refine lv_dup hx hb dJx4a65c_add_9ea2d_1 rfl ?_
  refine va_get (D := D) (ci := 4) (v := .int 0) (own := RJx4a65c) (C := RJx4a65c) (T := TJx4a65c) (N := 3) hx hb hts hi_Jx4a65c hown hK hP 0 rfl rfl 0 (by decide) (hts (.fieldLink RJx4a65c 63 "java/util/ArrayList" "modCount" "I") (List.mem_of_getElem? (i := 1) (by decide +kernel))) (u_same (hts (.sameField "java/util/ArrayList" "java/util/AbstractList" "modCount" "I") (List.mem_of_getElem? (i := 2) (by decide +kernel)))) rfl dJx4a65c_add_9ea2d_2 ?_
  refine lv_iconst (v := 1) hx hb dJx4a65c_add_9ea2d_5 (by decide) ?_
  refine lv_iadd hx hb dJx4a65c_add_9ea2d_6 ?_
  refine kt_ (v := 1) (by decide +kernel) ?_
  refine va_put (D := D) (ci := 4) (v := .int 1) (ty := .int) (own := RJx4a65c) (C := RJx4a65c) (T := TJx4a65c) (N := 3) hx hb hts hi_Jx4a65c tyJx4a65c tyJx4a65c_ok nmJx4a65c hown hK hP hD hS 0 rfl rfl 0 (by decide) (hts (.fieldLink RJx4a65c 63 "java/util/ArrayList" "modCount" "I") (List.mem_of_getElem? (i := 1) (by decide +kernel))) (u_same (hts (.sameField "java/util/ArrayList" "java/util/AbstractList" "modCount" "I") (List.mem_of_getElem? (i := 2) (by decide +kernel)))) rfl (by decide +kernel) rfl rfl (Nat.le_of_ble_eq_true rfl) dJx4a65c_add_9ea2d_7 (fun H locs hP hD hS => ?_)
  have hP : va_P D vwCl [(h0, .inr (4, [.int 1, .ref (ad 7), .int 0])), (h1, .inr (9, [v0, v1, v2, v3]))] H := hP
  have hD : va_D A [(h0, .inr (4, [.int 1, .ref (ad 7), .int 0])), (h1, .inr (9, [v0, v1, v2, v3]))] := hD
  refine lv_aload_n hx hb dJx4a65c_add_9ea2d_10 rfl (lv_at hl 0 rfl) ?_
  refine lv_aload_n hx hb dJx4a65c_add_9ea2d_11 rfl (lv_at hl 1 rfl) ?_
  refine lv_aload_n hx hb dJx4a65c_add_9ea2d_12 rfl (lv_at hl 0 rfl) ?_
  refine va_get (D := D) (ci := 4) (v := .ref (ad 7)) (own := RJx4a65c) (C := RJx4a65c) (T := TJx4a65c) (N := 3) hx hb hts hi_Jx4a65c hown hK hP 0 rfl rfl 1 (by decide) (hts (.fieldLink RJx4a65c 9 "java/util/ArrayList" "elementData" "[Ljava/lang/Object;") (List.mem_of_getElem? (i := 3) (by decide +kernel))) (fun _ h9 => h9) rfl dJx4a65c_add_9ea2d_13 ?_
  refine lv_aload_n hx hb dJx4a65c_add_9ea2d_16 rfl (lv_at hl 0 rfl) ?_
  refine va_get (D := D) (ci := 4) (v := .int 0) (own := RJx4a65c) (C := RJx4a65c) (T := TJx4a65c) (N := 3) hx hb hts hi_Jx4a65c hown hK hP 0 rfl rfl 2 (by decide) (hts (.fieldLink RJx4a65c 48 "java/util/ArrayList" "size" "I") (List.mem_of_getElem? (i := 4) (by decide +kernel))) (fun _ h9 => h9) rfl dJx4a65c_add_9ea2d_17 ?_
  refine kc_ (wc := [(h0, .inr (4, [.int 1, .ref (ad 7), .int 0])), (h1, .inr (9, [v0, v1, v2, v3]))]) (wr := []) (va_runV (As := [.ref h1, .ref (ad 7), .int 0]) (rest := []) ⟨hx, hb, hml, hown, hts⟩ (c_Jx4a65c_add_72be8_0 l hl0 D ad H.size h0 h1 (.int 1) (v0) (v1) (v2) (v3)) (cwV 3 hts gJx4a65c_add_9ea2d_Jx4a65c_add_72be8 rfl rfl rfl (by decide +kernel) ⟨Nat.le_of_ble_eq_true rfl, Nat.le_of_ble_eq_true rfl⟩) ⟨PC_.blind, va_recv hK hP (ci := 4) (q0 := 0) rfl rfl, PC_.pre hF hK hP hD hS hA [0, 1] [] rfl (by decide) rfl⟩ rfl rfl hl.1 rfl (lv_room (Nat.le_of_ble_eq_true rfl)) dJx4a65c_add_9ea2d_20 ⟨Nat.le_of_ble_eq_true rfl, Nat.le_of_ble_eq_true rfl⟩) hK hP hD hS hA [0, 1] [] [] rfl rfl (by decide) (by decide) rfl (fun qa_1 ka_1 ia_1 H locs hpo hP hD hK hS => ?_)
  have hP : va_P D vwCl [(h0, .inr (4, [.int 1, .ref (qa_1 0), .int 1])), (h1, .inr (9, [v0, v1, v2, v3])), ((qa_1 0), .inl ((ka_1 0), 10, .inr (.inr (.inr (.inr (va_up (fun _ => none) 0 (some h1)))))))] H := hP
  have hD : va_D A [(h0, .inr (4, [.int 1, .ref (qa_1 0), .int 1])), (h1, .inr (9, [v0, v1, v2, v3])), ((qa_1 0), .inl ((ka_1 0), 10, .inr (.inr (.inr (.inr (va_up (fun _ => none) 0 (some h1)))))))] := hD
  have hK : va_K D vwCl [((ka_1 0), .object "java/lang/Object")] s := hK
  refine W.eq (g2 := F0 m 23 ls []) rfl ?_
  refine lv_iconst (v := 1) hx hb dJx4a65c_add_9ea2d_23 (by decide) ?_
  refine W.widen (k := 1) (n := 10) (Nat.le_of_ble_eq_true rfl) (Nat.le_of_ble_eq_true rfl) ?_
  exact W.zret (v := 1) hx hb hr rfl (QG_.mk (fun n => [(qa_1 0)].getD n 0) (fun n => [(ka_1 0)].getD n 0) (fun _ => 0) [0, 1, 2] [0] hP hD hK hS rfl trivial rfl (by decide) rfl) hS.2.2 dJx4a65c_add_9ea2d_24
set_option maxHeartbeats 4000000 in
set_option maxRecDepth 100000 in
theorem c_X1_init_0 (l : Launch) (hl0 : l.stackTraces = false) (D : va_G) (ad : Nat → Nat) (sz : Nat) (h0 : Nat) : Met l yX1_init wsX1_init ({ frames := 5, cells := 4, slots := 23, locals := 135 }) (PC_ D ad [(h0, .inr (5, [.null, .null]))] [] sz [.ref h0]) (QG_ D (fun q i => none) (fun q i => True) (fun q k i => [(h0, .inr (5, [.ref (q 1), .ref (q 2)])), ((q 0), .inl ((k 0), 6, .inl (fun _ => 0))), ((q 1), .inr (4, [.int 1, .ref (q 3), .int 1])), ((q 2), .inr (9, [.int 0, .int 0, .int 0, .ref (q 0)])), ((q 3), .inl ((k 1), 10, .inr (.inr (.inr (.inr (va_up (fun _ => none) 0 (some (q 2))))))))]) (fun q k i => [((k 0), .int), ((k 1), .object "java/lang/Object")]) (va_A [(h0, .inr (5, [.null, .null]))] sz)) 4 23 (va_A [(h0, .inr (5, [.null, .null]))] sz) := by
  refine Met.ofW (cc := cX1_init) (maxL := 1) (ret := none) (by decide) rfl ?_
  intro p e s m args below meth c s₁ B hml hv
  obtain ⟨rfl, hsz, hP, hK, hD0, hF⟩ := hv
  have hx := B.exec
  have hb := B.bytes
  have hr := B.returns
  have hts := atoms_spec (ws := wsX1_init) B.pre
  have hown : s.vm.findClass RX1 = some m.cls := findClass_of_methodNamed B.named
  have hlocks := B.notSynchronized
  have hin : meth.name = "<init>" := (name_of_methodNamed B.named B.method).1
  subst hsz
  have hD := hD0.self (sz := s.heap.size)
  generalize hAe : va_A [(h0, .inr (5, [.null, .null]))] s.heap.size = A at hD hF ⊢
  have hA : ∀ q : Nat, s.heap.size ≤ q → A q := fun q h => by rw [← hAe]; exact Or.inr h
  obtain ⟨H, hHe⟩ : ∃ H : Heap, H = s.heap := ⟨_, rfl⟩
  have hS : va_S A s.heap H [] := by rw [hHe]; exact va_S.rf
  have hP : va_P D vwCl [(h0, .inr (5, [.null, .null]))] H := by rw [hHe]; exact hP
  rw [← hHe]
  have hi_Jx4a65c : ∀ w ∈ wsJx4a65c0, w ∈ wsX1_init := by decide +kernel
  have hi_X1 : ∀ w ∈ wsX10, w ∈ wsX1_init := by decide +kernel
  have hi_X6 : ∀ w ∈ wsX60, w ∈ wsX1_init := by decide +kernel
  have hl := lv_entry [.ref h0] (n := 1) (Nat.le_of_ble_eq_true rfl)
  rw [lg_entry_eq]
  generalize (lg_sl [.ref h0] ++ List.replicate (1 - (lg_sl [.ref h0]).length) Slot.unset).toArray = ls at hl ⊢
  have hl : lv_has ls 1 [(0, .ref h0)] := hl
  refine lv_aload_n hx hb dX1_init_0 rfl (lv_at hl 0 rfl) ?_
  refine W.objInit hx hb hown (hts (.methodLink RX1 3 objectInit) (List.mem_of_getElem? (i := 1) (by decide +kernel))) (hts (.instanceMethod objectInit) (List.mem_of_getElem? (i := 2) (by decide +kernel))) (hts (.code objectInit ⟨#[0xb1]⟩ 1 none) (List.mem_of_getElem? (i := 3) (by decide +kernel))) rfl (by rw [hml]; exact hl.1) rfl dX1_init_1 (Nat.le_of_ble_eq_true rfl) (Nat.le_of_ble_eq_true rfl) ?_
  refine W.eq (g2 := F0 m 4 ls []) rfl ?_
  refine lv_aload_n hx hb dX1_init_4 rfl (lv_at hl 0 rfl) ?_
  refine va_new (ci := 4) (fs := [.int 0, .null, .int 0]) (own := RX1) (C := RJx4a65c) (T := TJx4a65c) (N := 3) hx hb hts hi_Jx4a65c tyJx4a65c tyJx4a65c_ok hown (hts (.classLink RX1 9 RJx4a65c) (List.mem_of_getElem? (i := 4) (by decide +kernel))) (hts (.instantiable RJx4a65c 3) (List.mem_of_getElem? (i := 5) (by decide +kernel))) (hts (.initialized RJx4a65c) (List.mem_of_getElem? (i := 6) (by decide +kernel))) hK hP hD hS hA rfl (fun j hj => by rcases (show j = 0 ∨ j = 1 ∨ j = 2 by omega) with rfl | rfl | rfl <;> rfl) (Nat.le_of_ble_eq_true rfl) (Nat.le_of_ble_eq_true rfl) dX1_init_5 (fun q_1 H hP hD hS => ?_)
  have hP : va_P D vwCl [(h0, .inr (5, [.null, .null])), (q_1, .inr (4, [.int 0, .null, .int 0]))] H := hP
  have hD : va_D A [(h0, .inr (5, [.null, .null])), (q_1, .inr (4, [.int 0, .null, .int 0]))] := hD
  refine lv_dup hx hb dX1_init_8 rfl ?_
  refine kc_ (wc := [(q_1, .inr (4, [.int 0, .null, .int 0]))]) (wr := [(h0, .inr (5, [.null, .null]))]) (va_runI (As := []) (rest := [.ref q_1, .ref h0]) ⟨hx, hb, hml, hown, hts⟩ (c_Jx4a65c_init_da8c8_0 l hl0 D ad H.size q_1 (.int 0) (.null) (.int 0)) (cwI 0 hts gX1_init_Jx4a65c_init_da8c8 rfl rfl rfl (hts (.initialized RJx4a65c) (List.mem_of_getElem? (i := 6) (by decide +kernel))) (hts (.methodLink RX1 11 yJx4a65c_init_da8c8) (List.mem_of_getElem? (i := 13) (by decide +kernel))) (hts (.instanceMethod yJx4a65c_init_da8c8) (List.mem_of_getElem? (i := 14) (by decide +kernel))) rfl (by decide +kernel) ⟨Nat.le_of_ble_eq_true rfl, Nat.le_of_ble_eq_true rfl⟩) ⟨PC_.blind, PC_.pre hF hK hP hD hS hA [1] [] rfl (by decide) rfl⟩ rfl rfl hl.1 rfl (lv_room (Nat.le_of_ble_eq_true rfl)) dX1_init_9 ⟨Nat.le_of_ble_eq_true rfl, Nat.le_of_ble_eq_true rfl⟩) hK hP hD hS hA [1] [0] [] rfl rfl (by decide) (by decide) rfl (fun qa_2 ka_2 ia_2 H locs hpo hP hD hK hS => ?_)
  have hP : va_P D vwCl [(h0, .inr (5, [.null, .null])), (q_1, .inr (4, [.int 0, .ref (ad 7), .int 0]))] H := hP
  have hD : va_D A [(h0, .inr (5, [.null, .null])), (q_1, .inr (4, [.int 0, .ref (ad 7), .int 0]))] := hD
  have hK : va_K D vwCl [] s := hK
  refine W.eq (g2 := F0 m 12 ls [.ref q_1, .ref h0]) rfl ?_
  refine va_putF (D := D) (ci := 5) (v := .ref q_1) (ty := tyX1 0) (own := RX1) (C := RX1) (T := TX1) (N := 2) hx hb hts hi_X1 tyX1 tyX1_ok nmX1 hown hK hP hD hS 0 rfl rfl 0 (by decide) (hts (.fieldLink RX1 12 "CanalMaps$Archive" "pages" "Ljava/util/ArrayList;") (List.mem_of_getElem? (i := 7) (by decide +kernel))) (fun _ h9 => h9) rfl hin rfl (by decide +kernel) rfl rfl (Nat.le_of_ble_eq_true rfl) dX1_init_12 (fun H locs hP hD hS => ?_)
  have hP : va_P D vwCl [(h0, .inr (5, [.ref q_1, .null])), (q_1, .inr (4, [.int 0, .ref (ad 7), .int 0]))] H := hP
  have hD : va_D A [(h0, .inr (5, [.ref q_1, .null])), (q_1, .inr (4, [.int 0, .ref (ad 7), .int 0]))] := hD
  refine lv_aload_n hx hb dX1_init_15 rfl (lv_at hl 0 rfl) ?_
  refine va_new (ci := 9) (fs := [.int 0, .int 0, .int 0, .null]) (own := RX1) (C := RX6) (T := TX6) (N := 4) hx hb hts hi_X6 tyX6 tyX6_ok hown (hts (.classLink RX1 18 RX6) (List.mem_of_getElem? (i := 8) (by decide +kernel))) (hts (.instantiable RX6 4) (List.mem_of_getElem? (i := 9) (by decide +kernel))) (hts (.initialized RX6) (List.mem_of_getElem? (i := 10) (by decide +kernel))) hK hP hD hS hA rfl (fun j hj => by rcases (show j = 0 ∨ j = 1 ∨ j = 2 ∨ j = 3 by omega) with rfl | rfl | rfl | rfl <;> rfl) (Nat.le_of_ble_eq_true rfl) (Nat.le_of_ble_eq_true rfl) dX1_init_16 (fun q_3 H hP hD hS => ?_)
  have hP : va_P D vwCl [(h0, .inr (5, [.ref q_1, .null])), (q_1, .inr (4, [.int 0, .ref (ad 7), .int 0])), (q_3, .inr (9, [.int 0, .int 0, .int 0, .null]))] H := hP
  have hD : va_D A [(h0, .inr (5, [.ref q_1, .null])), (q_1, .inr (4, [.int 0, .ref (ad 7), .int 0])), (q_3, .inr (9, [.int 0, .int 0, .int 0, .null]))] := hD
  refine lv_dup hx hb dX1_init_19 rfl ?_
  refine lv_iconst (v := 0) hx hb dX1_init_20 (by decide) ?_
  refine lv_iconst (v := 0) hx hb dX1_init_21 (by decide) ?_
  refine lv_iconst (v := 0) hx hb dX1_init_22 (by decide) ?_
  refine lv_bipush (v := 6) hx hb dX1_init_23 (by decide) ?_
  refine va_newa (atype := .int) hx hb (hts (.arrayClass .int) (List.mem_of_getElem? (i := 11) (by decide +kernel))) rfl hK hP hD hS hA (a0 := (6, .inl (fun _ => 0))) (fun _ => rfl) (by decide +kernel) (by decide +kernel) (Nat.le_of_ble_eq_true rfl) (Nat.le_of_ble_eq_true rfl) (Nat.le_of_ble_eq_true rfl) dX1_init_25 (fun q_4 kk_4 H hK hP hD hS => ?_)
  have hP : va_P D vwCl [(h0, .inr (5, [.ref q_1, .null])), (q_1, .inr (4, [.int 0, .ref (ad 7), .int 0])), (q_3, .inr (9, [.int 0, .int 0, .int 0, .null])), (q_4, .inl (kk_4, 6, .inl (fun _ => 0)))] H := hP
  have hD : va_D A [(h0, .inr (5, [.ref q_1, .null])), (q_1, .inr (4, [.int 0, .ref (ad 7), .int 0])), (q_3, .inr (9, [.int 0, .int 0, .int 0, .null])), (q_4, .inl (kk_4, 6, .inl (fun _ => 0)))] := hD
  have hK : va_K D vwCl [(kk_4, .int)] s := hK
  refine kc_ (wc := [(q_3, .inr (9, [.int 0, .int 0, .int 0, .null]))]) (wr := [(h0, .inr (5, [.ref q_1, .null])), (q_1, .inr (4, [.int 0, .ref (ad 7), .int 0])), (q_4, .inl (kk_4, 6, .inl (fun _ => 0)))]) (va_runI (As := [.int 0, .int 0, .int 0, .ref q_4]) (rest := [.ref q_3, .ref h0]) ⟨hx, hb, hml, hown, hts⟩ (c_X6_init_0 l hl0 D ad H.size q_3 q_4 (.int 0) (.int 0) (.int 0) (.null)) (cwI 4 hts gX1_init_X6_init rfl rfl rfl (hts (.initialized RX6) (List.mem_of_getElem? (i := 10) (by decide +kernel))) (hts (.methodLink RX1 20 yX6_init) (List.mem_of_getElem? (i := 28) (by decide +kernel))) (hts (.instanceMethod yX6_init) (List.mem_of_getElem? (i := 29) (by decide +kernel))) rfl (by decide +kernel) ⟨Nat.le_of_ble_eq_true rfl, Nat.le_of_ble_eq_true rfl⟩) ⟨PC_.blind, PC_.pre hF hK hP hD hS hA [2] [] rfl (by decide) rfl⟩ rfl rfl hl.1 rfl (lv_room (Nat.le_of_ble_eq_true rfl)) dX1_init_27 ⟨Nat.le_of_ble_eq_true rfl, Nat.le_of_ble_eq_true rfl⟩) hK hP hD hS hA [2] [0, 1, 3] [0] rfl rfl (by decide) (by decide) rfl (fun qa_5 ka_5 ia_5 H locs hpo hP hD hK hS => ?_)
  have hP : va_P D vwCl [(h0, .inr (5, [.ref q_1, .null])), (q_1, .inr (4, [.int 0, .ref (ad 7), .int 0])), (q_4, .inl (kk_4, 6, .inl (fun _ => 0))), (q_3, .inr (9, [.int 0, .int 0, .int 0, .ref q_4]))] H := hP
  have hD : va_D A [(h0, .inr (5, [.ref q_1, .null])), (q_1, .inr (4, [.int 0, .ref (ad 7), .int 0])), (q_4, .inl (kk_4, 6, .inl (fun _ => 0))), (q_3, .inr (9, [.int 0, .int 0, .int 0, .ref q_4]))] := hD
  have hK : va_K D vwCl [(kk_4, .int)] s := hK
  refine W.eq (g2 := F0 m 30 ls [.ref q_3, .ref h0]) rfl ?_
  refine va_putF (D := D) (ci := 5) (v := .ref q_3) (ty := tyX1 1) (own := RX1) (C := RX1) (T := TX1) (N := 2) hx hb hts hi_X1 tyX1 tyX1_ok nmX1 hown hK hP hD hS 0 rfl rfl 1 (by decide) (hts (.fieldLink RX1 23 "CanalMaps$Archive" "blank" "LCanalMaps$Page;") (List.mem_of_getElem? (i := 12) (by decide +kernel))) (fun _ h9 => h9) rfl hin rfl (by decide +kernel) rfl rfl (Nat.le_of_ble_eq_true rfl) dX1_init_30 (fun H locs hP hD hS => ?_)
  have hP : va_P D vwCl [(h0, .inr (5, [.ref q_1, .ref q_3])), (q_1, .inr (4, [.int 0, .ref (ad 7), .int 0])), (q_4, .inl (kk_4, 6, .inl (fun _ => 0))), (q_3, .inr (9, [.int 0, .int 0, .int 0, .ref q_4]))] H := hP
  have hD : va_D A [(h0, .inr (5, [.ref q_1, .ref q_3])), (q_1, .inr (4, [.int 0, .ref (ad 7), .int 0])), (q_4, .inl (kk_4, 6, .inl (fun _ => 0))), (q_3, .inr (9, [.int 0, .int 0, .int 0, .ref q_4]))] := hD
  refine lv_aload_n hx hb dX1_init_33 rfl (lv_at hl 0 rfl) ?_
  refine va_get (D := D) (ci := 5) (v := .ref q_1) (own := RX1) (C := RX1) (T := TX1) (N := 2) hx hb hts hi_X1 hown hK hP 0 rfl rfl 0 (by decide) (hts (.fieldLink RX1 12 "CanalMaps$Archive" "pages" "Ljava/util/ArrayList;") (List.mem_of_getElem? (i := 7) (by decide +kernel))) (fun _ h9 => h9) rfl dX1_init_34 ?_
  refine lv_aload_n hx hb dX1_init_37 rfl (lv_at hl 0 rfl) ?_
  refine va_get (D := D) (ci := 5) (v := .ref q_3) (own := RX1) (C := RX1) (T := TX1) (N := 2) hx hb hts hi_X1 hown hK hP 0 rfl rfl 1 (by decide) (hts (.fieldLink RX1 23 "CanalMaps$Archive" "blank" "LCanalMaps$Page;") (List.mem_of_getElem? (i := 12) (by decide +kernel))) (fun _ h9 => h9) rfl dX1_init_38 ?_
  refine kc_ (wc := [(q_1, .inr (4, [.int 0, .ref (ad 7), .int 0])), (q_3, .inr (9, [.int 0, .int 0, .int 0, .ref q_4]))]) (wr := [(h0, .inr (5, [.ref q_1, .ref q_3])), (q_4, .inl (kk_4, 6, .inl (fun _ => 0)))]) (va_runV (As := [.ref q_3]) (rest := []) ⟨hx, hb, hml, hown, hts⟩ (c_Jx4a65c_add_9ea2d_0 l hl0 D ad H.size q_1 q_3 (.int 0) (.int 0) (.int 0) (.ref q_4)) (cwV 1 hts gX1_init_Jx4a65c_add_9ea2d rfl rfl rfl (by decide +kernel) ⟨Nat.le_of_ble_eq_true rfl, Nat.le_of_ble_eq_true rfl⟩) ⟨PC_.blind, va_recv hK hP (ci := 4) (q0 := 1) rfl rfl, PC_.pre hF hK hP hD hS hA [1, 3] [] rfl (by decide) rfl⟩ rfl rfl hl.1 rfl (lv_room (Nat.le_of_ble_eq_true rfl)) dX1_init_41 ⟨Nat.le_of_ble_eq_true rfl, Nat.le_of_ble_eq_true rfl⟩) hK hP hD hS hA [1, 3] [0, 2] [0] rfl rfl (by decide) (by decide) rfl (fun qa_6 ka_6 ia_6 H locs hpo hP hD hK hS => ?_)
  have hP : va_P D vwCl [(h0, .inr (5, [.ref q_1, .ref q_3])), (q_4, .inl (kk_4, 6, .inl (fun _ => 0))), (q_1, .inr (4, [.int 1, .ref (qa_6 0), .int 1])), (q_3, .inr (9, [.int 0, .int 0, .int 0, .ref q_4])), ((qa_6 0), .inl ((ka_6 0), 10, .inr (.inr (.inr (.inr (va_up (fun _ => none) 0 (some q_3)))))))] H := hP
  have hD : va_D A [(h0, .inr (5, [.ref q_1, .ref q_3])), (q_4, .inl (kk_4, 6, .inl (fun _ => 0))), (q_1, .inr (4, [.int 1, .ref (qa_6 0), .int 1])), (q_3, .inr (9, [.int 0, .int 0, .int 0, .ref q_4])), ((qa_6 0), .inl ((ka_6 0), 10, .inr (.inr (.inr (.inr (va_up (fun _ => none) 0 (some q_3)))))))] := hD
  have hK : va_K D vwCl [(kk_4, .int), ((ka_6 0), .object "java/lang/Object")] s := hK
  refine W.eq (g2 := F0 m 44 ls [.int 1]) rfl ?_
  refine lv_pop hx hb dX1_init_44 rfl ?_
  refine W.widen (k := 4) (n := 23) (Nat.le_of_ble_eq_true rfl) (Nat.le_of_ble_eq_true rfl) ?_
  exact W.vret hx hb hr (QG_.mk (fun n => [q_4, q_1, q_3, (qa_6 0)].getD n 0) (fun n => [kk_4, (ka_6 0)].getD n 0) (fun _ => 0) [0, 1, 2, 3, 4] [0, 1] hP hD hK hS rfl trivial rfl (by decide) rfl) hS.2.2 dX1_init_45
set_option maxHeartbeats 4000000 in
set_option maxRecDepth 100000 in
theorem c_X5_init_0 (l : Launch) (hl0 : l.stackTraces = false) (D : va_G) (ad : Nat → Nat) (sz : Nat) (h0 : Nat) (v0 : Value) (v1 : Value) (v2 : Value) : Met l yX5_init wsX5_init ({ frames := 1, cells := 1, slots := 64, locals := 40 }) (PC_ D ad [(h0, .inr (8, [v0, v1, v2]))] [] sz [.ref h0]) (QG_ D (fun q i => none) (fun q i => True) (fun q k i => [(h0, .inr (8, [.ref (q 0), .int 0, .int 0])), ((q 0), .inl ((k 0), 64, .inl (fun _ => 0)))]) (fun q k i => [((k 0), .int)]) (va_A [(h0, .inr (8, [v0, v1, v2]))] sz)) 1 64 (va_A [(h0, .inr (8, [v0, v1, v2]))] sz) := by
  refine Met.ofW (cc := cX5_init) (maxL := 1) (ret := none) (by decide) rfl ?_
  intro p e s m args below meth c s₁ B hml hv
  obtain ⟨rfl, hsz, hP, hK, hD0, hF⟩ := hv
  have hx := B.exec
  have hb := B.bytes
  have hr := B.returns
  have hts := atoms_spec (ws := wsX5_init) B.pre
  have hown : s.vm.findClass RX5 = some m.cls := findClass_of_methodNamed B.named
  have hlocks := B.notSynchronized
  have hin : meth.name = "<init>" := (name_of_methodNamed B.named B.method).1
  subst hsz
  have hD := hD0.self (sz := s.heap.size)
  generalize hAe : va_A [(h0, .inr (8, [v0, v1, v2]))] s.heap.size = A at hD hF ⊢
  have hA : ∀ q : Nat, s.heap.size ≤ q → A q := fun q h => by rw [← hAe]; exact Or.inr h
  obtain ⟨H, hHe⟩ : ∃ H : Heap, H = s.heap := ⟨_, rfl⟩
  have hS : va_S A s.heap H [] := by rw [hHe]; exact va_S.rf
  have hP : va_P D vwCl [(h0, .inr (8, [v0, v1, v2]))] H := by rw [hHe]; exact hP
  rw [← hHe]
  have hi_X5 : ∀ w ∈ wsX50, w ∈ wsX5_init := by decide +kernel
  have hl := lv_entry [.ref h0] (n := 1) (Nat.le_of_ble_eq_true rfl)
  rw [lg_entry_eq]
  generalize (lg_sl [.ref h0] ++ List.replicate (1 - (lg_sl [.ref h0]).length) Slot.unset).toArray = ls at hl ⊢
  have hl : lv_has ls 1 [(0, .ref h0)] := hl
  refine lv_aload_n hx hb dX5_init_0 rfl (lv_at hl 0 rfl) ?_
  refine W.objInit hx hb hown (hts (.methodLink RX5 3 objectInit) (List.mem_of_getElem? (i := 1) (by decide +kernel))) (hts (.instanceMethod objectInit) (List.mem_of_getElem? (i := 2) (by decide +kernel))) (hts (.code objectInit ⟨#[0xb1]⟩ 1 none) (List.mem_of_getElem? (i := 3) (by decide +kernel))) rfl (by rw [hml]; exact hl.1) rfl dX5_init_1 (Nat.le_of_ble_eq_true rfl) (Nat.le_of_ble_eq_true rfl) ?_
  refine W.eq (g2 := F0 m 4 ls []) rfl ?_
  refine lv_aload_n hx hb dX5_init_4 rfl (lv_at hl 0 rfl) ?_
  refine lv_bipush (v := 64) hx hb dX5_init_5 (by decide) ?_
  refine va_newa (atype := .int) hx hb (hts (.arrayClass .int) (List.mem_of_getElem? (i := 4) (by decide +kernel))) rfl hK hP hD hS hA (a0 := (64, .inl (fun _ => 0))) (fun _ => rfl) (by decide +kernel) (by decide +kernel) (Nat.le_of_ble_eq_true rfl) (Nat.le_of_ble_eq_true rfl) (Nat.le_of_ble_eq_true rfl) dX5_init_7 (fun q_1 kk_1 H hK hP hD hS => ?_)
  have hP : va_P D vwCl [(h0, .inr (8, [v0, v1, v2])), (q_1, .inl (kk_1, 64, .inl (fun _ => 0)))] H := hP
  have hD : va_D A [(h0, .inr (8, [v0, v1, v2])), (q_1, .inl (kk_1, 64, .inl (fun _ => 0)))] := hD
  have hK : va_K D vwCl [(kk_1, .int)] s := hK
  refine va_put (D := D) (ci := 8) (v := .ref q_1) (ty := tyX5 0) (own := RX5) (C := RX5) (T := TX5) (N := 3) hx hb hts hi_X5 tyX5 tyX5_ok nmX5 hown hK hP hD hS 0 rfl rfl 0 (by decide) (hts (.fieldLink RX5 11 "CanalMaps$Letters" "packed" "[I") (List.mem_of_getElem? (i := 5) (by decide +kernel))) (fun _ h9 => h9) rfl (by decide +kernel) rfl rfl (Nat.le_of_ble_eq_true rfl) dX5_init_9 (fun H locs hP hD hS => ?_)
  have hP : va_P D vwCl [(h0, .inr (8, [.ref q_1, v1, v2])), (q_1, .inl (kk_1, 64, .inl (fun _ => 0)))] H := hP
  have hD : va_D A [(h0, .inr (8, [.ref q_1, v1, v2])), (q_1, .inl (kk_1, 64, .inl (fun _ => 0)))] := hD
  refine lv_aload_n hx hb dX5_init_12 rfl (lv_at hl 0 rfl) ?_
  refine lv_iconst (v := 0) hx hb dX5_init_13 (by decide) ?_
  refine va_put (D := D) (ci := 8) (v := .int 0) (ty := .int) (own := RX5) (C := RX5) (T := TX5) (N := 3) hx hb hts hi_X5 tyX5 tyX5_ok nmX5 hown hK hP hD hS 0 rfl rfl 1 (by decide) (hts (.fieldLink RX5 15 "CanalMaps$Letters" "count" "I") (List.mem_of_getElem? (i := 6) (by decide +kernel))) (fun _ h9 => h9) rfl (by decide +kernel) rfl rfl (Nat.le_of_ble_eq_true rfl) dX5_init_14 (fun H locs hP hD hS => ?_)
  have hP : va_P D vwCl [(h0, .inr (8, [.ref q_1, .int 0, v2])), (q_1, .inl (kk_1, 64, .inl (fun _ => 0)))] H := hP
  have hD : va_D A [(h0, .inr (8, [.ref q_1, .int 0, v2])), (q_1, .inl (kk_1, 64, .inl (fun _ => 0)))] := hD
  refine lv_aload_n hx hb dX5_init_17 rfl (lv_at hl 0 rfl) ?_
  refine lv_iconst (v := 0) hx hb dX5_init_18 (by decide) ?_
  refine va_put (D := D) (ci := 8) (v := .int 0) (ty := .int) (own := RX5) (C := RX5) (T := TX5) (N := 3) hx hb hts hi_X5 tyX5 tyX5_ok nmX5 hown hK hP hD hS 0 rfl rfl 2 (by decide) (hts (.fieldLink RX5 19 "CanalMaps$Letters" "sent" "I") (List.mem_of_getElem? (i := 7) (by decide +kernel))) (fun _ h9 => h9) rfl (by decide +kernel) rfl rfl (Nat.le_of_ble_eq_true rfl) dX5_init_19 (fun H locs hP hD hS => ?_)
  have hP : va_P D vwCl [(h0, .inr (8, [.ref q_1, .int 0, .int 0])), (q_1, .inl (kk_1, 64, .inl (fun _ => 0)))] H := hP
  have hD : va_D A [(h0, .inr (8, [.ref q_1, .int 0, .int 0])), (q_1, .inl (kk_1, 64, .inl (fun _ => 0)))] := hD
  refine W.widen (k := 1) (n := 64) (Nat.le_of_ble_eq_true rfl) (Nat.le_of_ble_eq_true rfl) ?_
  exact W.vret hx hb hr (QG_.mk (fun n => [q_1].getD n 0) (fun n => [kk_1].getD n 0) (fun _ => 0) [0, 1] [0] hP hD hK hS rfl trivial rfl (by decide) rfl) hS.2.2 dX5_init_22
set_option maxHeartbeats 4000000 in
set_option maxRecDepth 100000 in
theorem c_X8_init_0 (l : Launch) (hl0 : l.stackTraces = false) (D : va_G) (ad : Nat → Nat) (sz : Nat) (h0 : Nat) (r0 : Nat) (v0 : Value) (v1 : Value) (v2 : Value) (v3 : Value) (v4 : Value) (v5 : Value) (v6 : Value) (v7 : Value) (v8 : Value) (v9 : Value) : Met l yX8_init wsX8_init ({ frames := 2, cells := 5, slots := 145, locals := 62 }) (PC_ D ad [(h0, .inr (11, [v0, v1, v2, v3, v4, v5, v6, v7, v8, v9]))] [] sz [.ref h0, .ref r0]) (QG_ D (fun q i => none) (fun q i => True) (fun q k i => [(h0, .inr (11, [.ref r0, .ref (q 0), .ref (q 1), .ref (q 2), .ref (q 3), .int 0, .int 0, .int 0, .int 0, .int 0])), ((q 0), .inl ((k 0), 6, .inl (fun _ => 0))), ((q 1), .inl ((k 1), 36, .inl (fun _ => 0))), ((q 2), .inl ((k 2), 36, .inl (fun _ => 0))), ((q 3), .inr (8, [.ref (q 4), .int 0, .int 0])), ((q 4), .inl ((k 3), 64, .inl (fun _ => 0)))]) (fun q k i => [((k 0), .int), ((k 1), .int), ((k 2), .int), ((k 3), .int)]) (va_A [(h0, .inr (11, [v0, v1, v2, v3, v4, v5, v6, v7, v8, v9]))] sz)) 5 145 (va_A [(h0, .inr (11, [v0, v1, v2, v3, v4, v5, v6, v7, v8, v9]))] sz) := by
  refine Met.ofW (cc := cX8_init) (maxL := 2) (ret := none) (by decide) rfl ?_
  intro p e s m args below meth c s₁ B hml hv
  obtain ⟨rfl, hsz, hP, hK, hD0, hF⟩ := hv
  have hx := B.exec
  have hb := B.bytes
  have hr := B.returns
  have hts := atoms_spec (ws := wsX8_init) B.pre
  have hown : s.vm.findClass RX8 = some m.cls := findClass_of_methodNamed B.named
  have hlocks := B.notSynchronized
  have hin : meth.name = "<init>" := (name_of_methodNamed B.named B.method).1
  subst hsz
  have hD := hD0.self (sz := s.heap.size)
  generalize hAe : va_A [(h0, .inr (11, [v0, v1, v2, v3, v4, v5, v6, v7, v8, v9]))] s.heap.size = A at hD hF ⊢
  have hA : ∀ q : Nat, s.heap.size ≤ q → A q := fun q h => by rw [← hAe]; exact Or.inr h
  obtain ⟨H, hHe⟩ : ∃ H : Heap, H = s.heap := ⟨_, rfl⟩
  have hS : va_S A s.heap H [] := by rw [hHe]; exact va_S.rf
  have hP : va_P D vwCl [(h0, .inr (11, [v0, v1, v2, v3, v4, v5, v6, v7, v8, v9]))] H := by rw [hHe]; exact hP
  rw [← hHe]
  have hi_X5 : ∀ w ∈ wsX50, w ∈ wsX8_init := by decide +kernel
  have hi_X8 : ∀ w ∈ wsX80, w ∈ wsX8_init := by decide +kernel
  have hl := lv_entry [.ref h0, .ref r0] (n := 2) (Nat.le_of_ble_eq_true rfl)
  rw [lg_entry_eq]
  generalize (lg_sl [.ref h0, .ref r0] ++ List.replicate (2 - (lg_sl [.ref h0, .ref r0]).length) Slot.unset).toArray = ls at hl ⊢
  have hl : lv_has ls 2 [(0, .ref h0), (1, .ref r0)] := hl
  refine lv_aload_n hx hb dX8_init_0 rfl (lv_at hl 0 rfl) ?_
  refine W.objInit hx hb hown (hts (.methodLink RX8 3 objectInit) (List.mem_of_getElem? (i := 1) (by decide +kernel))) (hts (.instanceMethod objectInit) (List.mem_of_getElem? (i := 2) (by decide +kernel))) (hts (.code objectInit ⟨#[0xb1]⟩ 1 none) (List.mem_of_getElem? (i := 3) (by decide +kernel))) rfl (by rw [hml]; exact hl.1) rfl dX8_init_1 (Nat.le_of_ble_eq_true rfl) (Nat.le_of_ble_eq_true rfl) ?_
  refine W.eq (g2 := F0 m 4 ls []) rfl ?_
  refine lv_aload_n hx hb dX8_init_4 rfl (lv_at hl 0 rfl) ?_
  refine lv_bipush (v := 6) hx hb dX8_init_5 (by decide) ?_
  refine va_newa (atype := .int) hx hb (hts (.arrayClass .int) (List.mem_of_getElem? (i := 4) (by decide +kernel))) rfl hK hP hD hS hA (a0 := (6, .inl (fun _ => 0))) (fun _ => rfl) (by decide +kernel) (by decide +kernel) (Nat.le_of_ble_eq_true rfl) (Nat.le_of_ble_eq_true rfl) (Nat.le_of_ble_eq_true rfl) dX8_init_7 (fun q_1 kk_1 H hK hP hD hS => ?_)
  have hP : va_P D vwCl [(h0, .inr (11, [v0, v1, v2, v3, v4, v5, v6, v7, v8, v9])), (q_1, .inl (kk_1, 6, .inl (fun _ => 0)))] H := hP
  have hD : va_D A [(h0, .inr (11, [v0, v1, v2, v3, v4, v5, v6, v7, v8, v9])), (q_1, .inl (kk_1, 6, .inl (fun _ => 0)))] := hD
  have hK : va_K D vwCl [(kk_1, .int)] s := hK
  refine va_putF (D := D) (ci := 11) (v := .ref q_1) (ty := tyX8 1) (own := RX8) (C := RX8) (T := TX8) (N := 10) hx hb hts hi_X8 tyX8 tyX8_ok nmX8 hown hK hP hD hS 0 rfl rfl 1 (by decide) (hts (.fieldLink RX8 9 "CanalMaps$Survey" "districts" "[I") (List.mem_of_getElem? (i := 5) (by decide +kernel))) (fun _ h9 => h9) rfl hin rfl (by decide +kernel) rfl rfl (Nat.le_of_ble_eq_true rfl) dX8_init_9 (fun H locs hP hD hS => ?_)
  have hP : va_P D vwCl [(h0, .inr (11, [v0, .ref q_1, v2, v3, v4, v5, v6, v7, v8, v9])), (q_1, .inl (kk_1, 6, .inl (fun _ => 0)))] H := hP
  have hD : va_D A [(h0, .inr (11, [v0, .ref q_1, v2, v3, v4, v5, v6, v7, v8, v9])), (q_1, .inl (kk_1, 6, .inl (fun _ => 0)))] := hD
  refine lv_aload_n hx hb dX8_init_12 rfl (lv_at hl 0 rfl) ?_
  refine lv_bipush (v := 36) hx hb dX8_init_13 (by decide) ?_
  refine va_newa (atype := .int) hx hb (hts (.arrayClass .int) (List.mem_of_getElem? (i := 4) (by decide +kernel))) rfl hK hP hD hS hA (a0 := (36, .inl (fun _ => 0))) (fun _ => rfl) (by decide +kernel) (by decide +kernel) (Nat.le_of_ble_eq_true rfl) (Nat.le_of_ble_eq_true rfl) (Nat.le_of_ble_eq_true rfl) dX8_init_15 (fun q_2 kk_2 H hK hP hD hS => ?_)
  have hP : va_P D vwCl [(h0, .inr (11, [v0, .ref q_1, v2, v3, v4, v5, v6, v7, v8, v9])), (q_1, .inl (kk_1, 6, .inl (fun _ => 0))), (q_2, .inl (kk_2, 36, .inl (fun _ => 0)))] H := hP
  have hD : va_D A [(h0, .inr (11, [v0, .ref q_1, v2, v3, v4, v5, v6, v7, v8, v9])), (q_1, .inl (kk_1, 6, .inl (fun _ => 0))), (q_2, .inl (kk_2, 36, .inl (fun _ => 0)))] := hD
  have hK : va_K D vwCl [(kk_1, .int), (kk_2, .int)] s := hK
  refine va_putF (D := D) (ci := 11) (v := .ref q_2) (ty := tyX8 2) (own := RX8) (C := RX8) (T := TX8) (N := 10) hx hb hts hi_X8 tyX8 tyX8_ok nmX8 hown hK hP hD hS 0 rfl rfl 2 (by decide) (hts (.fieldLink RX8 15 "CanalMaps$Survey" "costs" "[I") (List.mem_of_getElem? (i := 6) (by decide +kernel))) (fun _ h9 => h9) rfl hin rfl (by decide +kernel) rfl rfl (Nat.le_of_ble_eq_true rfl) dX8_init_17 (fun H locs hP hD hS => ?_)
  have hP : va_P D vwCl [(h0, .inr (11, [v0, .ref q_1, .ref q_2, v3, v4, v5, v6, v7, v8, v9])), (q_1, .inl (kk_1, 6, .inl (fun _ => 0))), (q_2, .inl (kk_2, 36, .inl (fun _ => 0)))] H := hP
  have hD : va_D A [(h0, .inr (11, [v0, .ref q_1, .ref q_2, v3, v4, v5, v6, v7, v8, v9])), (q_1, .inl (kk_1, 6, .inl (fun _ => 0))), (q_2, .inl (kk_2, 36, .inl (fun _ => 0)))] := hD
  refine lv_aload_n hx hb dX8_init_20 rfl (lv_at hl 0 rfl) ?_
  refine lv_bipush (v := 36) hx hb dX8_init_21 (by decide) ?_
  refine va_newa (atype := .int) hx hb (hts (.arrayClass .int) (List.mem_of_getElem? (i := 4) (by decide +kernel))) rfl hK hP hD hS hA (a0 := (36, .inl (fun _ => 0))) (fun _ => rfl) (by decide +kernel) (by decide +kernel) (Nat.le_of_ble_eq_true rfl) (Nat.le_of_ble_eq_true rfl) (Nat.le_of_ble_eq_true rfl) dX8_init_23 (fun q_3 kk_3 H hK hP hD hS => ?_)
  have hP : va_P D vwCl [(h0, .inr (11, [v0, .ref q_1, .ref q_2, v3, v4, v5, v6, v7, v8, v9])), (q_1, .inl (kk_1, 6, .inl (fun _ => 0))), (q_2, .inl (kk_2, 36, .inl (fun _ => 0))), (q_3, .inl (kk_3, 36, .inl (fun _ => 0)))] H := hP
  have hD : va_D A [(h0, .inr (11, [v0, .ref q_1, .ref q_2, v3, v4, v5, v6, v7, v8, v9])), (q_1, .inl (kk_1, 6, .inl (fun _ => 0))), (q_2, .inl (kk_2, 36, .inl (fun _ => 0))), (q_3, .inl (kk_3, 36, .inl (fun _ => 0)))] := hD
  have hK : va_K D vwCl [(kk_1, .int), (kk_2, .int), (kk_3, .int)] s := hK
  refine va_putF (D := D) (ci := 11) (v := .ref q_3) (ty := tyX8 3) (own := RX8) (C := RX8) (T := TX8) (N := 10) hx hb hts hi_X8 tyX8 tyX8_ok nmX8 hown hK hP hD hS 0 rfl rfl 3 (by decide) (hts (.fieldLink RX8 18 "CanalMaps$Survey" "maps" "[I") (List.mem_of_getElem? (i := 7) (by decide +kernel))) (fun _ h9 => h9) rfl hin rfl (by decide +kernel) rfl rfl (Nat.le_of_ble_eq_true rfl) dX8_init_25 (fun H locs hP hD hS => ?_)
  have hP : va_P D vwCl [(h0, .inr (11, [v0, .ref q_1, .ref q_2, .ref q_3, v4, v5, v6, v7, v8, v9])), (q_1, .inl (kk_1, 6, .inl (fun _ => 0))), (q_2, .inl (kk_2, 36, .inl (fun _ => 0))), (q_3, .inl (kk_3, 36, .inl (fun _ => 0)))] H := hP
  have hD : va_D A [(h0, .inr (11, [v0, .ref q_1, .ref q_2, .ref q_3, v4, v5, v6, v7, v8, v9])), (q_1, .inl (kk_1, 6, .inl (fun _ => 0))), (q_2, .inl (kk_2, 36, .inl (fun _ => 0))), (q_3, .inl (kk_3, 36, .inl (fun _ => 0)))] := hD
  refine lv_aload_n hx hb dX8_init_28 rfl (lv_at hl 0 rfl) ?_
  refine va_new (ci := 8) (fs := [.null, .int 0, .int 0]) (own := RX8) (C := RX5) (T := TX5) (N := 3) hx hb hts hi_X5 tyX5 tyX5_ok hown (hts (.classLink RX8 21 RX5) (List.mem_of_getElem? (i := 8) (by decide +kernel))) (hts (.instantiable RX5 3) (List.mem_of_getElem? (i := 9) (by decide +kernel))) (hts (.initialized RX5) (List.mem_of_getElem? (i := 10) (by decide +kernel))) hK hP hD hS hA rfl (fun j hj => by rcases (show j = 0 ∨ j = 1 ∨ j = 2 by omega) with rfl | rfl | rfl <;> rfl) (Nat.le_of_ble_eq_true rfl) (Nat.le_of_ble_eq_true rfl) dX8_init_29 (fun q_4 H hP hD hS => ?_)
  have hP : va_P D vwCl [(h0, .inr (11, [v0, .ref q_1, .ref q_2, .ref q_3, v4, v5, v6, v7, v8, v9])), (q_1, .inl (kk_1, 6, .inl (fun _ => 0))), (q_2, .inl (kk_2, 36, .inl (fun _ => 0))), (q_3, .inl (kk_3, 36, .inl (fun _ => 0))), (q_4, .inr (8, [.null, .int 0, .int 0]))] H := hP
  have hD : va_D A [(h0, .inr (11, [v0, .ref q_1, .ref q_2, .ref q_3, v4, v5, v6, v7, v8, v9])), (q_1, .inl (kk_1, 6, .inl (fun _ => 0))), (q_2, .inl (kk_2, 36, .inl (fun _ => 0))), (q_3, .inl (kk_3, 36, .inl (fun _ => 0))), (q_4, .inr (8, [.null, .int 0, .int 0]))] := hD
  refine lv_dup hx hb dX8_init_32 rfl ?_
  refine kc_ (wc := [(q_4, .inr (8, [.null, .int 0, .int 0]))]) (wr := [(h0, .inr (11, [v0, .ref q_1, .ref q_2, .ref q_3, v4, v5, v6, v7, v8, v9])), (q_1, .inl (kk_1, 6, .inl (fun _ => 0))), (q_2, .inl (kk_2, 36, .inl (fun _ => 0))), (q_3, .inl (kk_3, 36, .inl (fun _ => 0)))]) (va_runIN (As := []) (rest := [.ref q_4, .ref h0]) ⟨hx, hb, hml, hown, hts⟩ (c_X5_init_0 l hl0 D ad H.size q_4 (.null) (.int 0) (.int 0)) ⟨va_cnB 0 hts gX8_init_X5_init_n23 rfl rfl rfl (fxm_ hF (RX8, 23, yX5_init)) (hts (.initialized RX5) (List.mem_of_getElem? (i := 10) (by decide +kernel))) (by decide +kernel) ⟨Nat.le_of_ble_eq_true rfl, Nat.le_of_ble_eq_true rfl⟩, rfl, (hts (.instanceMethod yX5_init) (List.mem_of_getElem? (i := 18) (by decide +kernel)))⟩ ⟨PC_.blind, PC_.pre hF hK hP hD hS hA [4] [] rfl (by decide) rfl⟩ rfl rfl hl.1 rfl (lv_room (Nat.le_of_ble_eq_true rfl)) dX8_init_33 ⟨Nat.le_of_ble_eq_true rfl, Nat.le_of_ble_eq_true rfl⟩) hK hP hD hS hA [4] [0, 1, 2, 3] [0, 1, 2] rfl rfl (by decide) (by decide) rfl (fun qa_5 ka_5 ia_5 H locs hpo hP hD hK hS => ?_)
  have hP : va_P D vwCl [(h0, .inr (11, [v0, .ref q_1, .ref q_2, .ref q_3, v4, v5, v6, v7, v8, v9])), (q_1, .inl (kk_1, 6, .inl (fun _ => 0))), (q_2, .inl (kk_2, 36, .inl (fun _ => 0))), (q_3, .inl (kk_3, 36, .inl (fun _ => 0))), (q_4, .inr (8, [.ref (qa_5 0), .int 0, .int 0])), ((qa_5 0), .inl ((ka_5 0), 64, .inl (fun _ => 0)))] H := hP
  have hD : va_D A [(h0, .inr (11, [v0, .ref q_1, .ref q_2, .ref q_3, v4, v5, v6, v7, v8, v9])), (q_1, .inl (kk_1, 6, .inl (fun _ => 0))), (q_2, .inl (kk_2, 36, .inl (fun _ => 0))), (q_3, .inl (kk_3, 36, .inl (fun _ => 0))), (q_4, .inr (8, [.ref (qa_5 0), .int 0, .int 0])), ((qa_5 0), .inl ((ka_5 0), 64, .inl (fun _ => 0)))] := hD
  have hK : va_K D vwCl [(kk_1, .int), (kk_2, .int), (kk_3, .int), ((ka_5 0), .int)] s := hK
  refine W.eq (g2 := F0 m 36 ls [.ref q_4, .ref h0]) rfl ?_
  refine va_putF (D := D) (ci := 11) (v := .ref q_4) (ty := tyX8 4) (own := RX8) (C := RX8) (T := TX8) (N := 10) hx hb hts hi_X8 tyX8 tyX8_ok nmX8 hown hK hP hD hS 0 rfl rfl 4 (by decide) (hts (.fieldLink RX8 24 "CanalMaps$Survey" "letters" "LCanalMaps$Letters;") (List.mem_of_getElem? (i := 11) (by decide +kernel))) (fun _ h9 => h9) rfl hin rfl (by decide +kernel) rfl rfl (Nat.le_of_ble_eq_true rfl) dX8_init_36 (fun H locs hP hD hS => ?_)
  have hP : va_P D vwCl [(h0, .inr (11, [v0, .ref q_1, .ref q_2, .ref q_3, .ref q_4, v5, v6, v7, v8, v9])), (q_1, .inl (kk_1, 6, .inl (fun _ => 0))), (q_2, .inl (kk_2, 36, .inl (fun _ => 0))), (q_3, .inl (kk_3, 36, .inl (fun _ => 0))), (q_4, .inr (8, [.ref (qa_5 0), .int 0, .int 0])), ((qa_5 0), .inl ((ka_5 0), 64, .inl (fun _ => 0)))] H := hP
  have hD : va_D A [(h0, .inr (11, [v0, .ref q_1, .ref q_2, .ref q_3, .ref q_4, v5, v6, v7, v8, v9])), (q_1, .inl (kk_1, 6, .inl (fun _ => 0))), (q_2, .inl (kk_2, 36, .inl (fun _ => 0))), (q_3, .inl (kk_3, 36, .inl (fun _ => 0))), (q_4, .inr (8, [.ref (qa_5 0), .int 0, .int 0])), ((qa_5 0), .inl ((ka_5 0), 64, .inl (fun _ => 0)))] := hD
  refine lv_aload_n hx hb dX8_init_39 rfl (lv_at hl 0 rfl) ?_
  refine lv_iconst (v := 0) hx hb dX8_init_40 (by decide) ?_
  refine va_put (D := D) (ci := 11) (v := .int 0) (ty := .int) (own := RX8) (C := RX8) (T := TX8) (N := 10) hx hb hts hi_X8 tyX8 tyX8_ok nmX8 hown hK hP hD hS 0 rfl rfl 5 (by decide) (hts (.fieldLink RX8 28 "CanalMaps$Survey" "surveyors" "I") (List.mem_of_getElem? (i := 12) (by decide +kernel))) (fun _ h9 => h9) rfl (by decide +kernel) rfl rfl (Nat.le_of_ble_eq_true rfl) dX8_init_41 (fun H locs hP hD hS => ?_)
  have hP : va_P D vwCl [(h0, .inr (11, [v0, .ref q_1, .ref q_2, .ref q_3, .ref q_4, .int 0, v6, v7, v8, v9])), (q_1, .inl (kk_1, 6, .inl (fun _ => 0))), (q_2, .inl (kk_2, 36, .inl (fun _ => 0))), (q_3, .inl (kk_3, 36, .inl (fun _ => 0))), (q_4, .inr (8, [.ref (qa_5 0), .int 0, .int 0])), ((qa_5 0), .inl ((ka_5 0), 64, .inl (fun _ => 0)))] H := hP
  have hD : va_D A [(h0, .inr (11, [v0, .ref q_1, .ref q_2, .ref q_3, .ref q_4, .int 0, v6, v7, v8, v9])), (q_1, .inl (kk_1, 6, .inl (fun _ => 0))), (q_2, .inl (kk_2, 36, .inl (fun _ => 0))), (q_3, .inl (kk_3, 36, .inl (fun _ => 0))), (q_4, .inr (8, [.ref (qa_5 0), .int 0, .int 0])), ((qa_5 0), .inl ((ka_5 0), 64, .inl (fun _ => 0)))] := hD
  refine lv_aload_n hx hb dX8_init_44 rfl (lv_at hl 0 rfl) ?_
  refine lv_iconst (v := 0) hx hb dX8_init_45 (by decide) ?_
  refine va_put (D := D) (ci := 11) (v := .int 0) (ty := .int) (own := RX8) (C := RX8) (T := TX8) (N := 10) hx hb hts hi_X8 tyX8 tyX8_ok nmX8 hown hK hP hD hS 0 rfl rfl 6 (by decide) (hts (.fieldLink RX8 32 "CanalMaps$Survey" "ticks" "I") (List.mem_of_getElem? (i := 13) (by decide +kernel))) (fun _ h9 => h9) rfl (by decide +kernel) rfl rfl (Nat.le_of_ble_eq_true rfl) dX8_init_46 (fun H locs hP hD hS => ?_)
  have hP : va_P D vwCl [(h0, .inr (11, [v0, .ref q_1, .ref q_2, .ref q_3, .ref q_4, .int 0, .int 0, v7, v8, v9])), (q_1, .inl (kk_1, 6, .inl (fun _ => 0))), (q_2, .inl (kk_2, 36, .inl (fun _ => 0))), (q_3, .inl (kk_3, 36, .inl (fun _ => 0))), (q_4, .inr (8, [.ref (qa_5 0), .int 0, .int 0])), ((qa_5 0), .inl ((ka_5 0), 64, .inl (fun _ => 0)))] H := hP
  have hD : va_D A [(h0, .inr (11, [v0, .ref q_1, .ref q_2, .ref q_3, .ref q_4, .int 0, .int 0, v7, v8, v9])), (q_1, .inl (kk_1, 6, .inl (fun _ => 0))), (q_2, .inl (kk_2, 36, .inl (fun _ => 0))), (q_3, .inl (kk_3, 36, .inl (fun _ => 0))), (q_4, .inr (8, [.ref (qa_5 0), .int 0, .int 0])), ((qa_5 0), .inl ((ka_5 0), 64, .inl (fun _ => 0)))] := hD
  refine lv_aload_n hx hb dX8_init_49 rfl (lv_at hl 0 rfl) ?_
  refine lv_iconst (v := 0) hx hb dX8_init_50 (by decide) ?_
  refine va_put (D := D) (ci := 11) (v := .int 0) (ty := .int) (own := RX8) (C := RX8) (T := TX8) (N := 10) hx hb hts hi_X8 tyX8 tyX8_ok nmX8 hown hK hP hD hS 0 rfl rfl 7 (by decide) (hts (.fieldLink RX8 35 "CanalMaps$Survey" "arrived" "I") (List.mem_of_getElem? (i := 14) (by decide +kernel))) (fun _ h9 => h9) rfl (by decide +kernel) rfl rfl (Nat.le_of_ble_eq_true rfl) dX8_init_51 (fun H locs hP hD hS => ?_)
  have hP : va_P D vwCl [(h0, .inr (11, [v0, .ref q_1, .ref q_2, .ref q_3, .ref q_4, .int 0, .int 0, .int 0, v8, v9])), (q_1, .inl (kk_1, 6, .inl (fun _ => 0))), (q_2, .inl (kk_2, 36, .inl (fun _ => 0))), (q_3, .inl (kk_3, 36, .inl (fun _ => 0))), (q_4, .inr (8, [.ref (qa_5 0), .int 0, .int 0])), ((qa_5 0), .inl ((ka_5 0), 64, .inl (fun _ => 0)))] H := hP
  have hD : va_D A [(h0, .inr (11, [v0, .ref q_1, .ref q_2, .ref q_3, .ref q_4, .int 0, .int 0, .int 0, v8, v9])), (q_1, .inl (kk_1, 6, .inl (fun _ => 0))), (q_2, .inl (kk_2, 36, .inl (fun _ => 0))), (q_3, .inl (kk_3, 36, .inl (fun _ => 0))), (q_4, .inr (8, [.ref (qa_5 0), .int 0, .int 0])), ((qa_5 0), .inl ((ka_5 0), 64, .inl (fun _ => 0)))] := hD
  refine lv_aload_n hx hb dX8_init_54 rfl (lv_at hl 0 rfl) ?_
  refine lv_iconst (v := 0) hx hb dX8_init_55 (by decide) ?_
  refine va_put (D := D) (ci := 11) (v := .int 0) (ty := .int) (own := RX8) (C := RX8) (T := TX8) (N := 10) hx hb hts hi_X8 tyX8 tyX8_ok nmX8 hown hK hP hD hS 0 rfl rfl 8 (by decide) (hts (.fieldLink RX8 38 "CanalMaps$Survey" "lost" "I") (List.mem_of_getElem? (i := 15) (by decide +kernel))) (fun _ h9 => h9) rfl (by decide +kernel) rfl rfl (Nat.le_of_ble_eq_true rfl) dX8_init_56 (fun H locs hP hD hS => ?_)
  have hP : va_P D vwCl [(h0, .inr (11, [v0, .ref q_1, .ref q_2, .ref q_3, .ref q_4, .int 0, .int 0, .int 0, .int 0, v9])), (q_1, .inl (kk_1, 6, .inl (fun _ => 0))), (q_2, .inl (kk_2, 36, .inl (fun _ => 0))), (q_3, .inl (kk_3, 36, .inl (fun _ => 0))), (q_4, .inr (8, [.ref (qa_5 0), .int 0, .int 0])), ((qa_5 0), .inl ((ka_5 0), 64, .inl (fun _ => 0)))] H := hP
  have hD : va_D A [(h0, .inr (11, [v0, .ref q_1, .ref q_2, .ref q_3, .ref q_4, .int 0, .int 0, .int 0, .int 0, v9])), (q_1, .inl (kk_1, 6, .inl (fun _ => 0))), (q_2, .inl (kk_2, 36, .inl (fun _ => 0))), (q_3, .inl (kk_3, 36, .inl (fun _ => 0))), (q_4, .inr (8, [.ref (qa_5 0), .int 0, .int 0])), ((qa_5 0), .inl ((ka_5 0), 64, .inl (fun _ => 0)))] := hD
  refine lv_aload_n hx hb dX8_init_59 rfl (lv_at hl 0 rfl) ?_
  refine lv_iconst (v := 0) hx hb dX8_init_60 (by decide) ?_
  refine va_put (D := D) (ci := 11) (v := .int 0) (ty := .int) (own := RX8) (C := RX8) (T := TX8) (N := 10) hx hb hts hi_X8 tyX8 tyX8_ok nmX8 hown hK hP hD hS 0 rfl rfl 9 (by decide) (hts (.fieldLink RX8 41 "CanalMaps$Survey" "made" "I") (List.mem_of_getElem? (i := 16) (by decide +kernel))) (fun _ h9 => h9) rfl (by decide +kernel) rfl rfl (Nat.le_of_ble_eq_true rfl) dX8_init_61 (fun H locs hP hD hS => ?_)
  have hP : va_P D vwCl [(h0, .inr (11, [v0, .ref q_1, .ref q_2, .ref q_3, .ref q_4, .int 0, .int 0, .int 0, .int 0, .int 0])), (q_1, .inl (kk_1, 6, .inl (fun _ => 0))), (q_2, .inl (kk_2, 36, .inl (fun _ => 0))), (q_3, .inl (kk_3, 36, .inl (fun _ => 0))), (q_4, .inr (8, [.ref (qa_5 0), .int 0, .int 0])), ((qa_5 0), .inl ((ka_5 0), 64, .inl (fun _ => 0)))] H := hP
  have hD : va_D A [(h0, .inr (11, [v0, .ref q_1, .ref q_2, .ref q_3, .ref q_4, .int 0, .int 0, .int 0, .int 0, .int 0])), (q_1, .inl (kk_1, 6, .inl (fun _ => 0))), (q_2, .inl (kk_2, 36, .inl (fun _ => 0))), (q_3, .inl (kk_3, 36, .inl (fun _ => 0))), (q_4, .inr (8, [.ref (qa_5 0), .int 0, .int 0])), ((qa_5 0), .inl ((ka_5 0), 64, .inl (fun _ => 0)))] := hD
  refine lv_aload_n hx hb dX8_init_64 rfl (lv_at hl 0 rfl) ?_
  refine lv_aload_n hx hb dX8_init_65 rfl (lv_at hl 1 rfl) ?_
  refine va_putF (D := D) (ci := 11) (v := .ref r0) (ty := tyX8 0) (own := RX8) (C := RX8) (T := TX8) (N := 10) hx hb hts hi_X8 tyX8 tyX8_ok nmX8 hown hK hP hD hS 0 rfl rfl 0 (by decide) (hts (.fieldLink RX8 44 "CanalMaps$Survey" "archive" "LCanalMaps$Archive;") (List.mem_of_getElem? (i := 17) (by decide +kernel))) (fun _ h9 => h9) rfl hin rfl (by decide +kernel) rfl rfl (Nat.le_of_ble_eq_true rfl) dX8_init_66 (fun H locs hP hD hS => ?_)
  have hP : va_P D vwCl [(h0, .inr (11, [.ref r0, .ref q_1, .ref q_2, .ref q_3, .ref q_4, .int 0, .int 0, .int 0, .int 0, .int 0])), (q_1, .inl (kk_1, 6, .inl (fun _ => 0))), (q_2, .inl (kk_2, 36, .inl (fun _ => 0))), (q_3, .inl (kk_3, 36, .inl (fun _ => 0))), (q_4, .inr (8, [.ref (qa_5 0), .int 0, .int 0])), ((qa_5 0), .inl ((ka_5 0), 64, .inl (fun _ => 0)))] H := hP
  have hD : va_D A [(h0, .inr (11, [.ref r0, .ref q_1, .ref q_2, .ref q_3, .ref q_4, .int 0, .int 0, .int 0, .int 0, .int 0])), (q_1, .inl (kk_1, 6, .inl (fun _ => 0))), (q_2, .inl (kk_2, 36, .inl (fun _ => 0))), (q_3, .inl (kk_3, 36, .inl (fun _ => 0))), (q_4, .inr (8, [.ref (qa_5 0), .int 0, .int 0])), ((qa_5 0), .inl ((ka_5 0), 64, .inl (fun _ => 0)))] := hD
  refine W.widen (k := 5) (n := 145) (Nat.le_of_ble_eq_true rfl) (Nat.le_of_ble_eq_true rfl) ?_
  exact W.vret hx hb hr (QG_.mk (fun n => [q_1, q_2, q_3, q_4, (qa_5 0)].getD n 0) (fun n => [kk_1, kk_2, kk_3, (ka_5 0)].getD n 0) (fun _ => 0) [0, 1, 2, 3, 4, 5] [0, 1, 2, 3] hP hD hK hS rfl trivial rfl (by decide) rfl) hS.2.2 dX8_init_69
