def F_X10_append (sg : Nat → Int32) (ln : Int32) (a1 : Int32) : Nat × Int32 × (Nat → Int32) × Int32 := (if (F_X3_isFull ln) = 0 then (0, (F_X3_write sg ln a1).2, ((F_X3_write sg ln a1).1), (F_X3_write sg ln a1).2) else (5, 0, sg, ln))
set_option maxHeartbeats 4000000 in
set_option maxRecDepth 100000 in
theorem c_X10_append (l : Launch) (hl0 : l.stackTraces = false) (D : va_G) (ad : Nat → Nat) (sz : Nat) (h_sg : Nat) (h_T : Nat) (h_M : Nat) (k_sg : ClassId) (h_T_2 : Value) (h_T_3 : Value) (h_T_4 : Value) (h_M_0 : Value) (h_M_1 : Value) (h_M_2 : Value) (h_M_3 : Value) (h_M_4 : Value) (h_M_6 : Value) (h_M_7 : Value) (h_M_8 : Value) (h_M_9 : Value) (sg : Nat → Int32) (ln : Int32) (a1 : Int32) (hy0 : 0 ≤ ln.toInt) (hy1 : ln.toInt ≤ 60) : vx_Met l yX10_append wsX10_append ({ frames := 6, cells := 1, slots := 6, locals := 100 }) (PC_ D ad [(h_sg, .inl (k_sg, 60, .inl sg)), (h_T, .inr (6, [.ref h_sg, .int ln, h_T_2, h_T_3, h_T_4])), (h_M, .inr (13, [h_M_0, h_M_1, h_M_2, h_M_3, h_M_4, .ref h_T, h_M_6, h_M_7, h_M_8, h_M_9]))] [(k_sg, .char)] sz [.ref h_M, .int (ci_ a1)]) (QG_ D (fun q i => (some (.int (F_X10_append sg ln a1).2.1))) (fun q i => (F_X10_append sg ln a1).1 = 0 ∧ 0 ≤ ((F_X10_append sg ln a1).2.2.2).toInt ∧ ((F_X10_append sg ln a1).2.2.2).toInt ≤ 60) (fun q k i => [(h_sg, .inl (k_sg, 60, .inl (F_X10_append sg ln a1).2.2.1)), (h_T, .inr (6, [.ref h_sg, .int (F_X10_append sg ln a1).2.2.2, h_T_2, h_T_3, h_T_4])), (h_M, .inr (13, [h_M_0, h_M_1, h_M_2, h_M_3, h_M_4, .ref h_T, h_M_6, h_M_7, h_M_8, h_M_9]))]) (fun q k i => [(k_sg, .char)]) (va_A [(h_sg, .inl (k_sg, 60, .inl sg)), (h_T, .inr (6, [.ref h_sg, .int ln, h_T_2, h_T_3, h_T_4])), (h_M, .inr (13, [h_M_0, h_M_1, h_M_2, h_M_3, h_M_4, .ref h_T, h_M_6, h_M_7, h_M_8, h_M_9]))] sz)) (XG_ D (fun E9 => (E9 = "java/lang/IllegalStateException" ∧ (F_X10_append sg ln a1).1 = 5 ∧ 0 ≤ ((F_X10_append sg ln a1).2.2.2).toInt ∧ ((F_X10_append sg ln a1).2.2.2).toInt ≤ 60)) (fun q k i => [(h_sg, .inl (k_sg, 60, .inl (F_X10_append sg ln a1).2.2.1)), (h_T, .inr (6, [.ref h_sg, .int (F_X10_append sg ln a1).2.2.2, h_T_2, h_T_3, h_T_4])), (h_M, .inr (13, [h_M_0, h_M_1, h_M_2, h_M_3, h_M_4, .ref h_T, h_M_6, h_M_7, h_M_8, h_M_9]))]) (fun q k i => [(k_sg, .char)]) (va_A [(h_sg, .inl (k_sg, 60, .inl sg)), (h_T, .inr (6, [.ref h_sg, .int ln, h_T_2, h_T_3, h_T_4])), (h_M, .inr (13, [h_M_0, h_M_1, h_M_2, h_M_3, h_M_4, .ref h_T, h_M_6, h_M_7, h_M_8, h_M_9]))] sz)) 1 6 (va_A [(h_sg, .inl (k_sg, 60, .inl sg)), (h_T, .inr (6, [.ref h_sg, .int ln, h_T_2, h_T_3, h_T_4])), (h_M, .inr (13, [h_M_0, h_M_1, h_M_2, h_M_3, h_M_4, .ref h_T, h_M_6, h_M_7, h_M_8, h_M_9]))] sz) := by
  refine vx_ofW (cc := cX10_append) (maxL := 2) (ret := (some .int)) (by decide) rfl ?_
  intro p e s m args below meth c s₁ B hml htab hv
  obtain ⟨rfl, hsz, hP, hK, hD0, hF⟩ := hv
  have hx := B.exec
  have hb := B.bytes
  have hr := B.returns
  have hts := atoms_spec (ws := wsX10_append) B.pre
  have hown : s.vm.findClass RX10 = some m.cls := findClass_of_methodNamed B.named
  have hlocks := B.notSynchronized
  subst hsz
  have hD := hD0.self (sz := s.heap.size)
  generalize hAe : va_A [(h_sg, .inl (k_sg, 60, .inl sg)), (h_T, .inr (6, [.ref h_sg, .int ln, h_T_2, h_T_3, h_T_4])), (h_M, .inr (13, [h_M_0, h_M_1, h_M_2, h_M_3, h_M_4, .ref h_T, h_M_6, h_M_7, h_M_8, h_M_9]))] s.heap.size = A at hD hF ⊢
  have hA : ∀ q : Nat, s.heap.size ≤ q → A q := fun q h => by rw [← hAe]; exact Or.inr h
  obtain ⟨H, hHe⟩ : ∃ H : Heap, H = s.heap := ⟨_, rfl⟩
  have hS : va_S A s.heap H [] := by rw [hHe]; exact va_S.rf
  have hP : va_P D vwCl [(h_sg, .inl (k_sg, 60, .inl sg)), (h_T, .inr (6, [.ref h_sg, .int ln, h_T_2, h_T_3, h_T_4])), (h_M, .inr (13, [h_M_0, h_M_1, h_M_2, h_M_3, h_M_4, .ref h_T, h_M_6, h_M_7, h_M_8, h_M_9]))] H := by rw [hHe]; exact hP
  rw [← hHe]
  have hi_X10 : ∀ w ∈ wsX100, w ∈ wsX10_append := by decide +kernel
  have hi_X3 : ∀ w ∈ wsX30, w ∈ wsX10_append := by decide +kernel
  have hl := lv_entry [.ref h_M, .int (ci_ a1)] (n := 2) (Nat.le_of_ble_eq_true rfl)
  rw [lg_entry_eq]
  generalize (lg_sl [.ref h_M, .int (ci_ a1)] ++ List.replicate (2 - (lg_sl [.ref h_M, .int (ci_ a1)]).length) Slot.unset).toArray = ls at hl ⊢
  have hl : lv_has ls 2 [(0, .ref h_M), (1, .int (ci_ a1))] := hl
  have hM : F_X10_append sg ln a1 = (if (F_X3_isFull ln) = 0 then (0, (F_X3_write sg ln a1).2, ((F_X3_write sg ln a1).1), (F_X3_write sg ln a1).2) else (5, 0, sg, ln)) := rfl
  refine lv_aload_n hx hb dX10_append_0 rfl (lv_at hl 0 rfl) ?_
  refine va_get (D := D) (ci := 13) (v := .ref h_T) (own := RX10) (C := RX10) (T := TX10) (N := 10) hx hb hts hi_X10 hown hK hP 2 rfl rfl 5 (by decide) (hts (.fieldLink RX10 19 "CanalMaps" "text" "LCanalMaps$CommandText;") (List.mem_of_getElem? (i := 3) (by decide +kernel))) (fun _ h9 => h9) rfl dX10_append_1 ?_
  obtain ⟨y9, hy9⟩ : ∃ y9, (F_X3_isFull ln) = y9 := ⟨_, rfl⟩
  have hcon := (c_X3_isFull l hl0 D ad H.size h_T (.ref h_sg) (h_T_2) (h_T_3) (h_T_4) ln (by have z0 := hy0; have z1 := hy1; omega) (by have z0 := hy0; have z1 := hy1; omega))
  rw [hy9] at hcon
  refine kr_ (va_runV (As := []) (rest := []) ⟨hx, hb, hml, hown, hts⟩ hcon (cwV 0 hts gX10_append_X3_isFull rfl rfl rfl (by decide +kernel) ⟨Nat.le_of_ble_eq_true rfl, Nat.le_of_ble_eq_true rfl⟩) ⟨PR_.blind, va_recv hK hP (ci := 6) (q0 := 1) rfl rfl, PR_.pre hF hK (hP.sub [1] rfl) hS hA [] rfl⟩ rfl rfl hl.1 rfl (lv_room (Nat.le_of_ble_eq_true rfl)) dX10_append_4 ⟨(Nat.le_of_ble_eq_true rfl), (Nat.le_of_ble_eq_true rfl)⟩) hP hS hA (fun H locs hP hS => ?_)
  subst hy9
  refine W.eq (g2 := F0 m 7 ls [.int (F_X3_isFull ln)]) rfl ?_
  refine lv_if_eq (tgt := 21) hx hb dX10_append_7 (by decide) (fun c_2 => ?_) (fun c_2 => ?_)
  · rw [if_pos c_2] at hM
    refine lv_aload_n hx hb dX10_append_21 rfl (lv_at hl 0 rfl) ?_
    refine va_get (D := D) (ci := 13) (v := .ref h_T) (own := RX10) (C := RX10) (T := TX10) (N := 10) hx hb hts hi_X10 hown hK hP 2 rfl rfl 5 (by decide) (hts (.fieldLink RX10 19 "CanalMaps" "text" "LCanalMaps$CommandText;") (List.mem_of_getElem? (i := 3) (by decide +kernel))) (fun _ h9 => h9) rfl dX10_append_22 ?_
    refine lv_iload_n hx hb dX10_append_25 rfl (lv_at hl 1 rfl) ?_
    obtain ⟨y9, hy9⟩ : ∃ y9, (F_X3_write sg ln a1) = y9 := ⟨_, rfl⟩
    have hcon := (c_X3_write l hl0 D ad H.size h_sg h_T k_sg (h_T_2) (h_T_3) (h_T_4) sg ln a1 (by have y0 := R_X3_isFull c_2; have z0 := hy0; have z1 := hy1; omega) (by have y0 := R_X3_isFull c_2; have z0 := hy0; have z1 := hy1; omega))
    rw [hy9] at hcon
    refine kc_ (wc := [(h_sg, .inl (k_sg, 60, .inl sg)), (h_T, .inr (6, [.ref h_sg, .int ln, h_T_2, h_T_3, h_T_4]))]) (wr := [(h_M, .inr (13, [h_M_0, h_M_1, h_M_2, h_M_3, h_M_4, .ref h_T, h_M_6, h_M_7, h_M_8, h_M_9]))]) (va_runV (As := [.int (ci_ a1)]) (rest := []) ⟨hx, hb, hml, hown, hts⟩ hcon (cwV 1 hts gX10_append_X3_write rfl rfl rfl (by decide +kernel) ⟨Nat.le_of_ble_eq_true rfl, Nat.le_of_ble_eq_true rfl⟩) ⟨PC_.blind, va_recv hK hP (ci := 6) (q0 := 1) rfl rfl, PC_.pre hF hK hP hD hS hA [0, 1] [0] rfl (by decide) rfl⟩ rfl rfl hl.1 rfl (lv_room (Nat.le_of_ble_eq_true rfl)) dX10_append_26 ⟨(Nat.le_of_ble_eq_true rfl), (Nat.le_of_ble_eq_true rfl)⟩) hK hP hD hS hA [0, 1] [2] [] rfl rfl (by decide) (by decide) rfl (fun qa_3 ka_3 ia H locs hpo hP hD hK hS => ?_)
    subst hy9
    have hP : va_P D vwCl [(h_M, .inr (13, [h_M_0, h_M_1, h_M_2, h_M_3, h_M_4, .ref h_T, h_M_6, h_M_7, h_M_8, h_M_9])), (h_sg, .inl (k_sg, 60, .inl (F_X3_write sg ln a1).1)), (h_T, .inr (6, [.ref h_sg, .int (F_X3_write sg ln a1).2, h_T_2, h_T_3, h_T_4]))] H := hP
    have hD : va_D A [(h_M, .inr (13, [h_M_0, h_M_1, h_M_2, h_M_3, h_M_4, .ref h_T, h_M_6, h_M_7, h_M_8, h_M_9])), (h_sg, .inl (k_sg, 60, .inl (F_X3_write sg ln a1).1)), (h_T, .inr (6, [.ref h_sg, .int (F_X3_write sg ln a1).2, h_T_2, h_T_3, h_T_4]))] := hD
    have hK : va_K D vwCl [(k_sg, .char)] s := hK
    refine W.eq (g2 := F0 m 29 ls []) rfl ?_
    refine lv_aload_n hx hb dX10_append_29 rfl (lv_at hl 0 rfl) ?_
    refine va_get (D := D) (ci := 13) (v := .ref h_T) (own := RX10) (C := RX10) (T := TX10) (N := 10) hx hb hts hi_X10 hown hK hP 0 rfl rfl 5 (by decide) (hts (.fieldLink RX10 19 "CanalMaps" "text" "LCanalMaps$CommandText;") (List.mem_of_getElem? (i := 3) (by decide +kernel))) (fun _ h9 => h9) rfl dX10_append_30 ?_
    refine va_getN (D := D) (ci := 6) (v := .int (F_X3_write sg ln a1).2) (own := RX10) (C := RX3) (T := TX3) (N := 5) hx hb hts hi_X3 hown hK hP 2 rfl rfl 1 (by decide) (fxn_ hF (RX10, 277, "CanalMaps$CommandText", "length", "I")) (fun _ h9 => h9) rfl dX10_append_33 ?_
    refine vx_ret ?_
    refine W.widen (k := 1) (n := 6) (Nat.le_of_ble_eq_true rfl) (Nat.le_of_ble_eq_true rfl) ?_
    exact W.iret (v := (F_X3_write sg ln a1).2) hx hb hr (QG_.mk (fun _ => 0) (fun _ => 0) (fun _ => 0) [1, 2, 0] [0] hP hD hK hS (by rw [hM]) ⟨(by rw [hM]), (by rw [hM]; exact ⟨(show 0 ≤ ((F_X3_write sg ln a1).2).toInt from (by have y0 := R_X3_isFull c_2; have z0 := hy0; have z1 := hy1; have rwr := R_X3_write (sg := sg) (ln := ln) (a := a1) (by omega) (by omega); have b1 := Int32.toInt_lt ((F_X3_write sg ln a1).2); have d1 := Int32.le_toInt ((F_X3_write sg ln a1).2); omega)), (show ((F_X3_write sg ln a1).2).toInt ≤ 60 from (by have y0 := R_X3_isFull c_2; have z0 := hy0; have z1 := hy1; have rwr := R_X3_write (sg := sg) (ln := ln) (a := a1) (by omega) (by omega); have b2 := Int32.toInt_lt ((F_X3_write sg ln a1).2); have d2 := Int32.le_toInt ((F_X3_write sg ln a1).2); omega))⟩)⟩ (by first | (rw [hM]; rfl) | rfl) (by decide) rfl) hS.2.2 dX10_append_36
  · rw [if_neg c_2] at hM
    obtain ⟨sa9, hstr⟩ := fxs_ hF RX10 270 "the buffer contains 60 characters"
    exact vx_throwSW (own := RX10) (cls := "java/lang/IllegalStateException") (names := ["java/lang/RuntimeException", "java/lang/Exception"]) hx hb hl0 hown (by decide +kernel) (by decide +kernel) (hts (.classLink RX10 268 "java/lang/IllegalStateException") (List.mem_of_getElem? (i := 1) (by decide +kernel))) (hts (.initialized "java/lang/IllegalStateException") (List.mem_of_getElem? (i := 2) (by decide +kernel))) hstr (fxw_ hts (by decide +kernel) (by decide +kernel) (fxb_ hF "java/lang/IllegalStateException")) (by decide +kernel) hF.2.2.2.2.1 hF.2.2.2.2.2.1 hS (by rw [hml]; exact hl.1) dX10_append_10 dX10_append_13 dX10_append_14 dX10_append_17 dX10_append_20 (fun x9 hx9 => (htab x9 hx9).elim) (Nat.le_of_ble_eq_true rfl) (Nat.le_of_ble_eq_true rfl) (Nat.le_of_ble_eq_true rfl) (Nat.le_of_ble_eq_true rfl) hlocks (XG_.mk (fun _ => 0) (fun _ => 0) (fun _ => 0) [0, 1, 2] [0] hP hD hK hS ⟨rfl, (by rw [hM]), (by rw [hM]; exact ⟨(show 0 ≤ ln.toInt from (by have y0 := f_neq c_2; have z0 := hy0; have z1 := hy1; have e_0 : (0 : Int32).toInt = 0 := (by decide +kernel); have b3 := Int32.toInt_lt (ln); have d3 := Int32.le_toInt (ln); omega)), (show ln.toInt ≤ 60 from (by have y0 := f_neq c_2; have z0 := hy0; have z1 := hy1; have e_0 : (0 : Int32).toInt = 0 := (by decide +kernel); have b4 := Int32.toInt_lt (ln); have d4 := Int32.le_toInt (ln); omega))⟩)⟩ (by first | (rw [hM]; rfl) | rfl) (by decide) rfl) hS.2.2 (Nat.le_of_ble_eq_true rfl) (Nat.le_of_ble_eq_true rfl)
def F_X10_heed  : Nat := 1
set_option maxHeartbeats 4000000 in
set_option maxRecDepth 100000 in
theorem c_X10_heed (l : Launch) (hl0 : l.stackTraces = false) (D : va_G) (ad : Nat → Nat) (sz : Nat) (h_M : Nat) (h_M_0 : Value) (h_M_1 : Value) (h_M_2 : Value) (h_M_3 : Value) (h_M_4 : Value) (h_M_5 : Value) (h_M_6 : Value) (h_M_7 : Value) (h_M_8 : Value) (h_M_9 : Value) (rf1 : Nat) : vx_Met l yX10_heed wsX10_heed ({ frames := 6, cells := 1, slots := 6, locals := 100 }) (PC_ D ad [(h_M, .inr (13, [h_M_0, h_M_1, h_M_2, h_M_3, h_M_4, h_M_5, h_M_6, h_M_7, h_M_8, h_M_9]))] [] sz [.ref h_M, .ref rf1]) (QG_ D (fun q i => none) (fun q i => (F_X10_heed) = 0) (fun q k i => [(h_M, .inr (13, [h_M_0, h_M_1, h_M_2, h_M_3, h_M_4, h_M_5, h_M_6, h_M_7, h_M_8, .ref rf1]))]) (fun q k i => []) (va_A [(h_M, .inr (13, [h_M_0, h_M_1, h_M_2, h_M_3, h_M_4, h_M_5, h_M_6, h_M_7, h_M_8, h_M_9]))] sz)) (XG_ D (fun E9 => (E9 = "java/lang/UnsupportedOperationException" ∧ (F_X10_heed) = 1)) (fun q k i => [(h_M, .inr (13, [h_M_0, h_M_1, h_M_2, h_M_3, h_M_4, h_M_5, h_M_6, h_M_7, h_M_8, .ref rf1]))]) (fun q k i => []) (va_A [(h_M, .inr (13, [h_M_0, h_M_1, h_M_2, h_M_3, h_M_4, h_M_5, h_M_6, h_M_7, h_M_8, h_M_9]))] sz)) 1 6 (va_A [(h_M, .inr (13, [h_M_0, h_M_1, h_M_2, h_M_3, h_M_4, h_M_5, h_M_6, h_M_7, h_M_8, h_M_9]))] sz) := by
  refine vx_ofW (cc := cX10_heed) (maxL := 2) (ret := none) (by decide) rfl ?_
  intro p e s m args below meth c s₁ B hml htab hv
  obtain ⟨rfl, hsz, hP, hK, hD0, hF⟩ := hv
  have hx := B.exec
  have hb := B.bytes
  have hr := B.returns
  have hts := atoms_spec (ws := wsX10_heed) B.pre
  have hown : s.vm.findClass RX10 = some m.cls := findClass_of_methodNamed B.named
  have hlocks := B.notSynchronized
  subst hsz
  have hD := hD0.self (sz := s.heap.size)
  generalize hAe : va_A [(h_M, .inr (13, [h_M_0, h_M_1, h_M_2, h_M_3, h_M_4, h_M_5, h_M_6, h_M_7, h_M_8, h_M_9]))] s.heap.size = A at hD hF ⊢
  have hA : ∀ q : Nat, s.heap.size ≤ q → A q := fun q h => by rw [← hAe]; exact Or.inr h
  obtain ⟨H, hHe⟩ : ∃ H : Heap, H = s.heap := ⟨_, rfl⟩
  have hS : va_S A s.heap H [] := by rw [hHe]; exact va_S.rf
  have hP : va_P D vwCl [(h_M, .inr (13, [h_M_0, h_M_1, h_M_2, h_M_3, h_M_4, h_M_5, h_M_6, h_M_7, h_M_8, h_M_9]))] H := by rw [hHe]; exact hP
  rw [← hHe]
  have hi_X10 : ∀ w ∈ wsX100, w ∈ wsX10_heed := by decide +kernel
  have hl := lv_entry [.ref h_M, .ref rf1] (n := 2) (Nat.le_of_ble_eq_true rfl)
  rw [lg_entry_eq]
  generalize (lg_sl [.ref h_M, .ref rf1] ++ List.replicate (2 - (lg_sl [.ref h_M, .ref rf1]).length) Slot.unset).toArray = ls at hl ⊢
  have hl : lv_has ls 2 [(0, .ref h_M), (1, .ref rf1)] := hl
  have hM : F_X10_heed = 1 := rfl
  refine lv_aload_n hx hb dX10_heed_0 rfl (lv_at hl 1 rfl) ?_
  refine lv_ifnull hx hb dX10_heed_1 ?_
  refine lv_aload_n hx hb dX10_heed_4 rfl (lv_at hl 0 rfl) ?_
  refine lv_aload_n hx hb dX10_heed_5 rfl (lv_at hl 1 rfl) ?_
  refine va_put (D := D) (ci := 13) (v := .ref rf1) (ty := tyX10 9) (own := RX10) (C := RX10) (T := TX10) (N := 10) hx hb hts hi_X10 tyX10 tyX10_ok nmX10 hown hK hP hD hS 0 rfl rfl 9 (by decide) (hts (.fieldLink RX10 38 "CanalMaps" "kept" "LCanalMaps$Refusal;") (List.mem_of_getElem? (i := 3) (by decide +kernel))) (fun _ h9 => h9) rfl (by decide +kernel) rfl rfl (Nat.le_of_ble_eq_true rfl) dX10_heed_6 (fun H locs hP hD hS => ?_)
  have hP : va_P D vwCl [(h_M, .inr (13, [h_M_0, h_M_1, h_M_2, h_M_3, h_M_4, h_M_5, h_M_6, h_M_7, h_M_8, .ref rf1]))] H := hP
  have hD : va_D A [(h_M, .inr (13, [h_M_0, h_M_1, h_M_2, h_M_3, h_M_4, h_M_5, h_M_6, h_M_7, h_M_8, .ref rf1]))] := hD
  obtain ⟨sa9, hstr⟩ := fxs_ hF RX10 109 "refused for a reason that is kept"
  exact vx_throwS (own := RX10) (cls := "java/lang/UnsupportedOperationException") (names := ["java/lang/RuntimeException", "java/lang/Exception"]) hx hb hl0 hown (by decide +kernel) (by decide +kernel) (hts (.classLink RX10 107 "java/lang/UnsupportedOperationException") (List.mem_of_getElem? (i := 1) (by decide +kernel))) (hts (.initialized "java/lang/UnsupportedOperationException") (List.mem_of_getElem? (i := 2) (by decide +kernel))) hstr (fxw_ hts (by decide +kernel) (by decide +kernel) (fxb_ hF "java/lang/UnsupportedOperationException")) (by decide +kernel) hF.2.2.2.2.1 hF.2.2.2.2.2.1 hS (by rw [hml]; exact hl.1) dX10_heed_9 dX10_heed_12 dX10_heed_13 dX10_heed_15 dX10_heed_18 (fun x9 hx9 => (htab x9 hx9).elim) (Nat.le_of_ble_eq_true rfl) (Nat.le_of_ble_eq_true rfl) (Nat.le_of_ble_eq_true rfl) (Nat.le_of_ble_eq_true rfl) hlocks (XG_.mk (fun _ => 0) (fun _ => 0) (fun _ => 0) [0] [] hP hD hK hS ⟨rfl, (by rw [hM])⟩ (by first | (rw [hM]; rfl) | rfl) (by decide) rfl) hS.2.2 (Nat.le_of_ble_eq_true rfl) (Nat.le_of_ble_eq_true rfl)
