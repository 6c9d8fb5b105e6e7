def F_X10_reason_0 (a1 : Int32) : Nat × Int32 := (if a1 = 0 then (4, 0) else (4, 0))
set_option maxHeartbeats 4000000 in
set_option maxRecDepth 100000 in
theorem c_X10_reason_0 (l : Launch) (hl0 : l.stackTraces = false) (D : va_G) (ad : Nat → Nat) (sz : Nat) (h_M : Nat) (h_M_0 : Value) (h_M_1 : Value) (h_M_2 : Value) (h_M_3 : Value) (h_M_4 : Value) (h_M_5 : Value) (h_M_6 : Value) (h_M_7 : Value) (h_M_8 : Value) (a1 : Int32) (a2 : Int32) : vx_Met l yX10_reason wsX10_reason ({ frames := 6, cells := 1, slots := 6, locals := 100 }) (PR_ D ad [(h_M, .inr (13, [h_M_0, h_M_1, h_M_2, h_M_3, h_M_4, h_M_5, h_M_6, h_M_7, h_M_8, .null]))] [] sz [.ref h_M, .int a1, .int a2]) (QRs_ ((F_X10_reason_0 a1).1 = 0) (some (.int (F_X10_reason_0 a1).2)) (va_A [] sz)) (XR_ (fun E9 => (E9 = "java/util/NoSuchElementException" ∧ (F_X10_reason_0 a1).1 = 4)) (va_A [] sz)) 1 6 (va_A [] sz) := by
  refine vx_ofW (cc := cX10_reason) (maxL := 4) (ret := (some .int)) (by decide) rfl ?_
  intro p e s m args below meth c s₁ B hml htab hv
  obtain ⟨rfl, hsz, hP, hK, hF⟩ := hv
  have hx := B.exec
  have hb := B.bytes
  have hr := B.returns
  have hts := atoms_spec (ws := wsX10_reason) B.pre
  have hown : s.vm.findClass RX10 = some m.cls := findClass_of_methodNamed B.named
  have hlocks := B.notSynchronized
  subst hsz
  generalize hAe : va_A [] s.heap.size = A at hF ⊢
  have hA : ∀ q : Nat, s.heap.size ≤ q → A q := fun q h => by rw [← hAe]; exact Or.inr h
  obtain ⟨H, hHe⟩ : ∃ H : Heap, H = s.heap := ⟨_, rfl⟩
  have hS : va_S A s.heap H [] := by rw [hHe]; exact va_S.rf
  have hP : va_P D vwCl [(h_M, .inr (13, [h_M_0, h_M_1, h_M_2, h_M_3, h_M_4, h_M_5, h_M_6, h_M_7, h_M_8, .null]))] H := by rw [hHe]; exact hP
  rw [← hHe]
  have hi_X10 : ∀ w ∈ wsX100, w ∈ wsX10_reason := by decide +kernel
  have hl := lv_entry [.ref h_M, .int a1, .int a2] (n := 4) (Nat.le_of_ble_eq_true rfl)
  rw [lg_entry_eq]
  generalize (lg_sl [.ref h_M, .int a1, .int a2] ++ List.replicate (4 - (lg_sl [.ref h_M, .int a1, .int a2]).length) Slot.unset).toArray = ls at hl ⊢
  have hl : lv_has ls 4 [(0, .ref h_M), (1, .int a1), (2, .int a2)] := hl
  have hM : F_X10_reason_0 a1 = (if a1 = 0 then (4, 0) else (4, 0)) := rfl
  refine lv_aload_n hx hb dX10_reason_0 rfl (lv_at hl 0 rfl) ?_
  refine va_get (D := D) (ci := 13) (v := .null) (own := RX10) (C := RX10) (T := TX10) (N := 10) hx hb hts hi_X10 hown hK hP 0 rfl rfl 9 (by decide) (hts (.fieldLink RX10 38 "CanalMaps" "kept" "LCanalMaps$Refusal;") (List.mem_of_getElem? (i := 3) (by decide +kernel))) (fun _ h9 => h9) rfl dX10_reason_1 ?_
  refine lv_astore_nN (lv' := [(3, .null), (0, .ref h_M), (1, .int a1), (2, .int a2)]) hx hb dX10_reason_4 rfl hl (by decide) rfl (fun ls hl => ?_)
  refine lv_iload_n hx hb dX10_reason_5 rfl (lv_at hl 2 rfl) ?_
  refine lv_if_eq (tgt := 18) hx hb dX10_reason_6 (by decide) (fun c_1 => ?_) (fun c_1 => ?_)
  · rw [if_pos c_1] at hM
    refine lv_aload_nN hx hb dX10_reason_18 rfl (lv_at hl 0 rfl) ?_
    refine lv_ifnonnullN hx hb dX10_reason_19 ?_
    obtain ⟨sa9, hstr⟩ := fxs_ hF RX10 317 "nothing was refused, or there is no cause"
    exact vx_throwXW (own := RX10) (cls := "java/util/NoSuchElementException") (names := ["java/lang/Exception"]) (sup9 := "java/lang/RuntimeException") (ix := 13) (rx := vx_cE) hx hb hl0 (by decide +kernel) (by decide +kernel) (by decide +kernel) (by decide +kernel) hown (by decide +kernel) (by decide +kernel) (by decide +kernel) (hts (.classLink RX10 158 "java/util/NoSuchElementException") (List.mem_of_getElem? (i := 1) (by decide +kernel))) (hts (.initialized "java/util/NoSuchElementException") (List.mem_of_getElem? (i := 2) (by decide +kernel))) hstr (fxw_ hts (by decide +kernel) (by decide +kernel) (fxb_ hF "java/util/NoSuchElementException")) (by decide +kernel) hF.2.2.2.2.1 hF.2.2.2.2.2.1 hS (by rw [hml]; exact hl.1) dX10_reason_22 dX10_reason_25 dX10_reason_26 dX10_reason_29 dX10_reason_32 (fun x9 hx9 => (htab x9 hx9).elim) (Nat.le_of_ble_eq_true rfl) (Nat.le_of_ble_eq_true rfl) (Nat.le_of_ble_eq_true rfl) (Nat.le_of_ble_eq_true rfl) hlocks (fun t9 _ hz9 hq9 => ⟨⟨rfl, (by rw [hM])⟩, xt_ hS hz9 hq9⟩) hS.2.2 (Nat.le_of_ble_eq_true rfl) (Nat.le_of_ble_eq_true rfl)
  · rw [if_neg c_1] at hM
    refine lv_aload_nN hx hb dX10_reason_9 rfl (lv_at hl 0 rfl) ?_
    refine lv_ifnullN (tgt := 18) hx hb dX10_reason_10 (by decide) ?_
    refine lv_aload_nN hx hb dX10_reason_18 rfl (lv_at hl 0 rfl) ?_
    refine lv_ifnonnullN hx hb dX10_reason_19 ?_
    obtain ⟨sa9, hstr⟩ := fxs_ hF RX10 317 "nothing was refused, or there is no cause"
    exact vx_throwXW (own := RX10) (cls := "java/util/NoSuchElementException") (names := ["java/lang/Exception"]) (sup9 := "java/lang/RuntimeException") (ix := 13) (rx := vx_cE) hx hb hl0 (by decide +kernel) (by decide +kernel) (by decide +kernel) (by decide +kernel) hown (by decide +kernel) (by decide +kernel) (by decide +kernel) (hts (.classLink RX10 158 "java/util/NoSuchElementException") (List.mem_of_getElem? (i := 1) (by decide +kernel))) (hts (.initialized "java/util/NoSuchElementException") (List.mem_of_getElem? (i := 2) (by decide +kernel))) hstr (fxw_ hts (by decide +kernel) (by decide +kernel) (fxb_ hF "java/util/NoSuchElementException")) (by decide +kernel) hF.2.2.2.2.1 hF.2.2.2.2.2.1 hS (by rw [hml]; exact hl.1) dX10_reason_22 dX10_reason_25 dX10_reason_26 dX10_reason_29 dX10_reason_32 (fun x9 hx9 => (htab x9 hx9).elim) (Nat.le_of_ble_eq_true rfl) (Nat.le_of_ble_eq_true rfl) (Nat.le_of_ble_eq_true rfl) (Nat.le_of_ble_eq_true rfl) hlocks (fun t9 _ hz9 hq9 => ⟨⟨rfl, (by rw [hM])⟩, xt_ hS hz9 hq9⟩) hS.2.2 (Nat.le_of_ble_eq_true rfl) (Nat.le_of_ble_eq_true rfl)
def F_X10_reason_1 (rr : Int32) (rd : Int32) (a1 : Int32) (a2 : Int32) : Nat × Int32 := (if a1 = 0 then (if a2 = 0 then (0, rr) else (0, rd)) else (4, 0))
set_option maxHeartbeats 4000000 in
set_option maxRecDepth 100000 in
theorem c_X10_reason_1 (l : Launch) (hl0 : l.stackTraces = false) (D : va_G) (ad : Nat → Nat) (sz : Nat) (h_R : Nat) (h_M : Nat) (h_M_0 : Value) (h_M_1 : Value) (h_M_2 : Value) (h_M_3 : Value) (h_M_4 : Value) (h_M_5 : Value) (h_M_6 : Value) (h_M_7 : Value) (h_M_8 : Value) (rr : Int32) (rd : Int32) (a1 : Int32) (a2 : Int32) : vx_Met l yX10_reason wsX10_reason ({ frames := 6, cells := 1, slots := 6, locals := 100 }) (PR_ D ad [(h_R, .inr (10, [.int rr, .int rd, .null])), (h_M, .inr (13, [h_M_0, h_M_1, h_M_2, h_M_3, h_M_4, h_M_5, h_M_6, h_M_7, h_M_8, .ref h_R]))] [] sz [.ref h_M, .int a1, .int a2]) (QRs_ ((F_X10_reason_1 rr rd a1 a2).1 = 0) (some (.int (F_X10_reason_1 rr rd a1 a2).2)) (va_A [] sz)) (XR_ (fun E9 => (E9 = "java/util/NoSuchElementException" ∧ (F_X10_reason_1 rr rd a1 a2).1 = 4)) (va_A [] sz)) 1 6 (va_A [] sz) := by
  refine vx_ofW (cc := cX10_reason) (maxL := 4) (ret := (some .int)) (by decide) rfl ?_
  intro p e s m args below meth c s₁ B hml htab hv
  obtain ⟨rfl, hsz, hP, hK, hF⟩ := hv
  have hx := B.exec
  have hb := B.bytes
  have hr := B.returns
  have hts := atoms_spec (ws := wsX10_reason) B.pre
  have hown : s.vm.findClass RX10 = some m.cls := findClass_of_methodNamed B.named
  have hlocks := B.notSynchronized
  subst hsz
  generalize hAe : va_A [] s.heap.size = A at hF ⊢
  have hA : ∀ q : Nat, s.heap.size ≤ q → A q := fun q h => by rw [← hAe]; exact Or.inr h
  obtain ⟨H, hHe⟩ : ∃ H : Heap, H = s.heap := ⟨_, rfl⟩
  have hS : va_S A s.heap H [] := by rw [hHe]; exact va_S.rf
  have hP : va_P D vwCl [(h_R, .inr (10, [.int rr, .int rd, .null])), (h_M, .inr (13, [h_M_0, h_M_1, h_M_2, h_M_3, h_M_4, h_M_5, h_M_6, h_M_7, h_M_8, .ref h_R]))] H := by rw [hHe]; exact hP
  rw [← hHe]
  have hi_X10 : ∀ w ∈ wsX100, w ∈ wsX10_reason := by decide +kernel
  have hi_X7 : ∀ w ∈ wsX70, w ∈ wsX10_reason := by decide +kernel
  have hl := lv_entry [.ref h_M, .int a1, .int a2] (n := 4) (Nat.le_of_ble_eq_true rfl)
  rw [lg_entry_eq]
  generalize (lg_sl [.ref h_M, .int a1, .int a2] ++ List.replicate (4 - (lg_sl [.ref h_M, .int a1, .int a2]).length) Slot.unset).toArray = ls at hl ⊢
  have hl : lv_has ls 4 [(0, .ref h_M), (1, .int a1), (2, .int a2)] := hl
  have hM : F_X10_reason_1 rr rd a1 a2 = (if a1 = 0 then (if a2 = 0 then (0, rr) else (0, rd)) else (4, 0)) := rfl
  refine lv_aload_n hx hb dX10_reason_0 rfl (lv_at hl 0 rfl) ?_
  refine va_get (D := D) (ci := 13) (v := .ref h_R) (own := RX10) (C := RX10) (T := TX10) (N := 10) hx hb hts hi_X10 hown hK hP 1 rfl rfl 9 (by decide) (hts (.fieldLink RX10 38 "CanalMaps" "kept" "LCanalMaps$Refusal;") (List.mem_of_getElem? (i := 3) (by decide +kernel))) (fun _ h9 => h9) rfl dX10_reason_1 ?_
  refine lv_astore_n (lv' := [(3, .ref h_R), (0, .ref h_M), (1, .int a1), (2, .int a2)]) hx hb dX10_reason_4 rfl hl (by decide) rfl (fun ls hl => ?_)
  refine lv_iload_n hx hb dX10_reason_5 rfl (lv_at hl 2 rfl) ?_
  refine lv_if_eq (tgt := 18) hx hb dX10_reason_6 (by decide) (fun c_1 => ?_) (fun c_1 => ?_)
  · rw [if_pos c_1] at hM
    refine lv_aload_n hx hb dX10_reason_18 rfl (lv_at hl 0 rfl) ?_
    refine lv_ifnonnull (tgt := 33) hx hb dX10_reason_19 (by decide) ?_
    refine lv_iload_n hx hb dX10_reason_33 rfl (lv_at hl 3 rfl) ?_
    refine lv_if_eq (tgt := 44) hx hb dX10_reason_34 (by decide) (fun c_2 => ?_) (fun c_2 => ?_)
    · rw [if_pos c_2] at hM
      refine lv_aload_n hx hb dX10_reason_44 rfl (lv_at hl 0 rfl) ?_
      refine va_getN (D := D) (ci := 10) (v := .int rr) (own := RX10) (C := RX7) (T := TX7) (N := 3) hx hb hts hi_X7 hown hK hP 0 rfl rfl 0 (by decide) (fxn_ hF (RX10, 322, "CanalMaps$Refusal", "reason", "I")) (fun _ h9 => h9) rfl dX10_reason_45 ?_
      refine vx_ret ?_
      refine W.widen (k := 1) (n := 6) (Nat.le_of_ble_eq_true rfl) (Nat.le_of_ble_eq_true rfl) ?_
      exact W.iret (v := rr) hx hb hr (QRs_.mk hS (by rw [hM]) (by rw [hM])) hS.2.2 dX10_reason_48
    · rw [if_neg c_2] at hM
      refine lv_aload_n hx hb dX10_reason_37 rfl (lv_at hl 0 rfl) ?_
      refine va_getN (D := D) (ci := 10) (v := .int rd) (own := RX10) (C := RX7) (T := TX7) (N := 3) hx hb hts hi_X7 hown hK hP 0 rfl rfl 1 (by decide) (fxn_ hF (RX10, 319, "CanalMaps$Refusal", "detail", "I")) (fun _ h9 => h9) rfl dX10_reason_38 ?_
      refine lv_goto (tgt := 48) hx hb dX10_reason_41 (by decide) ?_
      refine vx_ret ?_
      refine W.widen (k := 1) (n := 6) (Nat.le_of_ble_eq_true rfl) (Nat.le_of_ble_eq_true rfl) ?_
      exact W.iret (v := rd) hx hb hr (QRs_.mk hS (by rw [hM]) (by rw [hM])) hS.2.2 dX10_reason_48
  · rw [if_neg c_1] at hM
    refine lv_aload_n hx hb dX10_reason_9 rfl (lv_at hl 0 rfl) ?_
    refine lv_ifnull hx hb dX10_reason_10 ?_
    refine lv_aload_n hx hb dX10_reason_13 rfl (lv_at hl 0 rfl) ?_
    refine va_getN (D := D) (ci := 10) (v := .null) (own := RX10) (C := RX7) (T := TX7) (N := 3) hx hb hts hi_X7 hown hK hP 0 rfl rfl 2 (by decide) (fxn_ hF (RX10, 314, "CanalMaps$Refusal", "cause", "LCanalMaps$Refusal;")) (fun _ h9 => h9) rfl dX10_reason_14 ?_
    refine lv_astore_nN (lv' := [(3, .null), (0, .ref h_M), (1, .int a1), (2, .int a2)]) hx hb dX10_reason_17 rfl hl (by decide) rfl (fun ls hl => ?_)
    refine lv_aload_nN hx hb dX10_reason_18 rfl (lv_at hl 0 rfl) ?_
    refine lv_ifnonnullN hx hb dX10_reason_19 ?_
    obtain ⟨sa9, hstr⟩ := fxs_ hF RX10 317 "nothing was refused, or there is no cause"
    exact vx_throwXW (own := RX10) (cls := "java/util/NoSuchElementException") (names := ["java/lang/Exception"]) (sup9 := "java/lang/RuntimeException") (ix := 13) (rx := vx_cE) hx hb hl0 (by decide +kernel) (by decide +kernel) (by decide +kernel) (by decide +kernel) hown (by decide +kernel) (by decide +kernel) (by decide +kernel) (hts (.classLink RX10 158 "java/util/NoSuchElementException") (List.mem_of_getElem? (i := 1) (by decide +kernel))) (hts (.initialized "java/util/NoSuchElementException") (List.mem_of_getElem? (i := 2) (by decide +kernel))) hstr (fxw_ hts (by decide +kernel) (by decide +kernel) (fxb_ hF "java/util/NoSuchElementException")) (by decide +kernel) hF.2.2.2.2.1 hF.2.2.2.2.2.1 hS (by rw [hml]; exact hl.1) dX10_reason_22 dX10_reason_25 dX10_reason_26 dX10_reason_29 dX10_reason_32 (fun x9 hx9 => (htab x9 hx9).elim) (Nat.le_of_ble_eq_true rfl) (Nat.le_of_ble_eq_true rfl) (Nat.le_of_ble_eq_true rfl) (Nat.le_of_ble_eq_true rfl) hlocks (fun t9 _ hz9 hq9 => ⟨⟨rfl, (by rw [hM])⟩, xt_ hS hz9 hq9⟩) hS.2.2 (Nat.le_of_ble_eq_true rfl) (Nat.le_of_ble_eq_true rfl)
def F_X10_reason_2 (rr2 : Int32) (rd2 : Int32) (rr : Int32) (rd : Int32) (a1 : Int32) (a2 : Int32) : Nat × Int32 := (if a1 = 0 then (if a2 = 0 then (0, rr) else (0, rd)) else (if a2 = 0 then (0, rr2) else (0, rd2)))
set_option maxHeartbeats 4000000 in
set_option maxRecDepth 100000 in
theorem c_X10_reason_2 (l : Launch) (hl0 : l.stackTraces = false) (D : va_G) (ad : Nat → Nat) (sz : Nat) (h_R2 : Nat) (h_R : Nat) (h_M : Nat) (h_R2_2 : Value) (h_M_0 : Value) (h_M_1 : Value) (h_M_2 : Value) (h_M_3 : Value) (h_M_4 : Value) (h_M_5 : Value) (h_M_6 : Value) (h_M_7 : Value) (h_M_8 : Value) (rr2 : Int32) (rd2 : Int32) (rr : Int32) (rd : Int32) (a1 : Int32) (a2 : Int32) : vx_Met l yX10_reason wsX10_reason ({ frames := 6, cells := 1, slots := 6, locals := 100 }) (PR_ D ad [(h_R2, .inr (10, [.int rr2, .int rd2, h_R2_2])), (h_R, .inr (10, [.int rr, .int rd, .ref h_R2])), (h_M, .inr (13, [h_M_0, h_M_1, h_M_2, h_M_3, h_M_4, h_M_5, h_M_6, h_M_7, h_M_8, .ref h_R]))] [] sz [.ref h_M, .int a1, .int a2]) (QRs_ ((F_X10_reason_2 rr2 rd2 rr rd a1 a2).1 = 0) (some (.int (F_X10_reason_2 rr2 rd2 rr rd a1 a2).2)) (va_A [] sz)) (XR_ (fun E9 => False) (va_A [] sz)) 1 6 (va_A [] sz) := by
  refine vx_ofW (cc := cX10_reason) (maxL := 4) (ret := (some .int)) (by decide) rfl ?_
  intro p e s m args below meth c s₁ B hml htab hv
  obtain ⟨rfl, hsz, hP, hK, hF⟩ := hv
  have hx := B.exec
  have hb := B.bytes
  have hr := B.returns
  have hts := atoms_spec (ws := wsX10_reason) B.pre
  have hown : s.vm.findClass RX10 = some m.cls := findClass_of_methodNamed B.named
  have hlocks := B.notSynchronized
  subst hsz
  generalize hAe : va_A [] s.heap.size = A at hF ⊢
  have hA : ∀ q : Nat, s.heap.size ≤ q → A q := fun q h => by rw [← hAe]; exact Or.inr h
  obtain ⟨H, hHe⟩ : ∃ H : Heap, H = s.heap := ⟨_, rfl⟩
  have hS : va_S A s.heap H [] := by rw [hHe]; exact va_S.rf
  have hP : va_P D vwCl [(h_R2, .inr (10, [.int rr2, .int rd2, h_R2_2])), (h_R, .inr (10, [.int rr, .int rd, .ref h_R2])), (h_M, .inr (13, [h_M_0, h_M_1, h_M_2, h_M_3, h_M_4, h_M_5, h_M_6, h_M_7, h_M_8, .ref h_R]))] H := by rw [hHe]; exact hP
  rw [← hHe]
  have hi_X10 : ∀ w ∈ wsX100, w ∈ wsX10_reason := by decide +kernel
  have hi_X7 : ∀ w ∈ wsX70, w ∈ wsX10_reason := by decide +kernel
  have hl := lv_entry [.ref h_M, .int a1, .int a2] (n := 4) (Nat.le_of_ble_eq_true rfl)
  rw [lg_entry_eq]
  generalize (lg_sl [.ref h_M, .int a1, .int a2] ++ List.replicate (4 - (lg_sl [.ref h_M, .int a1, .int a2]).length) Slot.unset).toArray = ls at hl ⊢
  have hl : lv_has ls 4 [(0, .ref h_M), (1, .int a1), (2, .int a2)] := hl
  have hM : F_X10_reason_2 rr2 rd2 rr rd a1 a2 = (if a1 = 0 then (if a2 = 0 then (0, rr) else (0, rd)) else (if a2 = 0 then (0, rr2) else (0, rd2))) := rfl
  refine lv_aload_n hx hb dX10_reason_0 rfl (lv_at hl 0 rfl) ?_
  refine va_get (D := D) (ci := 13) (v := .ref h_R) (own := RX10) (C := RX10) (T := TX10) (N := 10) hx hb hts hi_X10 hown hK hP 2 rfl rfl 9 (by decide) (hts (.fieldLink RX10 38 "CanalMaps" "kept" "LCanalMaps$Refusal;") (List.mem_of_getElem? (i := 3) (by decide +kernel))) (fun _ h9 => h9) rfl dX10_reason_1 ?_
  refine lv_astore_n (lv' := [(3, .ref h_R), (0, .ref h_M), (1, .int a1), (2, .int a2)]) hx hb dX10_reason_4 rfl hl (by decide) rfl (fun ls hl => ?_)
  refine lv_iload_n hx hb dX10_reason_5 rfl (lv_at hl 2 rfl) ?_
  refine lv_if_eq (tgt := 18) hx hb dX10_reason_6 (by decide) (fun c_1 => ?_) (fun c_1 => ?_)
  · rw [if_pos c_1] at hM
    refine lv_aload_n hx hb dX10_reason_18 rfl (lv_at hl 0 rfl) ?_
    refine lv_ifnonnull (tgt := 33) hx hb dX10_reason_19 (by decide) ?_
    refine lv_iload_n hx hb dX10_reason_33 rfl (lv_at hl 3 rfl) ?_
    refine lv_if_eq (tgt := 44) hx hb dX10_reason_34 (by decide) (fun c_2 => ?_) (fun c_2 => ?_)
    · rw [if_pos c_2] at hM
      refine lv_aload_n hx hb dX10_reason_44 rfl (lv_at hl 0 rfl) ?_
      refine va_getN (D := D) (ci := 10) (v := .int rr) (own := RX10) (C := RX7) (T := TX7) (N := 3) hx hb hts hi_X7 hown hK hP 1 rfl rfl 0 (by decide) (fxn_ hF (RX10, 322, "CanalMaps$Refusal", "reason", "I")) (fun _ h9 => h9) rfl dX10_reason_45 ?_
      refine vx_ret ?_
      refine W.widen (k := 1) (n := 6) (Nat.le_of_ble_eq_true rfl) (Nat.le_of_ble_eq_true rfl) ?_
      exact W.iret (v := rr) hx hb hr (QRs_.mk hS (by rw [hM]) (by rw [hM])) hS.2.2 dX10_reason_48
    · rw [if_neg c_2] at hM
      refine lv_aload_n hx hb dX10_reason_37 rfl (lv_at hl 0 rfl) ?_
      refine va_getN (D := D) (ci := 10) (v := .int rd) (own := RX10) (C := RX7) (T := TX7) (N := 3) hx hb hts hi_X7 hown hK hP 1 rfl rfl 1 (by decide) (fxn_ hF (RX10, 319, "CanalMaps$Refusal", "detail", "I")) (fun _ h9 => h9) rfl dX10_reason_38 ?_
      refine lv_goto (tgt := 48) hx hb dX10_reason_41 (by decide) ?_
      refine vx_ret ?_
      refine W.widen (k := 1) (n := 6) (Nat.le_of_ble_eq_true rfl) (Nat.le_of_ble_eq_true rfl) ?_
      exact W.iret (v := rd) hx hb hr (QRs_.mk hS (by rw [hM]) (by rw [hM])) hS.2.2 dX10_reason_48
  · rw [if_neg c_1] at hM
    refine lv_aload_n hx hb dX10_reason_9 rfl (lv_at hl 0 rfl) ?_
    refine lv_ifnull hx hb dX10_reason_10 ?_
    refine lv_aload_n hx hb dX10_reason_13 rfl (lv_at hl 0 rfl) ?_
    refine va_getN (D := D) (ci := 10) (v := .ref h_R2) (own := RX10) (C := RX7) (T := TX7) (N := 3) hx hb hts hi_X7 hown hK hP 1 rfl rfl 2 (by decide) (fxn_ hF (RX10, 314, "CanalMaps$Refusal", "cause", "LCanalMaps$Refusal;")) (fun _ h9 => h9) rfl dX10_reason_14 ?_
    refine lv_astore_n (lv' := [(3, .ref h_R2), (0, .ref h_M), (1, .int a1), (2, .int a2)]) hx hb dX10_reason_17 rfl hl (by decide) rfl (fun ls hl => ?_)
    refine lv_aload_n hx hb dX10_reason_18 rfl (lv_at hl 0 rfl) ?_
    refine lv_ifnonnull (tgt := 33) hx hb dX10_reason_19 (by decide) ?_
    refine lv_iload_n hx hb dX10_reason_33 rfl (lv_at hl 3 rfl) ?_
    refine lv_if_eq (tgt := 44) hx hb dX10_reason_34 (by decide) (fun c_3 => ?_) (fun c_3 => ?_)
    · rw [if_pos c_3] at hM
      refine lv_aload_n hx hb dX10_reason_44 rfl (lv_at hl 0 rfl) ?_
      refine va_getN (D := D) (ci := 10) (v := .int rr2) (own := RX10) (C := RX7) (T := TX7) (N := 3) hx hb hts hi_X7 hown hK hP 0 rfl rfl 0 (by decide) (fxn_ hF (RX10, 322, "CanalMaps$Refusal", "reason", "I")) (fun _ h9 => h9) rfl dX10_reason_45 ?_
      refine vx_ret ?_
      refine W.widen (k := 1) (n := 6) (Nat.le_of_ble_eq_true rfl) (Nat.le_of_ble_eq_true rfl) ?_
      exact W.iret (v := rr2) hx hb hr (QRs_.mk hS (by rw [hM]) (by rw [hM])) hS.2.2 dX10_reason_48
    · rw [if_neg c_3] at hM
      refine lv_aload_n hx hb dX10_reason_37 rfl (lv_at hl 0 rfl) ?_
      refine va_getN (D := D) (ci := 10) (v := .int rd2) (own := RX10) (C := RX7) (T := TX7) (N := 3) hx hb hts hi_X7 hown hK hP 0 rfl rfl 1 (by decide) (fxn_ hF (RX10, 319, "CanalMaps$Refusal", "detail", "I")) (fun _ h9 => h9) rfl dX10_reason_38 ?_
      refine lv_goto (tgt := 48) hx hb dX10_reason_41 (by decide) ?_
      refine vx_ret ?_
      refine W.widen (k := 1) (n := 6) (Nat.le_of_ble_eq_true rfl) (Nat.le_of_ble_eq_true rfl) ?_
      exact W.iret (v := rd2) hx hb hr (QRs_.mk hS (by rw [hM]) (by rw [hM])) hS.2.2 dX10_reason_48
