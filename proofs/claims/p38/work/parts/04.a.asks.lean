def F_X10_needSurveyor (n : Int32) (a1 : Int32) : Nat := (if (F_X8_has n a1) = 0 then 2 else 0)
theorem R_X10_needSurveyor {n a : Int32} (h : F_X10_needSurveyor n a = 0) : 0 ≤ a.toInt ∧ a.toInt < n.toInt := by
  unfold F_X10_needSurveyor at h
  by_cases c1 : F_X8_has n a = 0
  · rw [if_pos c1] at h; exact absurd h (by decide)
  exact R_X8_has c1
set_option maxHeartbeats 4000000 in
set_option maxRecDepth 100000 in
theorem c_X10_needSurveyor (l : Launch) (hl0 : l.stackTraces = false) (D : va_G) (ad : Nat → Nat) (sz : Nat) (h_S : Nat) (h_M : Nat) (h_S_0 : Value) (h_S_1 : Value) (h_S_2 : Value) (h_S_3 : Value) (h_S_4 : Value) (h_S_6 : Value) (h_S_7 : Value) (h_S_8 : Value) (h_S_9 : Value) (h_M_1 : Value) (h_M_2 : Value) (h_M_3 : Value) (h_M_4 : Value) (h_M_5 : Value) (h_M_6 : Value) (h_M_7 : Value) (h_M_8 : Value) (h_M_9 : Value) (n : Int32) (a1 : Int32) (hy0 : n.toInt ≤ 6) : vx_Met l yX10_needSurveyor wsX10_needSurveyor ({ frames := 6, cells := 1, slots := 6, locals := 100 }) (PR_ D ad [(h_S, .inr (11, [h_S_0, h_S_1, h_S_2, h_S_3, h_S_4, .int n, h_S_6, h_S_7, h_S_8, h_S_9])), (h_M, .inr (13, [.ref h_S, h_M_1, h_M_2, h_M_3, h_M_4, h_M_5, h_M_6, h_M_7, h_M_8, h_M_9]))] [] sz [.ref h_M, .int a1]) (QRs_ ((F_X10_needSurveyor n a1) = 0) none (va_A [] sz)) (XR_ (fun E9 => (E9 = "java/lang/IndexOutOfBoundsException" ∧ (F_X10_needSurveyor n a1) = 2)) (va_A [] sz)) 1 6 (va_A [] sz) := by
  refine vx_ofW (cc := cX10_needSurveyor) (maxL := 2) (ret := none) (by decide) rfl ?_
  intro p e s m args below meth c s₁ B hml htab hv
  obtain ⟨rfl, hsz, hP, hK, hF⟩ := hv
  have hx := B.exec
  have hb := B.bytes
  have hr := B.returns
  have hts := atoms_spec (ws := wsX10_needSurveyor) B.pre
  have hown : s.vm.findClass RX10 = some m.cls := findClass_of_methodNamed B.named
  have hlocks := B.notSynchronized
  subst hsz
  generalize hAe : va_A [] s.heap.size = A at hF ⊢
  have hA : ∀ q : Nat, s.heap.size ≤ q → A q := fun q h => by rw [← hAe]; exact Or.inr h
  obtain ⟨H, hHe⟩ : ∃ H : Heap, H = s.heap := ⟨_, rfl⟩
  have hS : va_S A s.heap H [] := by rw [hHe]; exact va_S.rf
  have hP : va_P D vwCl [(h_S, .inr (11, [h_S_0, h_S_1, h_S_2, h_S_3, h_S_4, .int n, h_S_6, h_S_7, h_S_8, h_S_9])), (h_M, .inr (13, [.ref h_S, h_M_1, h_M_2, h_M_3, h_M_4, h_M_5, h_M_6, h_M_7, h_M_8, h_M_9]))] H := by rw [hHe]; exact hP
  rw [← hHe]
  have hi_X10 : ∀ w ∈ wsX100, w ∈ wsX10_needSurveyor := by decide +kernel
  have hl := lv_entry [.ref h_M, .int a1] (n := 2) (Nat.le_of_ble_eq_true rfl)
  rw [lg_entry_eq]
  generalize (lg_sl [.ref h_M, .int a1] ++ List.replicate (2 - (lg_sl [.ref h_M, .int a1]).length) Slot.unset).toArray = ls at hl ⊢
  have hl : lv_has ls 2 [(0, .ref h_M), (1, .int a1)] := hl
  have hM : F_X10_needSurveyor n a1 = (if (F_X8_has n a1) = 0 then 2 else 0) := rfl
  refine lv_aload_n hx hb dX10_needSurveyor_0 rfl (lv_at hl 0 rfl) ?_
  refine va_get (D := D) (ci := 13) (v := .ref h_S) (own := RX10) (C := RX10) (T := TX10) (N := 10) hx hb hts hi_X10 hown hK hP 1 rfl rfl 0 (by decide) (hts (.fieldLink RX10 50 "CanalMaps" "now" "LCanalMaps$Survey;") (List.mem_of_getElem? (i := 3) (by decide +kernel))) (fun _ h9 => h9) rfl dX10_needSurveyor_1 ?_
  refine lv_iload_n hx hb dX10_needSurveyor_4 rfl (lv_at hl 1 rfl) ?_
  obtain ⟨y9, hy9⟩ : ∃ y9, (F_X8_has n a1) = y9 := ⟨_, rfl⟩
  have hcon := (c_X8_has l hl0 D ad H.size h_S (h_S_0) (h_S_1) (h_S_2) (h_S_3) (h_S_4) (h_S_6) (h_S_7) (h_S_8) (h_S_9) n a1)
  rw [hy9] at hcon
  refine kr_ (va_runV (As := [.int a1]) (rest := []) ⟨hx, hb, hml, hown, hts⟩ hcon (cwV 1 hts gX10_needSurveyor_X8_has rfl rfl rfl (by decide +kernel) ⟨Nat.le_of_ble_eq_true rfl, Nat.le_of_ble_eq_true rfl⟩) ⟨PR_.blind, va_recv hK hP (ci := 11) (q0 := 0) rfl rfl, PR_.pre hF hK (hP.sub [0] rfl) hS hA [] rfl⟩ rfl rfl hl.1 rfl (lv_room (Nat.le_of_ble_eq_true rfl)) dX10_needSurveyor_5 ⟨(Nat.le_of_ble_eq_true rfl), (Nat.le_of_ble_eq_true rfl)⟩) hP hS hA (fun H locs hP hS => ?_)
  subst hy9
  refine W.eq (g2 := F0 m 8 ls [.int (F_X8_has n a1)]) rfl ?_
  refine lv_if_ne (tgt := 22) hx hb dX10_needSurveyor_8 (by decide) (fun c_2 => ?_) (fun c_2 => ?_)
  · rw [if_neg c_2] at hM
    refine vx_ret ?_
    refine W.widen (k := 1) (n := 6) (Nat.le_of_ble_eq_true rfl) (Nat.le_of_ble_eq_true rfl) ?_
    exact W.vret hx hb hr (QRs_.mk hS (by rw [hM]) rfl) hS.2.2 dX10_needSurveyor_22
  · rw [if_pos c_2] at hM
    obtain ⟨sa9, hstr⟩ := fxs_ hF RX10 395 "there is no such surveyor"
    exact vx_throwSW (own := RX10) (cls := "java/lang/IndexOutOfBoundsException") (names := ["java/lang/RuntimeException", "java/lang/Exception"]) hx hb hl0 hown (by decide +kernel) (by decide +kernel) (hts (.classLink RX10 341 "java/lang/IndexOutOfBoundsException") (List.mem_of_getElem? (i := 1) (by decide +kernel))) (hts (.initialized "java/lang/IndexOutOfBoundsException") (List.mem_of_getElem? (i := 2) (by decide +kernel))) hstr (fxw_ hts (by decide +kernel) (by decide +kernel) (fxb_ hF "java/lang/IndexOutOfBoundsException")) (by decide +kernel) hF.2.2.2.2.1 hF.2.2.2.2.2.1 hS (by rw [hml]; exact hl.1) dX10_needSurveyor_11 dX10_needSurveyor_14 dX10_needSurveyor_15 dX10_needSurveyor_18 dX10_needSurveyor_21 (fun x9 hx9 => (htab x9 hx9).elim) (Nat.le_of_ble_eq_true rfl) (Nat.le_of_ble_eq_true rfl) (Nat.le_of_ble_eq_true rfl) (Nat.le_of_ble_eq_true rfl) hlocks (fun t9 _ hz9 hq9 => ⟨⟨rfl, (by rw [hM])⟩, xt_ hS hz9 hq9⟩) hS.2.2 (Nat.le_of_ble_eq_true rfl) (Nat.le_of_ble_eq_true rfl)
def F_X10_needDistrict (a1 : Int32) : Nat := (if a1 < 0 then 3 else (if a1 < 3 then 0 else 3))
theorem R_X10_needDistrict {a : Int32} (h : F_X10_needDistrict a = 0) : 0 ≤ a.toInt ∧ a.toInt < 3 := by
  have e0 : (0 : Int32).toInt = 0 := by decide +kernel
  have e3 : (3 : Int32).toInt = 3 := by decide +kernel
  unfold F_X10_needDistrict at h
  by_cases c1 : a < 0
  · rw [if_pos c1] at h; exact absurd h (by decide)
  rw [if_neg c1] at h
  by_cases c2 : a < 3
  · have y1 := f_nlt c1
    have y2 := f_lt c2
    omega
  rw [if_neg c2] at h
  exact absurd h (by decide)
set_option maxHeartbeats 4000000 in
set_option maxRecDepth 100000 in
theorem c_X10_needDistrict (l : Launch) (hl0 : l.stackTraces = false) (D : va_G) (ad : Nat → Nat) (sz : Nat) (a1 : Int32) : vx_Met l yX10_needDistrict wsX10_needDistrict ({ frames := 6, cells := 1, slots := 6, locals := 100 }) (PR_ D ad [] [] sz [.int a1]) (QRs_ ((F_X10_needDistrict a1) = 0) none (va_A [] sz)) (XR_ (fun E9 => (E9 = "java/lang/IllegalArgumentException" ∧ (F_X10_needDistrict a1) = 3)) (va_A [] sz)) 1 6 (va_A [] sz) := by
  refine vx_ofW (cc := cX10_needDistrict) (maxL := 1) (ret := none) (by decide) rfl ?_
  intro p e s m args below meth c s₁ B hml htab hv
  obtain ⟨rfl, hsz, hP, hK, hF⟩ := hv
  have hx := B.exec
  have hb := B.bytes
  have hr := B.returns
  have hts := atoms_spec (ws := wsX10_needDistrict) B.pre
  have hown : s.vm.findClass RX10 = some m.cls := findClass_of_methodNamed B.named
  have hlocks := B.notSynchronized
  subst hsz
  generalize hAe : va_A [] s.heap.size = A at hF ⊢
  have hA : ∀ q : Nat, s.heap.size ≤ q → A q := fun q h => by rw [← hAe]; exact Or.inr h
  obtain ⟨H, hHe⟩ : ∃ H : Heap, H = s.heap := ⟨_, rfl⟩
  have hS : va_S A s.heap H [] := by rw [hHe]; exact va_S.rf
  have hP : va_P D vwCl [] H := by rw [hHe]; exact hP
  rw [← hHe]
  have hl := lv_entry [.int a1] (n := 1) (Nat.le_of_ble_eq_true rfl)
  rw [lg_entry_eq]
  generalize (lg_sl [.int a1] ++ List.replicate (1 - (lg_sl [.int a1]).length) Slot.unset).toArray = ls at hl ⊢
  have hl : lv_has ls 1 [(0, .int a1)] := hl
  have hM : F_X10_needDistrict a1 = (if a1 < 0 then 3 else (if a1 < 3 then 0 else 3)) := rfl
  refine lv_iload_n hx hb dX10_needDistrict_0 rfl (lv_at hl 0 rfl) ?_
  refine lv_if_lt (tgt := 9) hx hb dX10_needDistrict_1 (by decide) (fun c_1 => ?_) (fun c_1 => ?_)
  · rw [if_pos c_1] at hM
    obtain ⟨sa9, hstr⟩ := fxs_ hF RX10 397 "there is no such district"
    exact vx_throwSW (own := RX10) (cls := "java/lang/IllegalArgumentException") (names := ["java/lang/RuntimeException", "java/lang/Exception"]) hx hb hl0 hown (by decide +kernel) (by decide +kernel) (hts (.classLink RX10 149 "java/lang/IllegalArgumentException") (List.mem_of_getElem? (i := 1) (by decide +kernel))) (hts (.initialized "java/lang/IllegalArgumentException") (List.mem_of_getElem? (i := 2) (by decide +kernel))) hstr (fxw_ hts (by decide +kernel) (by decide +kernel) (fxb_ hF "java/lang/IllegalArgumentException")) (by decide +kernel) hF.2.2.2.2.1 hF.2.2.2.2.2.1 hS (by rw [hml]; exact hl.1) dX10_needDistrict_9 dX10_needDistrict_12 dX10_needDistrict_13 dX10_needDistrict_16 dX10_needDistrict_19 (fun x9 hx9 => (htab x9 hx9).elim) (Nat.le_of_ble_eq_true rfl) (Nat.le_of_ble_eq_true rfl) (Nat.le_of_ble_eq_true rfl) (Nat.le_of_ble_eq_true rfl) hlocks (fun t9 _ hz9 hq9 => ⟨⟨rfl, (by rw [hM])⟩, xt_ hS hz9 hq9⟩) hS.2.2 (Nat.le_of_ble_eq_true rfl) (Nat.le_of_ble_eq_true rfl)
  · rw [if_neg c_1] at hM
    refine lv_iload_n hx hb dX10_needDistrict_4 rfl (lv_at hl 0 rfl) ?_
    refine lv_iconst (v := 3) hx hb dX10_needDistrict_5 (by decide) ?_
    refine lv_icmp_lt (tgt := 20) hx hb dX10_needDistrict_6 (by decide) (fun c_2 => ?_) (fun c_2 => ?_)
    · rw [if_pos c_2] at hM
      refine vx_ret ?_
      refine W.widen (k := 1) (n := 6) (Nat.le_of_ble_eq_true rfl) (Nat.le_of_ble_eq_true rfl) ?_
      exact W.vret hx hb hr (QRs_.mk hS (by rw [hM]) rfl) hS.2.2 dX10_needDistrict_20
    · rw [if_neg c_2] at hM
      obtain ⟨sa9, hstr⟩ := fxs_ hF RX10 397 "there is no such district"
      exact vx_throwSW (own := RX10) (cls := "java/lang/IllegalArgumentException") (names := ["java/lang/RuntimeException", "java/lang/Exception"]) hx hb hl0 hown (by decide +kernel) (by decide +kernel) (hts (.classLink RX10 149 "java/lang/IllegalArgumentException") (List.mem_of_getElem? (i := 1) (by decide +kernel))) (hts (.initialized "java/lang/IllegalArgumentException") (List.mem_of_getElem? (i := 2) (by decide +kernel))) hstr (fxw_ hts (by decide +kernel) (by decide +kernel) (fxb_ hF "java/lang/IllegalArgumentException")) (by decide +kernel) hF.2.2.2.2.1 hF.2.2.2.2.2.1 hS (by rw [hml]; exact hl.1) dX10_needDistrict_9 dX10_needDistrict_12 dX10_needDistrict_13 dX10_needDistrict_16 dX10_needDistrict_19 (fun x9 hx9 => (htab x9 hx9).elim) (Nat.le_of_ble_eq_true rfl) (Nat.le_of_ble_eq_true rfl) (Nat.le_of_ble_eq_true rfl) (Nat.le_of_ble_eq_true rfl) hlocks (fun t9 _ hz9 hq9 => ⟨⟨rfl, (by rw [hM])⟩, xt_ hS hz9 hq9⟩) hS.2.2 (Nat.le_of_ble_eq_true rfl) (Nat.le_of_ble_eq_true rfl)
def F_X10_needWay (a1 : Int32) : Nat × Int32 := (if a1 < 1000000 then (0, a1) else (4, 0))
set_option maxHeartbeats 4000000 in
set_option maxRecDepth 100000 in
theorem c_X10_needWay (l : Launch) (hl0 : l.stackTraces = false) (D : va_G) (ad : Nat → Nat) (sz : Nat) (a1 : Int32) : vx_Met l yX10_needWay wsX10_needWay ({ frames := 6, cells := 1, slots := 6, locals := 100 }) (PR_ D ad [] [] sz [.int a1]) (QRs_ ((F_X10_needWay a1).1 = 0) (some (.int (F_X10_needWay a1).2)) (va_A [] sz)) (XR_ (fun E9 => (E9 = "java/util/NoSuchElementException" ∧ (F_X10_needWay a1).1 = 4)) (va_A [] sz)) 1 6 (va_A [] sz) := by
  refine vx_ofW (cc := cX10_needWay) (maxL := 1) (ret := (some .int)) (by decide) rfl ?_
  intro p e s m args below meth c s₁ B hml htab hv
  obtain ⟨rfl, hsz, hP, hK, hF⟩ := hv
  have hx := B.exec
  have hb := B.bytes
  have hr := B.returns
  have hts := atoms_spec (ws := wsX10_needWay) B.pre
  have hown : s.vm.findClass RX10 = some m.cls := findClass_of_methodNamed B.named
  have hlocks := B.notSynchronized
  subst hsz
  generalize hAe : va_A [] s.heap.size = A at hF ⊢
  have hA : ∀ q : Nat, s.heap.size ≤ q → A q := fun q h => by rw [← hAe]; exact Or.inr h
  obtain ⟨H, hHe⟩ : ∃ H : Heap, H = s.heap := ⟨_, rfl⟩
  have hS : va_S A s.heap H [] := by rw [hHe]; exact va_S.rf
  have hP : va_P D vwCl [] H := by rw [hHe]; exact hP
  rw [← hHe]
  have hl := lv_entry [.int a1] (n := 1) (Nat.le_of_ble_eq_true rfl)
  rw [lg_entry_eq]
  generalize (lg_sl [.int a1] ++ List.replicate (1 - (lg_sl [.int a1]).length) Slot.unset).toArray = ls at hl ⊢
  have hl : lv_has ls 1 [(0, .int a1)] := hl
  have hM : F_X10_needWay a1 = (if a1 < 1000000 then (0, a1) else (4, 0)) := rfl
  refine lv_iload_n hx hb dX10_needWay_0 rfl (lv_at hl 0 rfl) ?_
  refine lv_ldc (own := RX10) hx hb hown (hts (.constant RX10 226 (1000000)) (List.mem_of_getElem? (i := 3) (by decide +kernel))) dX10_needWay_1 ?_
  refine lv_icmp_lt (tgt := 17) hx hb dX10_needWay_3 (by decide) (fun c_1 => ?_) (fun c_1 => ?_)
  · rw [if_pos c_1] at hM
    refine lv_iload_n hx hb dX10_needWay_17 rfl (lv_at hl 0 rfl) ?_
    refine vx_ret ?_
    refine W.widen (k := 1) (n := 6) (Nat.le_of_ble_eq_true rfl) (Nat.le_of_ble_eq_true rfl) ?_
    exact W.iret (v := a1) hx hb hr (QRs_.mk hS (by rw [hM]) (by rw [hM])) hS.2.2 dX10_needWay_18
  · rw [if_neg c_1] at hM
    obtain ⟨sa9, hstr⟩ := fxs_ hF RX10 399 "there is no way"
    exact vx_throwXW (own := RX10) (cls := "java/util/NoSuchElementException") (names := ["java/lang/Exception"]) (sup9 := "java/lang/RuntimeException") (ix := 13) (rx := vx_cE) hx hb hl0 (by decide +kernel) (by decide +kernel) (by decide +kernel) (by decide +kernel) hown (by decide +kernel) (by decide +kernel) (by decide +kernel) (hts (.classLink RX10 158 "java/util/NoSuchElementException") (List.mem_of_getElem? (i := 1) (by decide +kernel))) (hts (.initialized "java/util/NoSuchElementException") (List.mem_of_getElem? (i := 2) (by decide +kernel))) hstr (fxw_ hts (by decide +kernel) (by decide +kernel) (fxb_ hF "java/util/NoSuchElementException")) (by decide +kernel) hF.2.2.2.2.1 hF.2.2.2.2.2.1 hS (by rw [hml]; exact hl.1) dX10_needWay_6 dX10_needWay_9 dX10_needWay_10 dX10_needWay_13 dX10_needWay_16 (fun x9 hx9 => (htab x9 hx9).elim) (Nat.le_of_ble_eq_true rfl) (Nat.le_of_ble_eq_true rfl) (Nat.le_of_ble_eq_true rfl) (Nat.le_of_ble_eq_true rfl) hlocks (fun t9 _ hz9 hq9 => ⟨⟨rfl, (by rw [hM])⟩, xt_ hS hz9 hq9⟩) hS.2.2 (Nat.le_of_ble_eq_true rfl) (Nat.le_of_ble_eq_true rfl)
def F_X10_cost (cs : Nat → Int32) (n : Int32) (a1 : Int32) (a2 : Int32) : Nat × Int32 := (if (F_X10_needSurveyor n a1) = 0 then (if (F_X10_needSurveyor n a2) = 0 then (if (F_X8_costBetween cs a1 a2) = 0 then (4, 0) else (0, (F_X8_costBetween cs a1 a2))) else (2, 0)) else (2, 0))
set_option maxHeartbeats 4000000 in
set_option maxRecDepth 100000 in
theorem c_X10_cost (l : Launch) (hl0 : l.stackTraces = false) (D : va_G) (ad : Nat → Nat) (sz : Nat) (h_cs : Nat) (h_S : Nat) (h_M : Nat) (k_cs : ClassId) (h_S_0 : Value) (h_S_1 : Value) (h_S_3 : Value) (h_S_4 : Value) (h_S_6 : Value) (h_S_7 : Value) (h_S_8 : Value) (h_S_9 : Value) (h_M_1 : Value) (h_M_2 : Value) (h_M_3 : Value) (h_M_4 : Value) (h_M_5 : Value) (h_M_6 : Value) (h_M_7 : Value) (h_M_8 : Value) (h_M_9 : Value) (cs : Nat → Int32) (n : Int32) (a1 : Int32) (a2 : Int32) (hy0 : n.toInt ≤ 6) : vx_Met l yX10_cost wsX10_cost ({ frames := 7, cells := 3, slots := 18, locals := 123 }) (PR_ D ad [(h_cs, .inl (k_cs, 36, .inl cs)), (h_S, .inr (11, [h_S_0, h_S_1, .ref h_cs, h_S_3, h_S_4, .int n, h_S_6, h_S_7, h_S_8, h_S_9])), (h_M, .inr (13, [.ref h_S, h_M_1, h_M_2, h_M_3, h_M_4, h_M_5, h_M_6, h_M_7, h_M_8, h_M_9]))] [(k_cs, .int)] sz [.ref h_M, .int a1, .int a2]) (QRs_ ((F_X10_cost cs n a1 a2).1 = 0) (some (.int (F_X10_cost cs n a1 a2).2)) (va_A [] sz)) (XR_ (fun E9 => (E9 = "java/lang/IndexOutOfBoundsException" ∧ (F_X10_cost cs n a1 a2).1 = 2) ∨ (E9 = "java/util/NoSuchElementException" ∧ (F_X10_cost cs n a1 a2).1 = 4)) (va_A [] sz)) 3 18 (va_A [] sz) := by
  refine vx_ofW (cc := cX10_cost) (maxL := 4) (ret := (some .int)) (by decide) rfl ?_
  intro p e s m args below meth c s₁ B hml htab hv
  obtain ⟨rfl, hsz, hP, hK, hF⟩ := hv
  have hx := B.exec
  have hb := B.bytes
  have hr := B.returns
  have hts := atoms_spec (ws := wsX10_cost) B.pre
  have hown : s.vm.findClass RX10 = some m.cls := findClass_of_methodNamed B.named
  have hlocks := B.notSynchronized
  subst hsz
  generalize hAe : va_A [] s.heap.size = A at hF ⊢
  have hA : ∀ q : Nat, s.heap.size ≤ q → A q := fun q h => by rw [← hAe]; exact Or.inr h
  obtain ⟨H, hHe⟩ : ∃ H : Heap, H = s.heap := ⟨_, rfl⟩
  have hS : va_S A s.heap H [] := by rw [hHe]; exact va_S.rf
  have hP : va_P D vwCl [(h_cs, .inl (k_cs, 36, .inl cs)), (h_S, .inr (11, [h_S_0, h_S_1, .ref h_cs, h_S_3, h_S_4, .int n, h_S_6, h_S_7, h_S_8, h_S_9])), (h_M, .inr (13, [.ref h_S, h_M_1, h_M_2, h_M_3, h_M_4, h_M_5, h_M_6, h_M_7, h_M_8, h_M_9]))] H := by rw [hHe]; exact hP
  rw [← hHe]
  have hi_X10 : ∀ w ∈ wsX100, w ∈ wsX10_cost := by decide +kernel
  have hl := lv_entry [.ref h_M, .int a1, .int a2] (n := 4) (Nat.le_of_ble_eq_true rfl)
  rw [lg_entry_eq]
  generalize (lg_sl [.ref h_M, .int a1, .int a2] ++ List.replicate (4 - (lg_sl [.ref h_M, .int a1, .int a2]).length) Slot.unset).toArray = ls at hl ⊢
  have hl : lv_has ls 4 [(0, .ref h_M), (1, .int a1), (2, .int a2)] := hl
  have hM : F_X10_cost cs n a1 a2 = (if (F_X10_needSurveyor n a1) = 0 then (if (F_X10_needSurveyor n a2) = 0 then (if (F_X8_costBetween cs a1 a2) = 0 then (4, 0) else (0, (F_X8_costBetween cs a1 a2))) else (2, 0)) else (2, 0)) := rfl
  refine lv_aload_n hx hb dX10_cost_0 rfl (lv_at hl 0 rfl) ?_
  refine lv_iload_n hx hb dX10_cost_1 rfl (lv_at hl 1 rfl) ?_
  refine kzr_ (vx_runV (As := [.int a1]) (rest := []) ⟨hx, hb, hml, hown, hts⟩ (c_X10_needSurveyor l hl0 D ad H.size h_S h_M (h_S_0) (h_S_1) (.ref h_cs) (h_S_3) (h_S_4) (h_S_6) (h_S_7) (h_S_8) (h_S_9) (h_M_1) (h_M_2) (h_M_3) (h_M_4) (h_M_5) (h_M_6) (h_M_7) (h_M_8) (h_M_9) n a1 (by have z0 := hy0; omega)) (cwV 1 hts gX10_cost_X10_needSurveyor rfl rfl rfl (by decide +kernel) ⟨Nat.le_of_ble_eq_true rfl, Nat.le_of_ble_eq_true rfl⟩) ⟨PR_.blind, va_recv hK hP (ci := 13) (q0 := 2) rfl rfl, PR_.pre hF hK (hP.sub [1, 2] rfl) hS hA [] rfl⟩ rfl rfl hl.1 rfl (lv_room (Nat.le_of_ble_eq_true rfl)) dX10_cost_2 ⟨(Nat.le_of_ble_eq_true rfl), (Nat.le_of_ble_eq_true rfl)⟩) hP hS hA (fun H locs c_2 hP hS => ?_) (fun E9 ce q9 H locs hE hP hS hce hvm hcl => ?_)
  · rw [if_pos c_2] at hM
    refine W.eq (g2 := F0 m 5 ls []) rfl ?_
    refine lv_aload_n hx hb dX10_cost_5 rfl (lv_at hl 0 rfl) ?_
    refine lv_iload_n hx hb dX10_cost_6 rfl (lv_at hl 2 rfl) ?_
    refine kzr_ (vx_runV (As := [.int a2]) (rest := []) ⟨hx, hb, hml, hown, hts⟩ (c_X10_needSurveyor l hl0 D ad H.size h_S h_M (h_S_0) (h_S_1) (.ref h_cs) (h_S_3) (h_S_4) (h_S_6) (h_S_7) (h_S_8) (h_S_9) (h_M_1) (h_M_2) (h_M_3) (h_M_4) (h_M_5) (h_M_6) (h_M_7) (h_M_8) (h_M_9) n a2 (by have y0 := R_X10_needSurveyor c_2; have z0 := hy0; omega)) (cwV 1 hts gX10_cost_X10_needSurveyor rfl rfl rfl (by decide +kernel) ⟨Nat.le_of_ble_eq_true rfl, Nat.le_of_ble_eq_true rfl⟩) ⟨PR_.blind, va_recv hK hP (ci := 13) (q0 := 2) rfl rfl, PR_.pre hF hK (hP.sub [1, 2] rfl) hS hA [] rfl⟩ rfl rfl hl.1 rfl (lv_room (Nat.le_of_ble_eq_true rfl)) dX10_cost_7 ⟨(Nat.le_of_ble_eq_true rfl), (Nat.le_of_ble_eq_true rfl)⟩) hP hS hA (fun H locs c_4 hP hS => ?_) (fun E9 ce q9 H locs hE hP hS hce hvm hcl => ?_)
    · rw [if_pos c_4] at hM
      refine W.eq (g2 := F0 m 10 ls []) rfl ?_
      refine lv_aload_n hx hb dX10_cost_10 rfl (lv_at hl 0 rfl) ?_
      refine va_get (D := D) (ci := 13) (v := .ref h_S) (own := RX10) (C := RX10) (T := TX10) (N := 10) hx hb hts hi_X10 hown hK hP 2 rfl rfl 0 (by decide) (hts (.fieldLink RX10 50 "CanalMaps" "now" "LCanalMaps$Survey;") (List.mem_of_getElem? (i := 3) (by decide +kernel))) (fun _ h9 => h9) rfl dX10_cost_11 ?_
      refine lv_iload_n hx hb dX10_cost_14 rfl (lv_at hl 1 rfl) ?_
      refine lv_iload_n hx hb dX10_cost_15 rfl (lv_at hl 2 rfl) ?_
      obtain ⟨y9, hy9⟩ : ∃ y9, (F_X8_costBetween cs a1 a2) = y9 := ⟨_, rfl⟩
      have hcon := (c_X8_costBetween l hl0 D ad H.size h_cs h_S k_cs (h_S_0) (h_S_1) (h_S_3) (h_S_4) (.int n) (h_S_6) (h_S_7) (h_S_8) (h_S_9) cs a1 a2)
      rw [hy9] at hcon
      refine kr_ (va_runV (As := [.int a1, .int a2]) (rest := []) ⟨hx, hb, hml, hown, hts⟩ hcon (cwV 2 hts gX10_cost_X8_costBetween rfl rfl rfl (by decide +kernel) ⟨Nat.le_of_ble_eq_true rfl, Nat.le_of_ble_eq_true rfl⟩) ⟨PR_.blind, va_recv hK hP (ci := 11) (q0 := 1) rfl rfl, PR_.pre hF hK (hP.sub [0, 1] rfl) hS hA [0] rfl⟩ rfl rfl hl.1 rfl (lv_room (Nat.le_of_ble_eq_true rfl)) dX10_cost_16 ⟨(Nat.le_of_ble_eq_true rfl), (Nat.le_of_ble_eq_true rfl)⟩) hP hS hA (fun H locs hP hS => ?_)
      subst hy9
      refine W.eq (g2 := F0 m 19 ls [.int (F_X8_costBetween cs a1 a2)]) rfl ?_
      refine lv_istore_n (lv' := [(3, .int (F_X8_costBetween cs a1 a2)), (0, .ref h_M), (1, .int a1), (2, .int a2)]) hx hb dX10_cost_19 rfl hl (by decide) rfl (fun ls hl => ?_)
      refine lv_iload_n hx hb dX10_cost_20 rfl (lv_at hl 0 rfl) ?_
      refine lv_if_ne (tgt := 34) hx hb dX10_cost_21 (by decide) (fun c_6 => ?_) (fun c_6 => ?_)
      · rw [if_neg c_6] at hM
        refine lv_iload_n hx hb dX10_cost_34 rfl (lv_at hl 0 rfl) ?_
        refine vx_ret ?_
        refine W.widen (k := 3) (n := 18) (Nat.le_of_ble_eq_true rfl) (Nat.le_of_ble_eq_true rfl) ?_
        exact W.iret (v := (F_X8_costBetween cs a1 a2)) hx hb hr (QRs_.mk hS (by rw [hM]) (by rw [hM])) hS.2.2 dX10_cost_35
      · rw [if_pos c_6] at hM
        obtain ⟨sa9, hstr⟩ := fxs_ hF RX10 160 "there is no canal"
        exact vx_throwX (own := RX10) (cls := "java/util/NoSuchElementException") (names := ["java/lang/Exception"]) (sup9 := "java/lang/RuntimeException") (ix := 13) (rx := vx_cE) hx hb hl0 (by decide +kernel) (by decide +kernel) (by decide +kernel) (by decide +kernel) hown (by decide +kernel) (by decide +kernel) (by decide +kernel) (hts (.classLink RX10 158 "java/util/NoSuchElementException") (List.mem_of_getElem? (i := 1) (by decide +kernel))) (hts (.initialized "java/util/NoSuchElementException") (List.mem_of_getElem? (i := 2) (by decide +kernel))) hstr (fxw_ hts (by decide +kernel) (by decide +kernel) (fxb_ hF "java/util/NoSuchElementException")) (by decide +kernel) hF.2.2.2.2.1 hF.2.2.2.2.2.1 hS (by rw [hml]; exact hl.1) dX10_cost_24 dX10_cost_27 dX10_cost_28 dX10_cost_30 dX10_cost_33 (fun x9 hx9 => (htab x9 hx9).elim) (Nat.le_of_ble_eq_true rfl) (Nat.le_of_ble_eq_true rfl) (Nat.le_of_ble_eq_true rfl) (Nat.le_of_ble_eq_true rfl) hlocks (fun t9 _ hz9 hq9 => ⟨(Or.inr ⟨rfl, (by rw [hM])⟩), xt_ hS hz9 hq9⟩) hS.2.2 (Nat.le_of_ble_eq_true rfl) (Nat.le_of_ble_eq_true rfl)
    · rcases hE with ⟨rfl, c_4⟩
      · rw [if_neg (show ¬ (F_X10_needSurveyor n a2) = 0 from by rw [c_4]; decide)] at hM
        exact vx_out (E := "java/lang/IndexOutOfBoundsException") (fun x9 hx9 => (htab x9 hx9).elim) hlocks hce hvm hcl (fun t9 ht9 _ => ⟨(Or.inl ⟨rfl, (by rw [hM])⟩), hS.F ht9⟩) hS.2.2 (Nat.le_of_ble_eq_true rfl) (Nat.le_of_ble_eq_true rfl)
  · rcases hE with ⟨rfl, c_2⟩
    · rw [if_neg (show ¬ (F_X10_needSurveyor n a1) = 0 from by rw [c_2]; decide)] at hM
      exact vx_out (E := "java/lang/IndexOutOfBoundsException") (fun x9 hx9 => (htab x9 hx9).elim) hlocks hce hvm hcl (fun t9 ht9 _ => ⟨(Or.inl ⟨rfl, (by rw [hM])⟩), hS.F ht9⟩) hS.2.2 (Nat.le_of_ble_eq_true rfl) (Nat.le_of_ble_eq_true rfl)
def F_X10_page (PP : List PG) (mp : Nat → Int32) (n : Int32) (tk : Int32) (a1 : Int32) (a2 : Int32) (a3 : Int32) : Nat × Int32 := (if (F_X10_needSurveyor n a1) = 0 then (if (F_X10_needSurveyor n a2) = 0 then (if a3 < 0 then (3, 0) else (if a3 ≤ 2 then (if (F_X6_isBlank ((pgd PP (F_X8_pageIn PP mp a1 a2)).2.1)) = 0 then (if a3 = 0 then (0, (pgd PP (F_X8_pageIn PP mp a1 a2)).2.1) else (if a3 = 1 then (0, (F_X8_ageOf tk ((pgd PP (F_X8_pageIn PP mp a1 a2)).2.2.1))) else (0, (F_X6_costsTold ((pgd PP (F_X8_pageIn PP mp a1 a2)).2.2.2))))) else (4, 0)) else (3, 0))) else (2, 0)) else (2, 0))
set_option maxHeartbeats 4000000 in
set_option maxRecDepth 100000 in
theorem c_X10_page (l : Launch) (hl0 : l.stackTraces = false) (D : va_G) (ad : Nat → Nat) (sz : Nat) (h_el : Nat) (h_li : Nat) (h_A : Nat) (h_mp : Nat) (h_S : Nat) (h_M : Nat) (k_el : ClassId) (k_mp : ClassId) (h_li_0 : Value) (h_S_1 : Value) (h_S_2 : Value) (h_S_4 : Value) (h_S_7 : Value) (h_S_8 : Value) (h_S_9 : Value) (h_M_1 : Value) (h_M_2 : Value) (h_M_3 : Value) (h_M_4 : Value) (h_M_5 : Value) (h_M_6 : Value) (h_M_7 : Value) (h_M_8 : Value) (h_M_9 : Value) (kI : ClassId) (AL : List (Nat × Nat)) (PP : List PG) (capE : Nat) (mp : Nat → Int32) (n : Int32) (tk : Int32) (a1 : Int32) (a2 : Int32) (a3 : Int32) (hlen : AL.length = PP.length) (hpos : 0 < PP.length) (hbig : PP.length ≤ 2000000) (hy0 : n.toInt ≤ 6) (hy1 : PP.length ≤ capE) : vx_Met l yX10_page wsX10_page ({ frames := 7, cells := 3, slots := 18, locals := 123 }) (PR_ D ad ([(h_el, .inl (k_el, capE, .inr (.inr (.inr (.inr (egl AL)))))), (h_li, .inr (4, [h_li_0, .ref h_el, .int (nI PP.length)])), (h_A, .inr (5, [.ref h_li, .ref (pad AL 0)])), (h_mp, .inl (k_mp, 36, .inl mp)), (h_S, .inr (11, [.ref h_A, h_S_1, h_S_2, .ref h_mp, h_S_4, .int n, .int tk, h_S_7, h_S_8, h_S_9])), (h_M, .inr (13, [.ref h_S, h_M_1, h_M_2, h_M_3, h_M_4, h_M_5, h_M_6, h_M_7, h_M_8, h_M_9]))] ++ pgl kI AL PP) [(k_el, .object "java/lang/Object"), (k_mp, .int), (kI, .int)] sz [.ref h_M, .int a1, .int a2, .int a3]) (QRs_ ((F_X10_page PP mp n tk a1 a2 a3).1 = 0) (some (.int (F_X10_page PP mp n tk a1 a2 a3).2)) (va_A [] sz)) (XR_ (fun E9 => (E9 = "java/lang/IndexOutOfBoundsException" ∧ (F_X10_page PP mp n tk a1 a2 a3).1 = 2) ∨ (E9 = "java/lang/IllegalArgumentException" ∧ (F_X10_page PP mp n tk a1 a2 a3).1 = 3) ∨ (E9 = "java/util/NoSuchElementException" ∧ (F_X10_page PP mp n tk a1 a2 a3).1 = 4)) (va_A [] sz)) 3 18 (va_A [] sz) := by
  refine vx_ofW (cc := cX10_page) (maxL := 5) (ret := (some .int)) (by decide) rfl ?_
  intro p e s m args below meth c s₁ B hml htab hv
  obtain ⟨rfl, hsz, hP, hK, hF⟩ := hv
  have hx := B.exec
  have hb := B.bytes
  have hr := B.returns
  have hts := atoms_spec (ws := wsX10_page) B.pre
  have hown : s.vm.findClass RX10 = some m.cls := findClass_of_methodNamed B.named
  have hlocks := B.notSynchronized
  subst hsz
  generalize hAe : va_A [] s.heap.size = A at hF ⊢
  have hA : ∀ q : Nat, s.heap.size ≤ q → A q := fun q h => by rw [← hAe]; exact Or.inr h
  obtain ⟨H, hHe⟩ : ∃ H : Heap, H = s.heap := ⟨_, rfl⟩
  have hS : va_S A s.heap H [] := by rw [hHe]; exact va_S.rf
  have hP : va_P D vwCl ([(h_el, .inl (k_el, capE, .inr (.inr (.inr (.inr (egl AL)))))), (h_li, .inr (4, [h_li_0, .ref h_el, .int (nI PP.length)])), (h_A, .inr (5, [.ref h_li, .ref (pad AL 0)])), (h_mp, .inl (k_mp, 36, .inl mp)), (h_S, .inr (11, [.ref h_A, h_S_1, h_S_2, .ref h_mp, h_S_4, .int n, .int tk, h_S_7, h_S_8, h_S_9])), (h_M, .inr (13, [.ref h_S, h_M_1, h_M_2, h_M_3, h_M_4, h_M_5, h_M_6, h_M_7, h_M_8, h_M_9]))] ++ pgl kI AL PP) H := by rw [hHe]; exact hP
  rw [← hHe]
  have hi_X10 : ∀ w ∈ wsX100, w ∈ wsX10_page := by decide +kernel
  have hi_X6 : ∀ w ∈ wsX60, w ∈ wsX10_page := by decide +kernel
  have hl := lv_entry [.ref h_M, .int a1, .int a2, .int a3] (n := 5) (Nat.le_of_ble_eq_true rfl)
  rw [lg_entry_eq]
  generalize (lg_sl [.ref h_M, .int a1, .int a2, .int a3] ++ List.replicate (5 - (lg_sl [.ref h_M, .int a1, .int a2, .int a3]).length) Slot.unset).toArray = ls at hl ⊢
  have hl : lv_has ls 5 [(0, .ref h_M), (1, .int a1), (2, .int a2), (3, .int a3)] := hl
  have hM : F_X10_page PP mp n tk a1 a2 a3 = (if (F_X10_needSurveyor n a1) = 0 then (if (F_X10_needSurveyor n a2) = 0 then (if a3 < 0 then (3, 0) else (if a3 ≤ 2 then (if (F_X6_isBlank ((pgd PP (F_X8_pageIn PP mp a1 a2)).2.1)) = 0 then (if a3 = 0 then (0, (pgd PP (F_X8_pageIn PP mp a1 a2)).2.1) else (if a3 = 1 then (0, (F_X8_ageOf tk ((pgd PP (F_X8_pageIn PP mp a1 a2)).2.2.1))) else (0, (F_X6_costsTold ((pgd PP (F_X8_pageIn PP mp a1 a2)).2.2.2))))) else (4, 0)) else (3, 0))) else (2, 0)) else (2, 0)) := rfl
  refine lv_aload_n hx hb dX10_page_0 rfl (lv_at hl 0 rfl) ?_
  refine lv_iload_n hx hb dX10_page_1 rfl (lv_at hl 1 rfl) ?_
  refine kzr_ (vx_runV (As := [.int a1]) (rest := []) ⟨hx, hb, hml, hown, hts⟩ (c_X10_needSurveyor l hl0 D ad H.size h_S h_M (.ref h_A) (h_S_1) (h_S_2) (.ref h_mp) (h_S_4) (.int tk) (h_S_7) (h_S_8) (h_S_9) (h_M_1) (h_M_2) (h_M_3) (h_M_4) (h_M_5) (h_M_6) (h_M_7) (h_M_8) (h_M_9) n a1 (by have z0 := hy0; have z1 := hy1; have q_len := hlen; have q_pos := hpos; have q_big := hbig; have q_n := nI_toInt (n := PP.length) (by omega); omega)) (cwV 1 hts gX10_page_X10_needSurveyor rfl rfl rfl (by decide +kernel) ⟨Nat.le_of_ble_eq_true rfl, Nat.le_of_ble_eq_true rfl⟩) ⟨PR_.blind, va_recv hK hP (ci := 13) (q0 := 5) rfl rfl, PR_.pre hF hK (hP.sub [4, 5] rfl) hS hA [] rfl⟩ rfl rfl hl.1 rfl (lv_room (Nat.le_of_ble_eq_true rfl)) dX10_page_2 ⟨(Nat.le_of_ble_eq_true rfl), (Nat.le_of_ble_eq_true rfl)⟩) hP hS hA (fun H locs c_2 hP hS => ?_) (fun E9 ce q9 H locs hE hP hS hce hvm hcl => ?_)
  · rw [if_pos c_2] at hM
    refine W.eq (g2 := F0 m 5 ls []) rfl ?_
    refine lv_aload_n hx hb dX10_page_5 rfl (lv_at hl 0 rfl) ?_
    refine lv_iload_n hx hb dX10_page_6 rfl (lv_at hl 2 rfl) ?_
    refine kzr_ (vx_runV (As := [.int a2]) (rest := []) ⟨hx, hb, hml, hown, hts⟩ (c_X10_needSurveyor l hl0 D ad H.size h_S h_M (.ref h_A) (h_S_1) (h_S_2) (.ref h_mp) (h_S_4) (.int tk) (h_S_7) (h_S_8) (h_S_9) (h_M_1) (h_M_2) (h_M_3) (h_M_4) (h_M_5) (h_M_6) (h_M_7) (h_M_8) (h_M_9) n a2 (by have y0 := R_X10_needSurveyor c_2; have z0 := hy0; have z1 := hy1; have q_len := hlen; have q_pos := hpos; have q_big := hbig; have q_n := nI_toInt (n := PP.length) (by omega); omega)) (cwV 1 hts gX10_page_X10_needSurveyor rfl rfl rfl (by decide +kernel) ⟨Nat.le_of_ble_eq_true rfl, Nat.le_of_ble_eq_true rfl⟩) ⟨PR_.blind, va_recv hK hP (ci := 13) (q0 := 5) rfl rfl, PR_.pre hF hK (hP.sub [4, 5] rfl) hS hA [] rfl⟩ rfl rfl hl.1 rfl (lv_room (Nat.le_of_ble_eq_true rfl)) dX10_page_7 ⟨(Nat.le_of_ble_eq_true rfl), (Nat.le_of_ble_eq_true rfl)⟩) hP hS hA (fun H locs c_4 hP hS => ?_) (fun E9 ce q9 H locs hE hP hS hce hvm hcl => ?_)
    · rw [if_pos c_4] at hM
      refine W.eq (g2 := F0 m 10 ls []) rfl ?_
      refine lv_iload_n hx hb dX10_page_10 rfl (lv_at hl 3 rfl) ?_
      refine lv_if_lt (tgt := 19) hx hb dX10_page_11 (by decide) (fun c_5 => ?_) (fun c_5 => ?_)
      · rw [if_pos c_5] at hM
        obtain ⟨sa9, hstr⟩ := fxs_ hF RX10 163 "what is not from 0 to 2"
        exact vx_throwS (own := RX10) (cls := "java/lang/IllegalArgumentException") (names := ["java/lang/RuntimeException", "java/lang/Exception"]) hx hb hl0 hown (by decide +kernel) (by decide +kernel) (hts (.classLink RX10 149 "java/lang/IllegalArgumentException") (List.mem_of_getElem? (i := 1) (by decide +kernel))) (hts (.initialized "java/lang/IllegalArgumentException") (List.mem_of_getElem? (i := 2) (by decide +kernel))) hstr (fxw_ hts (by decide +kernel) (by decide +kernel) (fxb_ hF "java/lang/IllegalArgumentException")) (by decide +kernel) hF.2.2.2.2.1 hF.2.2.2.2.2.1 hS (by rw [hml]; exact hl.1) dX10_page_19 dX10_page_22 dX10_page_23 dX10_page_25 dX10_page_28 (fun x9 hx9 => (htab x9 hx9).elim) (Nat.le_of_ble_eq_true rfl) (Nat.le_of_ble_eq_true rfl) (Nat.le_of_ble_eq_true rfl) (Nat.le_of_ble_eq_true rfl) hlocks (fun t9 _ hz9 hq9 => ⟨(Or.inr (Or.inl ⟨rfl, (by rw [hM])⟩)), xt_ hS hz9 hq9⟩) hS.2.2 (Nat.le_of_ble_eq_true rfl) (Nat.le_of_ble_eq_true rfl)
      · rw [if_neg c_5] at hM
        refine lv_iload_n hx hb dX10_page_14 rfl (lv_at hl 3 rfl) ?_
        refine lv_iconst (v := 2) hx hb dX10_page_15 (by decide) ?_
        refine lv_icmp_le (tgt := 29) hx hb dX10_page_16 (by decide) (fun c_6 => ?_) (fun c_6 => ?_)
        · rw [if_pos c_6] at hM
          refine lv_aload_n hx hb dX10_page_29 rfl (lv_at hl 0 rfl) ?_
          refine va_get (D := D) (ci := 13) (v := .ref h_S) (own := RX10) (C := RX10) (T := TX10) (N := 10) hx hb hts hi_X10 hown hK hP 5 rfl rfl 0 (by decide) (hts (.fieldLink RX10 50 "CanalMaps" "now" "LCanalMaps$Survey;") (List.mem_of_getElem? (i := 5) (by decide +kernel))) (fun _ h9 => h9) rfl dX10_page_30 ?_
          refine lv_iload_n hx hb dX10_page_33 rfl (lv_at hl 1 rfl) ?_
          refine lv_iload_n hx hb dX10_page_34 rfl (lv_at hl 2 rfl) ?_
          obtain ⟨y9, hy9⟩ : ∃ y9, (F_X8_pageIn PP mp a1 a2) = y9 := ⟨_, rfl⟩
          have hcon := (c_X8_pageIn l hl0 D ad H.size h_el h_li h_A h_mp h_S k_el k_mp (h_li_0) (h_S_1) (h_S_2) (h_S_4) (.int n) (.int tk) (h_S_7) (h_S_8) (h_S_9) kI AL PP capE mp a1 a2 hlen hpos hbig (by have y0 := R_X10_needSurveyor c_2; have y1 := R_X10_needSurveyor c_4; have y2 := f_nlt c_5; have y3 := f_le c_6; have z0 := hy0; have z1 := hy1; have e_0 : (0 : Int32).toInt = 0 := (by decide +kernel); have e_2 : (2 : Int32).toInt = 2 := (by decide +kernel); have q_len := hlen; have q_pos := hpos; have q_big := hbig; have q_n := nI_toInt (n := PP.length) (by omega); omega))
          rw [hy9] at hcon
          refine kr_ (va_runV (As := [.int a1, .int a2]) (rest := []) ⟨hx, hb, hml, hown, hts⟩ hcon (cwV 2 hts gX10_page_X8_pageIn rfl rfl rfl (by decide +kernel) ⟨Nat.le_of_ble_eq_true rfl, Nat.le_of_ble_eq_true rfl⟩) ⟨PR_.blind, va_recv hK hP (ci := 11) (q0 := 4) rfl rfl, PR_.pre hF hK (hP.part [0, 1, 2, 3, 4] rfl) hS hA [0, 1, 2] rfl⟩ rfl rfl hl.1 rfl (lv_room (Nat.le_of_ble_eq_true rfl)) dX10_page_35 ⟨(Nat.le_of_ble_eq_true rfl), (Nat.le_of_ble_eq_true rfl)⟩) hP hS hA (fun H locs hP hS => ?_)
          subst hy9
          refine W.eq (g2 := F0 m 38 ls [.ref (pad AL (F_X8_pageIn PP mp a1 a2))]) rfl ?_
          refine lv_astore (lv' := [(4, .ref (pad AL (F_X8_pageIn PP mp a1 a2))), (0, .ref h_M), (1, .int a1), (2, .int a2), (3, .int a3)]) hx hb dX10_page_38 hl (by decide) rfl (fun ls hl => ?_)
          refine lv_aload hx hb dX10_page_40 (lv_at hl 0 rfl) ?_
          have hPg := pgw (k := (F_X8_pageIn PP mp a1 a2)) hP hlen (by have y0 := R_X10_needSurveyor c_2; have y1 := R_X10_needSurveyor c_4; have y2 := f_nlt c_5; have y3 := f_le c_6; have z0 := hy0; have z1 := hy1; have e_0 : (0 : Int32).toInt = 0 := (by decide +kernel); have e_2 : (2 : Int32).toInt = 2 := (by decide +kernel); have rn_X8_pageIn := R_X8_pageIn PP mp a1 a2 hpos hbig; have q_len := hlen; have q_pos := hpos; have q_big := hbig; have q_n := nI_toInt (n := PP.length) (by omega); omega)
          obtain ⟨y9, hy9⟩ : ∃ y9, (F_X6_isBlank ((pgd PP (F_X8_pageIn PP mp a1 a2)).2.1)) = y9 := ⟨_, rfl⟩
          have hcon := (c_X6_isBlank l hl0 D ad H.size (pad AL (F_X8_pageIn PP mp a1 a2)) (.int (pgd PP (F_X8_pageIn PP mp a1 a2)).1) (.int (pgd PP (F_X8_pageIn PP mp a1 a2)).2.2.1) (.ref (qad AL (F_X8_pageIn PP mp a1 a2))) ((pgd PP (F_X8_pageIn PP mp a1 a2)).2.1))
          rw [hy9] at hcon
          refine kr_ (va_runV (As := []) (rest := []) ⟨hx, hb, hml, hown, hts⟩ hcon (cwV 0 hts gX10_page_X6_isBlank rfl rfl rfl (by decide +kernel) ⟨Nat.le_of_ble_eq_true rfl, Nat.le_of_ble_eq_true rfl⟩) ⟨PR_.blind, va_recv hK hPg (ci := 9) (q0 := 0) rfl rfl, PR_.pre hF hK (hPg.sub [0] rfl) hS hA [] rfl⟩ rfl rfl hl.1 rfl (lv_room (Nat.le_of_ble_eq_true rfl)) dX10_page_42 ⟨(Nat.le_of_ble_eq_true rfl), (Nat.le_of_ble_eq_true rfl)⟩) hP hS hA (fun H locs hP hS => ?_)
          subst hy9
          refine W.eq (g2 := F0 m 45 ls [.int (F_X6_isBlank ((pgd PP (F_X8_pageIn PP mp a1 a2)).2.1))]) rfl ?_
          refine lv_if_eq (tgt := 58) hx hb dX10_page_45 (by decide) (fun c_9 => ?_) (fun c_9 => ?_)
          · rw [if_pos c_9] at hM
            refine lv_iload_n hx hb dX10_page_58 rfl (lv_at hl 4 rfl) ?_
            refine lv_if_ne (tgt := 68) hx hb dX10_page_59 (by decide) (fun c_10 => ?_) (fun c_10 => ?_)
            · rw [if_neg c_10] at hM
              refine lv_iload_n hx hb dX10_page_68 rfl (lv_at hl 4 rfl) ?_
              refine lv_iconst (v := 1) hx hb dX10_page_69 (by decide) ?_
              refine lv_icmp_ne (tgt := 85) hx hb dX10_page_70 (by decide) (fun c_11 => ?_) (fun c_11 => ?_)
              · rw [if_neg c_11] at hM
                refine lv_aload hx hb dX10_page_85 (lv_at hl 0 rfl) ?_
                have hPg := pgw (k := (F_X8_pageIn PP mp a1 a2)) hP hlen (by have y0 := R_X10_needSurveyor c_2; have y1 := R_X10_needSurveyor c_4; have y2 := f_nlt c_5; have y3 := f_le c_6; have y4 := f_eq c_9; have y5 := f_neq c_10; have y6 := f_neq c_11; have z0 := hy0; have z1 := hy1; have e_0 : (0 : Int32).toInt = 0 := (by decide +kernel); have e_1 : (1 : Int32).toInt = 1 := (by decide +kernel); have e_2 : (2 : Int32).toInt = 2 := (by decide +kernel); have rn_X8_pageIn := R_X8_pageIn PP mp a1 a2 hpos hbig; have q_len := hlen; have q_pos := hpos; have q_big := hbig; have q_n := nI_toInt (n := PP.length) (by omega); omega)
                obtain ⟨y9, hy9⟩ : ∃ y9, (F_X6_costsTold ((pgd PP (F_X8_pageIn PP mp a1 a2)).2.2.2)) = y9 := ⟨_, rfl⟩
                have hcon := (c_X6_costsTold l hl0 D ad H.size (qad AL (F_X8_pageIn PP mp a1 a2)) (pad AL (F_X8_pageIn PP mp a1 a2)) kI (.int (pgd PP (F_X8_pageIn PP mp a1 a2)).1) (.int (pgd PP (F_X8_pageIn PP mp a1 a2)).2.1) (.int (pgd PP (F_X8_pageIn PP mp a1 a2)).2.2.1) ((pgd PP (F_X8_pageIn PP mp a1 a2)).2.2.2))
                rw [hy9] at hcon
                refine kr_ (va_runV (As := []) (rest := []) ⟨hx, hb, hml, hown, hts⟩ hcon (cwV 0 hts gX10_page_X6_costsTold rfl rfl rfl (by decide +kernel) ⟨Nat.le_of_ble_eq_true rfl, Nat.le_of_ble_eq_true rfl⟩) ⟨PR_.blind, va_recv hK hPg (ci := 9) (q0 := 0) rfl rfl, PR_.pre hF hK (hPg.sub [1, 0] rfl) hS hA [2] rfl⟩ rfl rfl hl.1 rfl (lv_room (Nat.le_of_ble_eq_true rfl)) dX10_page_87 ⟨(Nat.le_of_ble_eq_true rfl), (Nat.le_of_ble_eq_true rfl)⟩) hP hS hA (fun H locs hP hS => ?_)
                subst hy9
                refine W.eq (g2 := F0 m 90 ls [.int (F_X6_costsTold ((pgd PP (F_X8_pageIn PP mp a1 a2)).2.2.2))]) rfl ?_
                refine vx_ret ?_
                refine W.widen (k := 3) (n := 18) (Nat.le_of_ble_eq_true rfl) (Nat.le_of_ble_eq_true rfl) ?_
                exact W.iret (v := (F_X6_costsTold ((pgd PP (F_X8_pageIn PP mp a1 a2)).2.2.2))) hx hb hr (QRs_.mk hS (by rw [hM]) (by rw [hM])) hS.2.2 dX10_page_90
              · rw [if_pos c_11] at hM
                refine lv_aload_n hx hb dX10_page_73 rfl (lv_at hl 1 rfl) ?_
                refine va_get (D := D) (ci := 13) (v := .ref h_S) (own := RX10) (C := RX10) (T := TX10) (N := 10) hx hb hts hi_X10 hown hK hP 5 rfl rfl 0 (by decide) (hts (.fieldLink RX10 50 "CanalMaps" "now" "LCanalMaps$Survey;") (List.mem_of_getElem? (i := 5) (by decide +kernel))) (fun _ h9 => h9) rfl dX10_page_74 ?_
                refine lv_aload hx hb dX10_page_77 (lv_at hl 0 rfl) ?_
                have hPg := pgw (k := (F_X8_pageIn PP mp a1 a2)) hP hlen (by have y0 := R_X10_needSurveyor c_2; have y1 := R_X10_needSurveyor c_4; have y2 := f_nlt c_5; have y3 := f_le c_6; have y4 := f_eq c_9; have y5 := f_neq c_10; have y6 := f_eq c_11; have z0 := hy0; have z1 := hy1; have e_0 : (0 : Int32).toInt = 0 := (by decide +kernel); have e_1 : (1 : Int32).toInt = 1 := (by decide +kernel); have e_2 : (2 : Int32).toInt = 2 := (by decide +kernel); have rn_X8_pageIn := R_X8_pageIn PP mp a1 a2 hpos hbig; have q_len := hlen; have q_pos := hpos; have q_big := hbig; have q_n := nI_toInt (n := PP.length) (by omega); omega)
                obtain ⟨y9, hy9⟩ : ∃ y9, (F_X8_ageOf tk ((pgd PP (F_X8_pageIn PP mp a1 a2)).2.2.1)) = y9 := ⟨_, rfl⟩
                have hcon := (c_X8_ageOf l hl0 D ad H.size h_S (pad AL (F_X8_pageIn PP mp a1 a2)) (.ref h_A) (h_S_1) (h_S_2) (.ref h_mp) (h_S_4) (.int n) (h_S_7) (h_S_8) (h_S_9) (.int (pgd PP (F_X8_pageIn PP mp a1 a2)).1) (.int (pgd PP (F_X8_pageIn PP mp a1 a2)).2.1) (.ref (qad AL (F_X8_pageIn PP mp a1 a2))) tk ((pgd PP (F_X8_pageIn PP mp a1 a2)).2.2.1))
                rw [hy9] at hcon
                refine kr_ (va_runV (As := [.ref (pad AL (F_X8_pageIn PP mp a1 a2))]) (rest := []) ⟨hx, hb, hml, hown, hts⟩ hcon (cwV 1 hts gX10_page_X8_ageOf rfl rfl rfl (by decide +kernel) ⟨Nat.le_of_ble_eq_true rfl, Nat.le_of_ble_eq_true rfl⟩) ⟨PR_.blind, va_recv hK hP (ci := 11) (q0 := 4) rfl rfl, PR_.pre hF hK ((hP.sub [4] rfl).app (hPg.sub [0] rfl)) hS hA [] rfl⟩ rfl rfl hl.1 rfl (lv_room (Nat.le_of_ble_eq_true rfl)) dX10_page_79 ⟨(Nat.le_of_ble_eq_true rfl), (Nat.le_of_ble_eq_true rfl)⟩) hP hS hA (fun H locs hP hS => ?_)
                subst hy9
                refine W.eq (g2 := F0 m 82 ls [.int (F_X8_ageOf tk ((pgd PP (F_X8_pageIn PP mp a1 a2)).2.2.1))]) rfl ?_
                refine lv_goto (tgt := 90) hx hb dX10_page_82 (by decide) ?_
                refine vx_ret ?_
                refine W.widen (k := 3) (n := 18) (Nat.le_of_ble_eq_true rfl) (Nat.le_of_ble_eq_true rfl) ?_
                exact W.iret (v := (F_X8_ageOf tk ((pgd PP (F_X8_pageIn PP mp a1 a2)).2.2.1))) hx hb hr (QRs_.mk hS (by rw [hM]) (by rw [hM])) hS.2.2 dX10_page_90
            · rw [if_pos c_10] at hM
              refine lv_aload hx hb dX10_page_62 (lv_at hl 0 rfl) ?_
              have hPg := pgw (k := (F_X8_pageIn PP mp a1 a2)) hP hlen (by have y0 := R_X10_needSurveyor c_2; have y1 := R_X10_needSurveyor c_4; have y2 := f_nlt c_5; have y3 := f_le c_6; have y4 := f_eq c_9; have y5 := f_eq c_10; have z0 := hy0; have z1 := hy1; have e_0 : (0 : Int32).toInt = 0 := (by decide +kernel); have e_2 : (2 : Int32).toInt = 2 := (by decide +kernel); have rn_X8_pageIn := R_X8_pageIn PP mp a1 a2 hpos hbig; have q_len := hlen; have q_pos := hpos; have q_big := hbig; have q_n := nI_toInt (n := PP.length) (by omega); omega)
              refine va_getN (D := D) (ci := 9) (v := .int (pgd PP (F_X8_pageIn PP mp a1 a2)).2.1) (own := RX10) (C := RX6) (T := TX6) (N := 4) hx hb hts hi_X6 hown hK hPg 0 rfl rfl 1 (by decide) (fxn_ hF (RX10, 126, "CanalMaps$Page", "serial", "I")) (fun _ h9 => h9) rfl dX10_page_64 ?_
              refine vx_ret ?_
              refine W.widen (k := 3) (n := 18) (Nat.le_of_ble_eq_true rfl) (Nat.le_of_ble_eq_true rfl) ?_
              exact W.iret (v := (pgd PP (F_X8_pageIn PP mp a1 a2)).2.1) hx hb hr (QRs_.mk hS (by rw [hM]) (by rw [hM])) hS.2.2 dX10_page_67
          · rw [if_neg c_9] at hM
            obtain ⟨sa9, hstr⟩ := fxs_ hF RX10 169 "the map has no such page"
            exact vx_throwX (own := RX10) (cls := "java/util/NoSuchElementException") (names := ["java/lang/Exception"]) (sup9 := "java/lang/RuntimeException") (ix := 13) (rx := vx_cE) hx hb hl0 (by decide +kernel) (by decide +kernel) (by decide +kernel) (by decide +kernel) hown (by decide +kernel) (by decide +kernel) (by decide +kernel) (hts (.classLink RX10 158 "java/util/NoSuchElementException") (List.mem_of_getElem? (i := 3) (by decide +kernel))) (hts (.initialized "java/util/NoSuchElementException") (List.mem_of_getElem? (i := 4) (by decide +kernel))) hstr (fxw_ hts (by decide +kernel) (by decide +kernel) (fxb_ hF "java/util/NoSuchElementException")) (by decide +kernel) hF.2.2.2.2.1 hF.2.2.2.2.2.1 hS (by rw [hml]; exact hl.1) dX10_page_48 dX10_page_51 dX10_page_52 dX10_page_54 dX10_page_57 (fun x9 hx9 => (htab x9 hx9).elim) (Nat.le_of_ble_eq_true rfl) (Nat.le_of_ble_eq_true rfl) (Nat.le_of_ble_eq_true rfl) (Nat.le_of_ble_eq_true rfl) hlocks (fun t9 _ hz9 hq9 => ⟨(Or.inr (Or.inr ⟨rfl, (by rw [hM])⟩)), xt_ hS hz9 hq9⟩) hS.2.2 (Nat.le_of_ble_eq_true rfl) (Nat.le_of_ble_eq_true rfl)
        · rw [if_neg c_6] at hM
          obtain ⟨sa9, hstr⟩ := fxs_ hF RX10 163 "what is not from 0 to 2"
          exact vx_throwS (own := RX10) (cls := "java/lang/IllegalArgumentException") (names := ["java/lang/RuntimeException", "java/lang/Exception"]) hx hb hl0 hown (by decide +kernel) (by decide +kernel) (hts (.classLink RX10 149 "java/lang/IllegalArgumentException") (List.mem_of_getElem? (i := 1) (by decide +kernel))) (hts (.initialized "java/lang/IllegalArgumentException") (List.mem_of_getElem? (i := 2) (by decide +kernel))) hstr (fxw_ hts (by decide +kernel) (by decide +kernel) (fxb_ hF "java/lang/IllegalArgumentException")) (by decide +kernel) hF.2.2.2.2.1 hF.2.2.2.2.2.1 hS (by rw [hml]; exact hl.1) dX10_page_19 dX10_page_22 dX10_page_23 dX10_page_25 dX10_page_28 (fun x9 hx9 => (htab x9 hx9).elim) (Nat.le_of_ble_eq_true rfl) (Nat.le_of_ble_eq_true rfl) (Nat.le_of_ble_eq_true rfl) (Nat.le_of_ble_eq_true rfl) hlocks (fun t9 _ hz9 hq9 => ⟨(Or.inr (Or.inl ⟨rfl, (by rw [hM])⟩)), xt_ hS hz9 hq9⟩) hS.2.2 (Nat.le_of_ble_eq_true rfl) (Nat.le_of_ble_eq_true rfl)
    · rcases hE with ⟨rfl, c_4⟩
      · rw [if_neg (show ¬ (F_X10_needSurveyor n a2) = 0 from by rw [c_4]; decide)] at hM
        exact vx_out (E := "java/lang/IndexOutOfBoundsException") (fun x9 hx9 => (htab x9 hx9).elim) hlocks hce hvm hcl (fun t9 ht9 _ => ⟨(Or.inl ⟨rfl, (by rw [hM])⟩), hS.F ht9⟩) hS.2.2 (Nat.le_of_ble_eq_true rfl) (Nat.le_of_ble_eq_true rfl)
  · rcases hE with ⟨rfl, c_2⟩
    · rw [if_neg (show ¬ (F_X10_needSurveyor n a1) = 0 from by rw [c_2]; decide)] at hM
      exact vx_out (E := "java/lang/IndexOutOfBoundsException") (fun x9 hx9 => (htab x9 hx9).elim) hlocks hce hvm hcl (fun t9 ht9 _ => ⟨(Or.inl ⟨rfl, (by rw [hM])⟩), hS.F ht9⟩) hS.2.2 (Nat.le_of_ble_eq_true rfl) (Nat.le_of_ble_eq_true rfl)
def F_X10_told (PP : List PG) (mp : Nat → Int32) (n : Int32) (a1 : Int32) (a2 : Int32) (a3 : Int32) : Nat × Int32 := (if (F_X10_needSurveyor n a1) = 0 then (if (F_X10_needSurveyor n a2) = 0 then (if (F_X10_needSurveyor n a3) = 0 then (if (F_X6_costTo ((pgd PP (F_X8_pageIn PP mp a1 a2)).2.2.2) a3) = 0 then (4, 0) else (0, (F_X6_costTo ((pgd PP (F_X8_pageIn PP mp a1 a2)).2.2.2) a3))) else (2, 0)) else (2, 0)) else (2, 0))
set_option maxHeartbeats 4000000 in
set_option maxRecDepth 100000 in
theorem c_X10_told (l : Launch) (hl0 : l.stackTraces = false) (D : va_G) (ad : Nat → Nat) (sz : Nat) (h_el : Nat) (h_li : Nat) (h_A : Nat) (h_mp : Nat) (h_S : Nat) (h_M : Nat) (k_el : ClassId) (k_mp : ClassId) (h_li_0 : Value) (h_S_1 : Value) (h_S_2 : Value) (h_S_4 : Value) (h_S_6 : Value) (h_S_7 : Value) (h_S_8 : Value) (h_S_9 : Value) (h_M_1 : Value) (h_M_2 : Value) (h_M_3 : Value) (h_M_4 : Value) (h_M_5 : Value) (h_M_6 : Value) (h_M_7 : Value) (h_M_8 : Value) (h_M_9 : Value) (kI : ClassId) (AL : List (Nat × Nat)) (PP : List PG) (capE : Nat) (mp : Nat → Int32) (n : Int32) (a1 : Int32) (a2 : Int32) (a3 : Int32) (hlen : AL.length = PP.length) (hpos : 0 < PP.length) (hbig : PP.length ≤ 2000000) (hy0 : n.toInt ≤ 6) (hy1 : PP.length ≤ capE) : vx_Met l yX10_told wsX10_told ({ frames := 7, cells := 4, slots := 24, locals := 123 }) (PR_ D ad ([(h_el, .inl (k_el, capE, .inr (.inr (.inr (.inr (egl AL)))))), (h_li, .inr (4, [h_li_0, .ref h_el, .int (nI PP.length)])), (h_A, .inr (5, [.ref h_li, .ref (pad AL 0)])), (h_mp, .inl (k_mp, 36, .inl mp)), (h_S, .inr (11, [.ref h_A, h_S_1, h_S_2, .ref h_mp, h_S_4, .int n, h_S_6, h_S_7, h_S_8, h_S_9])), (h_M, .inr (13, [.ref h_S, h_M_1, h_M_2, h_M_3, h_M_4, h_M_5, h_M_6, h_M_7, h_M_8, h_M_9]))] ++ pgl kI AL PP) [(k_el, .object "java/lang/Object"), (k_mp, .int), (kI, .int)] sz [.ref h_M, .int a1, .int a2, .int a3]) (QRs_ ((F_X10_told PP mp n a1 a2 a3).1 = 0) (some (.int (F_X10_told PP mp n a1 a2 a3).2)) (va_A [] sz)) (XR_ (fun E9 => (E9 = "java/lang/IndexOutOfBoundsException" ∧ (F_X10_told PP mp n a1 a2 a3).1 = 2) ∨ (E9 = "java/util/NoSuchElementException" ∧ (F_X10_told PP mp n a1 a2 a3).1 = 4)) (va_A [] sz)) 4 24 (va_A [] sz) := by
  refine vx_ofW (cc := cX10_told) (maxL := 5) (ret := (some .int)) (by decide) rfl ?_
  intro p e s m args below meth c s₁ B hml htab hv
  obtain ⟨rfl, hsz, hP, hK, hF⟩ := hv
  have hx := B.exec
  have hb := B.bytes
  have hr := B.returns
  have hts := atoms_spec (ws := wsX10_told) B.pre
  have hown : s.vm.findClass RX10 = some m.cls := findClass_of_methodNamed B.named
  have hlocks := B.notSynchronized
  subst hsz
  generalize hAe : va_A [] s.heap.size = A at hF ⊢
  have hA : ∀ q : Nat, s.heap.size ≤ q → A q := fun q h => by rw [← hAe]; exact Or.inr h
  obtain ⟨H, hHe⟩ : ∃ H : Heap, H = s.heap := ⟨_, rfl⟩
  have hS : va_S A s.heap H [] := by rw [hHe]; exact va_S.rf
  have hP : va_P D vwCl ([(h_el, .inl (k_el, capE, .inr (.inr (.inr (.inr (egl AL)))))), (h_li, .inr (4, [h_li_0, .ref h_el, .int (nI PP.length)])), (h_A, .inr (5, [.ref h_li, .ref (pad AL 0)])), (h_mp, .inl (k_mp, 36, .inl mp)), (h_S, .inr (11, [.ref h_A, h_S_1, h_S_2, .ref h_mp, h_S_4, .int n, h_S_6, h_S_7, h_S_8, h_S_9])), (h_M, .inr (13, [.ref h_S, h_M_1, h_M_2, h_M_3, h_M_4, h_M_5, h_M_6, h_M_7, h_M_8, h_M_9]))] ++ pgl kI AL PP) H := by rw [hHe]; exact hP
  rw [← hHe]
  have hi_X10 : ∀ w ∈ wsX100, w ∈ wsX10_told := by decide +kernel
  have hl := lv_entry [.ref h_M, .int a1, .int a2, .int a3] (n := 5) (Nat.le_of_ble_eq_true rfl)
  rw [lg_entry_eq]
  generalize (lg_sl [.ref h_M, .int a1, .int a2, .int a3] ++ List.replicate (5 - (lg_sl [.ref h_M, .int a1, .int a2, .int a3]).length) Slot.unset).toArray = ls at hl ⊢
  have hl : lv_has ls 5 [(0, .ref h_M), (1, .int a1), (2, .int a2), (3, .int a3)] := hl
  have hM : F_X10_told PP mp n a1 a2 a3 = (if (F_X10_needSurveyor n a1) = 0 then (if (F_X10_needSurveyor n a2) = 0 then (if (F_X10_needSurveyor n a3) = 0 then (if (F_X6_costTo ((pgd PP (F_X8_pageIn PP mp a1 a2)).2.2.2) a3) = 0 then (4, 0) else (0, (F_X6_costTo ((pgd PP (F_X8_pageIn PP mp a1 a2)).2.2.2) a3))) else (2, 0)) else (2, 0)) else (2, 0)) := rfl
  refine lv_aload_n hx hb dX10_told_0 rfl (lv_at hl 0 rfl) ?_
  refine lv_iload_n hx hb dX10_told_1 rfl (lv_at hl 1 rfl) ?_
  refine kzr_ (vx_runV (As := [.int a1]) (rest := []) ⟨hx, hb, hml, hown, hts⟩ (c_X10_needSurveyor l hl0 D ad H.size h_S h_M (.ref h_A) (h_S_1) (h_S_2) (.ref h_mp) (h_S_4) (h_S_6) (h_S_7) (h_S_8) (h_S_9) (h_M_1) (h_M_2) (h_M_3) (h_M_4) (h_M_5) (h_M_6) (h_M_7) (h_M_8) (h_M_9) n a1 (by have z0 := hy0; have z1 := hy1; have q_len := hlen; have q_pos := hpos; have q_big := hbig; have q_n := nI_toInt (n := PP.length) (by omega); omega)) (cwV 1 hts gX10_told_X10_needSurveyor rfl rfl rfl (by decide +kernel) ⟨Nat.le_of_ble_eq_true rfl, Nat.le_of_ble_eq_true rfl⟩) ⟨PR_.blind, va_recv hK hP (ci := 13) (q0 := 5) rfl rfl, PR_.pre hF hK (hP.sub [4, 5] rfl) hS hA [] rfl⟩ rfl rfl hl.1 rfl (lv_room (Nat.le_of_ble_eq_true rfl)) dX10_told_2 ⟨(Nat.le_of_ble_eq_true rfl), (Nat.le_of_ble_eq_true rfl)⟩) hP hS hA (fun H locs c_2 hP hS => ?_) (fun E9 ce q9 H locs hE hP hS hce hvm hcl => ?_)
  · rw [if_pos c_2] at hM
    refine W.eq (g2 := F0 m 5 ls []) rfl ?_
    refine lv_aload_n hx hb dX10_told_5 rfl (lv_at hl 0 rfl) ?_
    refine lv_iload_n hx hb dX10_told_6 rfl (lv_at hl 2 rfl) ?_
    refine kzr_ (vx_runV (As := [.int a2]) (rest := []) ⟨hx, hb, hml, hown, hts⟩ (c_X10_needSurveyor l hl0 D ad H.size h_S h_M (.ref h_A) (h_S_1) (h_S_2) (.ref h_mp) (h_S_4) (h_S_6) (h_S_7) (h_S_8) (h_S_9) (h_M_1) (h_M_2) (h_M_3) (h_M_4) (h_M_5) (h_M_6) (h_M_7) (h_M_8) (h_M_9) n a2 (by have y0 := R_X10_needSurveyor c_2; have z0 := hy0; have z1 := hy1; have q_len := hlen; have q_pos := hpos; have q_big := hbig; have q_n := nI_toInt (n := PP.length) (by omega); omega)) (cwV 1 hts gX10_told_X10_needSurveyor rfl rfl rfl (by decide +kernel) ⟨Nat.le_of_ble_eq_true rfl, Nat.le_of_ble_eq_true rfl⟩) ⟨PR_.blind, va_recv hK hP (ci := 13) (q0 := 5) rfl rfl, PR_.pre hF hK (hP.sub [4, 5] rfl) hS hA [] rfl⟩ rfl rfl hl.1 rfl (lv_room (Nat.le_of_ble_eq_true rfl)) dX10_told_7 ⟨(Nat.le_of_ble_eq_true rfl), (Nat.le_of_ble_eq_true rfl)⟩) hP hS hA (fun H locs c_4 hP hS => ?_) (fun E9 ce q9 H locs hE hP hS hce hvm hcl => ?_)
    · rw [if_pos c_4] at hM
      refine W.eq (g2 := F0 m 10 ls []) rfl ?_
      refine lv_aload_n hx hb dX10_told_10 rfl (lv_at hl 0 rfl) ?_
      refine lv_iload_n hx hb dX10_told_11 rfl (lv_at hl 3 rfl) ?_
      refine kzr_ (vx_runV (As := [.int a3]) (rest := []) ⟨hx, hb, hml, hown, hts⟩ (c_X10_needSurveyor l hl0 D ad H.size h_S h_M (.ref h_A) (h_S_1) (h_S_2) (.ref h_mp) (h_S_4) (h_S_6) (h_S_7) (h_S_8) (h_S_9) (h_M_1) (h_M_2) (h_M_3) (h_M_4) (h_M_5) (h_M_6) (h_M_7) (h_M_8) (h_M_9) n a3 (by have y0 := R_X10_needSurveyor c_2; have y1 := R_X10_needSurveyor c_4; have z0 := hy0; have z1 := hy1; have q_len := hlen; have q_pos := hpos; have q_big := hbig; have q_n := nI_toInt (n := PP.length) (by omega); omega)) (cwV 1 hts gX10_told_X10_needSurveyor rfl rfl rfl (by decide +kernel) ⟨Nat.le_of_ble_eq_true rfl, Nat.le_of_ble_eq_true rfl⟩) ⟨PR_.blind, va_recv hK hP (ci := 13) (q0 := 5) rfl rfl, PR_.pre hF hK (hP.sub [4, 5] rfl) hS hA [] rfl⟩ rfl rfl hl.1 rfl (lv_room (Nat.le_of_ble_eq_true rfl)) dX10_told_12 ⟨(Nat.le_of_ble_eq_true rfl), (Nat.le_of_ble_eq_true rfl)⟩) hP hS hA (fun H locs c_6 hP hS => ?_) (fun E9 ce q9 H locs hE hP hS hce hvm hcl => ?_)
      · rw [if_pos c_6] at hM
        refine W.eq (g2 := F0 m 15 ls []) rfl ?_
        refine lv_aload_n hx hb dX10_told_15 rfl (lv_at hl 0 rfl) ?_
        refine va_get (D := D) (ci := 13) (v := .ref h_S) (own := RX10) (C := RX10) (T := TX10) (N := 10) hx hb hts hi_X10 hown hK hP 5 rfl rfl 0 (by decide) (hts (.fieldLink RX10 50 "CanalMaps" "now" "LCanalMaps$Survey;") (List.mem_of_getElem? (i := 3) (by decide +kernel))) (fun _ h9 => h9) rfl dX10_told_16 ?_
        refine lv_iload_n hx hb dX10_told_19 rfl (lv_at hl 1 rfl) ?_
        refine lv_iload_n hx hb dX10_told_20 rfl (lv_at hl 2 rfl) ?_
        obtain ⟨y9, hy9⟩ : ∃ y9, (F_X8_pageIn PP mp a1 a2) = y9 := ⟨_, rfl⟩
        have hcon := (c_X8_pageIn l hl0 D ad H.size h_el h_li h_A h_mp h_S k_el k_mp (h_li_0) (h_S_1) (h_S_2) (h_S_4) (.int n) (h_S_6) (h_S_7) (h_S_8) (h_S_9) kI AL PP capE mp a1 a2 hlen hpos hbig (by have y0 := R_X10_needSurveyor c_2; have y1 := R_X10_needSurveyor c_4; have y2 := R_X10_needSurveyor c_6; have z0 := hy0; have z1 := hy1; have q_len := hlen; have q_pos := hpos; have q_big := hbig; have q_n := nI_toInt (n := PP.length) (by omega); omega))
        rw [hy9] at hcon
        refine kr_ (va_runV (As := [.int a1, .int a2]) (rest := []) ⟨hx, hb, hml, hown, hts⟩ hcon (cwV 2 hts gX10_told_X8_pageIn rfl rfl rfl (by decide +kernel) ⟨Nat.le_of_ble_eq_true rfl, Nat.le_of_ble_eq_true rfl⟩) ⟨PR_.blind, va_recv hK hP (ci := 11) (q0 := 4) rfl rfl, PR_.pre hF hK (hP.part [0, 1, 2, 3, 4] rfl) hS hA [0, 1, 2] rfl⟩ rfl rfl hl.1 rfl (lv_room (Nat.le_of_ble_eq_true rfl)) dX10_told_21 ⟨(Nat.le_of_ble_eq_true rfl), (Nat.le_of_ble_eq_true rfl)⟩) hP hS hA (fun H locs hP hS => ?_)
        subst hy9
        refine W.eq (g2 := F0 m 24 ls [.ref (pad AL (F_X8_pageIn PP mp a1 a2))]) rfl ?_
        refine lv_iload_n hx hb dX10_told_24 rfl (lv_at hl 3 rfl) ?_
        have hPg := pgw (k := (F_X8_pageIn PP mp a1 a2)) hP hlen (by have y0 := R_X10_needSurveyor c_2; have y1 := R_X10_needSurveyor c_4; have y2 := R_X10_needSurveyor c_6; have z0 := hy0; have z1 := hy1; have rn_X8_pageIn := R_X8_pageIn PP mp a1 a2 hpos hbig; have q_len := hlen; have q_pos := hpos; have q_big := hbig; have q_n := nI_toInt (n := PP.length) (by omega); omega)
        obtain ⟨y9, hy9⟩ : ∃ y9, (F_X6_costTo ((pgd PP (F_X8_pageIn PP mp a1 a2)).2.2.2) a3) = y9 := ⟨_, rfl⟩
        have hcon := (c_X6_costTo l hl0 D ad H.size (qad AL (F_X8_pageIn PP mp a1 a2)) (pad AL (F_X8_pageIn PP mp a1 a2)) kI (.int (pgd PP (F_X8_pageIn PP mp a1 a2)).1) (.int (pgd PP (F_X8_pageIn PP mp a1 a2)).2.1) (.int (pgd PP (F_X8_pageIn PP mp a1 a2)).2.2.1) ((pgd PP (F_X8_pageIn PP mp a1 a2)).2.2.2) a3)
        rw [hy9] at hcon
        refine kr_ (va_runV (As := [.int a3]) (rest := []) ⟨hx, hb, hml, hown, hts⟩ hcon (cwV 1 hts gX10_told_X6_costTo rfl rfl rfl (by decide +kernel) ⟨Nat.le_of_ble_eq_true rfl, Nat.le_of_ble_eq_true rfl⟩) ⟨PR_.blind, va_recv hK hPg (ci := 9) (q0 := 0) rfl rfl, PR_.pre hF hK (hPg.sub [1, 0] rfl) hS hA [2] rfl⟩ rfl rfl hl.1 rfl (lv_room (Nat.le_of_ble_eq_true rfl)) dX10_told_25 ⟨(Nat.le_of_ble_eq_true rfl), (Nat.le_of_ble_eq_true rfl)⟩) hP hS hA (fun H locs hP hS => ?_)
        subst hy9
        refine W.eq (g2 := F0 m 28 ls [.int (F_X6_costTo ((pgd PP (F_X8_pageIn PP mp a1 a2)).2.2.2) a3)]) rfl ?_
        refine lv_istore (lv' := [(4, .int (F_X6_costTo ((pgd PP (F_X8_pageIn PP mp a1 a2)).2.2.2) a3)), (0, .ref h_M), (1, .int a1), (2, .int a2), (3, .int a3)]) hx hb dX10_told_28 hl (by decide) rfl (fun ls hl => ?_)
        refine lv_iload hx hb dX10_told_30 (lv_at hl 0 rfl) ?_
        refine lv_if_ne (tgt := 45) hx hb dX10_told_32 (by decide) (fun c_9 => ?_) (fun c_9 => ?_)
        · rw [if_neg c_9] at hM
          refine lv_iload hx hb dX10_told_45 (lv_at hl 0 rfl) ?_
          refine vx_ret ?_
          refine W.widen (k := 4) (n := 24) (Nat.le_of_ble_eq_true rfl) (Nat.le_of_ble_eq_true rfl) ?_
          exact W.iret (v := (F_X6_costTo ((pgd PP (F_X8_pageIn PP mp a1 a2)).2.2.2) a3)) hx hb hr (QRs_.mk hS (by rw [hM]) (by rw [hM])) hS.2.2 dX10_told_47
        · rw [if_pos c_9] at hM
          obtain ⟨sa9, hstr⟩ := fxs_ hF RX10 182 "the map tells no such cost"
          exact vx_throwX (own := RX10) (cls := "java/util/NoSuchElementException") (names := ["java/lang/Exception"]) (sup9 := "java/lang/RuntimeException") (ix := 13) (rx := vx_cE) hx hb hl0 (by decide +kernel) (by decide +kernel) (by decide +kernel) (by decide +kernel) hown (by decide +kernel) (by decide +kernel) (by decide +kernel) (hts (.classLink RX10 158 "java/util/NoSuchElementException") (List.mem_of_getElem? (i := 1) (by decide +kernel))) (hts (.initialized "java/util/NoSuchElementException") (List.mem_of_getElem? (i := 2) (by decide +kernel))) hstr (fxw_ hts (by decide +kernel) (by decide +kernel) (fxb_ hF "java/util/NoSuchElementException")) (by decide +kernel) hF.2.2.2.2.1 hF.2.2.2.2.2.1 hS (by rw [hml]; exact hl.1) dX10_told_35 dX10_told_38 dX10_told_39 dX10_told_41 dX10_told_44 (fun x9 hx9 => (htab x9 hx9).elim) (Nat.le_of_ble_eq_true rfl) (Nat.le_of_ble_eq_true rfl) (Nat.le_of_ble_eq_true rfl) (Nat.le_of_ble_eq_true rfl) hlocks (fun t9 _ hz9 hq9 => ⟨(Or.inr ⟨rfl, (by rw [hM])⟩), xt_ hS hz9 hq9⟩) hS.2.2 (Nat.le_of_ble_eq_true rfl) (Nat.le_of_ble_eq_true rfl)
      · rcases hE with ⟨rfl, c_6⟩
        · rw [if_neg (show ¬ (F_X10_needSurveyor n a3) = 0 from by rw [c_6]; decide)] at hM
          exact vx_out (E := "java/lang/IndexOutOfBoundsException") (fun x9 hx9 => (htab x9 hx9).elim) hlocks hce hvm hcl (fun t9 ht9 _ => ⟨(Or.inl ⟨rfl, (by rw [hM])⟩), hS.F ht9⟩) hS.2.2 (Nat.le_of_ble_eq_true rfl) (Nat.le_of_ble_eq_true rfl)
    · rcases hE with ⟨rfl, c_4⟩
      · rw [if_neg (show ¬ (F_X10_needSurveyor n a2) = 0 from by rw [c_4]; decide)] at hM
        exact vx_out (E := "java/lang/IndexOutOfBoundsException") (fun x9 hx9 => (htab x9 hx9).elim) hlocks hce hvm hcl (fun t9 ht9 _ => ⟨(Or.inl ⟨rfl, (by rw [hM])⟩), hS.F ht9⟩) hS.2.2 (Nat.le_of_ble_eq_true rfl) (Nat.le_of_ble_eq_true rfl)
  · rcases hE with ⟨rfl, c_2⟩
    · rw [if_neg (show ¬ (F_X10_needSurveyor n a1) = 0 from by rw [c_2]; decide)] at hM
      exact vx_out (E := "java/lang/IndexOutOfBoundsException") (fun x9 hx9 => (htab x9 hx9).elim) hlocks hce hvm hcl (fun t9 ht9 _ => ⟨(Or.inl ⟨rfl, (by rw [hM])⟩), hS.F ht9⟩) hS.2.2 (Nat.le_of_ble_eq_true rfl) (Nat.le_of_ble_eq_true rfl)
def F_X10_letter (PP : List PG) (pk : Nat → Int32) (cn : Int32) (a1 : Int32) (a2 : Int32) : Nat × Int32 := (if a2 < 0 then (3, 0) else (if a2 ≤ 3 then (if (F_X5_has cn a1) = 0 then (4, 0) else (if a2 = 0 then (0, (F_X5_senderOf pk cn a1)) else (if a2 = 1 then (0, (F_X5_receiverOf pk cn a1)) else (if a2 = 2 then (0, (pgd PP (F_X8_pageOfLetter PP pk cn a1)).1) else (0, (pgd PP (F_X8_pageOfLetter PP pk cn a1)).2.1))))) else (3, 0)))
set_option maxHeartbeats 4000000 in
set_option maxRecDepth 100000 in
theorem c_X10_letter (l : Launch) (hl0 : l.stackTraces = false) (D : va_G) (ad : Nat → Nat) (sz : Nat) (h_el : Nat) (h_li : Nat) (h_A : Nat) (h_pk : Nat) (h_L : Nat) (h_S : Nat) (h_M : Nat) (k_el : ClassId) (k_pk : ClassId) (h_li_0 : Value) (h_L_2 : Value) (h_S_1 : Value) (h_S_2 : Value) (h_S_3 : Value) (h_S_5 : Value) (h_S_6 : Value) (h_S_7 : Value) (h_S_8 : Value) (h_S_9 : Value) (h_M_1 : Value) (h_M_2 : Value) (h_M_3 : Value) (h_M_4 : Value) (h_M_5 : Value) (h_M_6 : Value) (h_M_7 : Value) (h_M_8 : Value) (h_M_9 : Value) (kI : ClassId) (AL : List (Nat × Nat)) (PP : List PG) (capE : Nat) (cap : Nat) (pk : Nat → Int32) (cn : Int32) (a1 : Int32) (a2 : Int32) (hlen : AL.length = PP.length) (hpos : 0 < PP.length) (hbig : PP.length ≤ 2000000) (hy1 : PP.length ≤ capE) (hy2 : 0 ≤ cn.toInt) (hy3 : cn.toInt ≤ cap) (hy4 : cn.toInt ≤ 1000000) (hy5 : 64 ≤ cap) (hy6 : cap ≤ 2000000) : vx_Met l yX10_letter wsX10_letter ({ frames := 6, cells := 1, slots := 6, locals := 116 }) (PR_ D ad ([(h_el, .inl (k_el, capE, .inr (.inr (.inr (.inr (egl AL)))))), (h_li, .inr (4, [h_li_0, .ref h_el, .int (nI PP.length)])), (h_A, .inr (5, [.ref h_li, .ref (pad AL 0)])), (h_pk, .inl (k_pk, cap, .inl pk)), (h_L, .inr (8, [.ref h_pk, .int cn, h_L_2])), (h_S, .inr (11, [.ref h_A, h_S_1, h_S_2, h_S_3, .ref h_L, h_S_5, h_S_6, h_S_7, h_S_8, h_S_9])), (h_M, .inr (13, [.ref h_S, h_M_1, h_M_2, h_M_3, h_M_4, h_M_5, h_M_6, h_M_7, h_M_8, h_M_9]))] ++ pgl kI AL PP) [(k_el, .object "java/lang/Object"), (k_pk, .int), (kI, .int)] sz [.ref h_M, .int a1, .int a2]) (QRs_ ((F_X10_letter PP pk cn a1 a2).1 = 0) (some (.int (F_X10_letter PP pk cn a1 a2).2)) (va_A [] sz)) (XR_ (fun E9 => (E9 = "java/lang/IllegalArgumentException" ∧ (F_X10_letter PP pk cn a1 a2).1 = 3) ∨ (E9 = "java/util/NoSuchElementException" ∧ (F_X10_letter PP pk cn a1 a2).1 = 4)) (va_A [] sz)) 1 6 (va_A [] sz) := by
  refine vx_ofW (cc := cX10_letter) (maxL := 3) (ret := (some .int)) (by decide) rfl ?_
  intro p e s m args below meth c s₁ B hml htab hv
  obtain ⟨rfl, hsz, hP, hK, hF⟩ := hv
  have hx := B.exec
  have hb := B.bytes
  have hr := B.returns
  have hts := atoms_spec (ws := wsX10_letter) B.pre
  have hown : s.vm.findClass RX10 = some m.cls := findClass_of_methodNamed B.named
  have hlocks := B.notSynchronized
  subst hsz
  generalize hAe : va_A [] s.heap.size = A at hF ⊢
  have hA : ∀ q : Nat, s.heap.size ≤ q → A q := fun q h => by rw [← hAe]; exact Or.inr h
  obtain ⟨H, hHe⟩ : ∃ H : Heap, H = s.heap := ⟨_, rfl⟩
  have hS : va_S A s.heap H [] := by rw [hHe]; exact va_S.rf
  have hP : va_P D vwCl ([(h_el, .inl (k_el, capE, .inr (.inr (.inr (.inr (egl AL)))))), (h_li, .inr (4, [h_li_0, .ref h_el, .int (nI PP.length)])), (h_A, .inr (5, [.ref h_li, .ref (pad AL 0)])), (h_pk, .inl (k_pk, cap, .inl pk)), (h_L, .inr (8, [.ref h_pk, .int cn, h_L_2])), (h_S, .inr (11, [.ref h_A, h_S_1, h_S_2, h_S_3, .ref h_L, h_S_5, h_S_6, h_S_7, h_S_8, h_S_9])), (h_M, .inr (13, [.ref h_S, h_M_1, h_M_2, h_M_3, h_M_4, h_M_5, h_M_6, h_M_7, h_M_8, h_M_9]))] ++ pgl kI AL PP) H := by rw [hHe]; exact hP
  rw [← hHe]
  have hi_X10 : ∀ w ∈ wsX100, w ∈ wsX10_letter := by decide +kernel
  have hi_X6 : ∀ w ∈ wsX60, w ∈ wsX10_letter := by decide +kernel
  have hi_X8 : ∀ w ∈ wsX80, w ∈ wsX10_letter := by decide +kernel
  have hl := lv_entry [.ref h_M, .int a1, .int a2] (n := 3) (Nat.le_of_ble_eq_true rfl)
  rw [lg_entry_eq]
  generalize (lg_sl [.ref h_M, .int a1, .int a2] ++ List.replicate (3 - (lg_sl [.ref h_M, .int a1, .int a2]).length) Slot.unset).toArray = ls at hl ⊢
  have hl : lv_has ls 3 [(0, .ref h_M), (1, .int a1), (2, .int a2)] := hl
  have hM : F_X10_letter PP pk cn a1 a2 = (if a2 < 0 then (3, 0) else (if a2 ≤ 3 then (if (F_X5_has cn a1) = 0 then (4, 0) else (if a2 = 0 then (0, (F_X5_senderOf pk cn a1)) else (if a2 = 1 then (0, (F_X5_receiverOf pk cn a1)) else (if a2 = 2 then (0, (pgd PP (F_X8_pageOfLetter PP pk cn a1)).1) else (0, (pgd PP (F_X8_pageOfLetter PP pk cn a1)).2.1))))) else (3, 0))) := rfl
  refine lv_iload_n hx hb dX10_letter_0 rfl (lv_at hl 2 rfl) ?_
  refine lv_if_lt (tgt := 9) hx hb dX10_letter_1 (by decide) (fun c_1 => ?_) (fun c_1 => ?_)
  · rw [if_pos c_1] at hM
    obtain ⟨sa9, hstr⟩ := fxs_ hF RX10 184 "what is not from 0 to 3"
    exact vx_throwS (own := RX10) (cls := "java/lang/IllegalArgumentException") (names := ["java/lang/RuntimeException", "java/lang/Exception"]) hx hb hl0 hown (by decide +kernel) (by decide +kernel) (hts (.classLink RX10 149 "java/lang/IllegalArgumentException") (List.mem_of_getElem? (i := 1) (by decide +kernel))) (hts (.initialized "java/lang/IllegalArgumentException") (List.mem_of_getElem? (i := 2) (by decide +kernel))) hstr (fxw_ hts (by decide +kernel) (by decide +kernel) (fxb_ hF "java/lang/IllegalArgumentException")) (by decide +kernel) hF.2.2.2.2.1 hF.2.2.2.2.2.1 hS (by rw [hml]; exact hl.1) dX10_letter_9 dX10_letter_12 dX10_letter_13 dX10_letter_15 dX10_letter_18 (fun x9 hx9 => (htab x9 hx9).elim) (Nat.le_of_ble_eq_true rfl) (Nat.le_of_ble_eq_true rfl) (Nat.le_of_ble_eq_true rfl) (Nat.le_of_ble_eq_true rfl) hlocks (fun t9 _ hz9 hq9 => ⟨(Or.inl ⟨rfl, (by rw [hM])⟩), xt_ hS hz9 hq9⟩) hS.2.2 (Nat.le_of_ble_eq_true rfl) (Nat.le_of_ble_eq_true rfl)
  · rw [if_neg c_1] at hM
    refine lv_iload_n hx hb dX10_letter_4 rfl (lv_at hl 2 rfl) ?_
    refine lv_iconst (v := 3) hx hb dX10_letter_5 (by decide) ?_
    refine lv_icmp_le (tgt := 19) hx hb dX10_letter_6 (by decide) (fun c_2 => ?_) (fun c_2 => ?_)
    · rw [if_pos c_2] at hM
      refine lv_aload_n hx hb dX10_letter_19 rfl (lv_at hl 0 rfl) ?_
      refine va_get (D := D) (ci := 13) (v := .ref h_S) (own := RX10) (C := RX10) (T := TX10) (N := 10) hx hb hts hi_X10 hown hK hP 6 rfl rfl 0 (by decide) (hts (.fieldLink RX10 50 "CanalMaps" "now" "LCanalMaps$Survey;") (List.mem_of_getElem? (i := 5) (by decide +kernel))) (fun _ h9 => h9) rfl dX10_letter_20 ?_
      refine va_getN (D := D) (ci := 11) (v := .ref h_L) (own := RX10) (C := RX8) (T := TX8) (N := 10) hx hb hts hi_X8 hown hK hP 5 rfl rfl 4 (by decide) (fxn_ hF (RX10, 140, "CanalMaps$Survey", "letters", "LCanalMaps$Letters;")) (fun _ h9 => h9) rfl dX10_letter_23 ?_
      refine lv_iload_n hx hb dX10_letter_26 rfl (lv_at hl 1 rfl) ?_
      obtain ⟨y9, hy9⟩ : ∃ y9, (F_X5_has cn a1) = y9 := ⟨_, rfl⟩
      have hcon := (c_X5_has l hl0 D ad H.size h_L (.ref h_pk) (h_L_2) cn a1 (by have y0 := f_nlt c_1; have y1 := f_le c_2; have z0 := hy1; have z1 := hy2; have z2 := hy3; have z3 := hy4; have z4 := hy5; have z5 := hy6; have e_0 : (0 : Int32).toInt = 0 := (by decide +kernel); have e_3 : (3 : Int32).toInt = 3 := (by decide +kernel); have q_len := hlen; have q_pos := hpos; have q_big := hbig; have q_n := nI_toInt (n := PP.length) (by omega); omega) (by have y0 := f_nlt c_1; have y1 := f_le c_2; have z0 := hy1; have z1 := hy2; have z2 := hy3; have z3 := hy4; have z4 := hy5; have z5 := hy6; have e_0 : (0 : Int32).toInt = 0 := (by decide +kernel); have e_3 : (3 : Int32).toInt = 3 := (by decide +kernel); have q_len := hlen; have q_pos := hpos; have q_big := hbig; have q_n := nI_toInt (n := PP.length) (by omega); omega))
      rw [hy9] at hcon
      refine kr_ (va_runV (As := [.int a1]) (rest := []) ⟨hx, hb, hml, hown, hts⟩ hcon (cwV 1 hts gX10_letter_X5_has rfl rfl rfl (by decide +kernel) ⟨Nat.le_of_ble_eq_true rfl, Nat.le_of_ble_eq_true rfl⟩) ⟨PR_.blind, va_recv hK hP (ci := 8) (q0 := 4) rfl rfl, PR_.pre hF hK (hP.sub [4] rfl) hS hA [] rfl⟩ rfl rfl hl.1 rfl (lv_room (Nat.le_of_ble_eq_true rfl)) dX10_letter_27 ⟨(Nat.le_of_ble_eq_true rfl), (Nat.le_of_ble_eq_true rfl)⟩) hP hS hA (fun H locs hP hS => ?_)
      subst hy9
      refine W.eq (g2 := F0 m 30 ls [.int (F_X5_has cn a1)]) rfl ?_
      refine lv_if_ne (tgt := 43) hx hb dX10_letter_30 (by decide) (fun c_4 => ?_) (fun c_4 => ?_)
      · rw [if_neg c_4] at hM
        refine lv_iload_n hx hb dX10_letter_43 rfl (lv_at hl 2 rfl) ?_
        by_cases c_5 : a2 = 0
        · rw [if_pos c_5] at hM
          refine lv_tableIn (tgt := 72) (off := 28) hx hb dX10_letter_44 (by rw [c_5]; decide +kernel) (by rw [c_5]; decide +kernel) (by rw [c_5]; decide +kernel) (by decide) ?_
          refine lv_aload_n hx hb dX10_letter_72 rfl (lv_at hl 0 rfl) ?_
          refine va_get (D := D) (ci := 13) (v := .ref h_S) (own := RX10) (C := RX10) (T := TX10) (N := 10) hx hb hts hi_X10 hown hK hP 6 rfl rfl 0 (by decide) (hts (.fieldLink RX10 50 "CanalMaps" "now" "LCanalMaps$Survey;") (List.mem_of_getElem? (i := 5) (by decide +kernel))) (fun _ h9 => h9) rfl dX10_letter_73 ?_
          refine va_getN (D := D) (ci := 11) (v := .ref h_L) (own := RX10) (C := RX8) (T := TX8) (N := 10) hx hb hts hi_X8 hown hK hP 5 rfl rfl 4 (by decide) (fxn_ hF (RX10, 140, "CanalMaps$Survey", "letters", "LCanalMaps$Letters;")) (fun _ h9 => h9) rfl dX10_letter_76 ?_
          refine lv_iload_n hx hb dX10_letter_79 rfl (lv_at hl 1 rfl) ?_
          obtain ⟨y9, hy9⟩ : ∃ y9, (F_X5_senderOf pk cn a1) = y9 := ⟨_, rfl⟩
          have hcon := (c_X5_senderOf l hl0 D ad H.size h_pk h_L k_pk (h_L_2) cap pk cn a1 (by have y0 := f_nlt c_1; have y1 := f_le c_2; have y2 := R_X5_has c_4; have y3 := f_eq c_5; have z0 := hy1; have z1 := hy2; have z2 := hy3; have z3 := hy4; have z4 := hy5; have z5 := hy6; have e_0 : (0 : Int32).toInt = 0 := (by decide +kernel); have e_3 : (3 : Int32).toInt = 3 := (by decide +kernel); have q_len := hlen; have q_pos := hpos; have q_big := hbig; have q_n := nI_toInt (n := PP.length) (by omega); omega) (by have y0 := f_nlt c_1; have y1 := f_le c_2; have y2 := R_X5_has c_4; have y3 := f_eq c_5; have z0 := hy1; have z1 := hy2; have z2 := hy3; have z3 := hy4; have z4 := hy5; have z5 := hy6; have e_0 : (0 : Int32).toInt = 0 := (by decide +kernel); have e_3 : (3 : Int32).toInt = 3 := (by decide +kernel); have q_len := hlen; have q_pos := hpos; have q_big := hbig; have q_n := nI_toInt (n := PP.length) (by omega); omega) (by have y0 := f_nlt c_1; have y1 := f_le c_2; have y2 := R_X5_has c_4; have y3 := f_eq c_5; have z0 := hy1; have z1 := hy2; have z2 := hy3; have z3 := hy4; have z4 := hy5; have z5 := hy6; have e_0 : (0 : Int32).toInt = 0 := (by decide +kernel); have e_3 : (3 : Int32).toInt = 3 := (by decide +kernel); have q_len := hlen; have q_pos := hpos; have q_big := hbig; have q_n := nI_toInt (n := PP.length) (by omega); omega) (by have y0 := f_nlt c_1; have y1 := f_le c_2; have y2 := R_X5_has c_4; have y3 := f_eq c_5; have z0 := hy1; have z1 := hy2; have z2 := hy3; have z3 := hy4; have z4 := hy5; have z5 := hy6; have e_0 : (0 : Int32).toInt = 0 := (by decide +kernel); have e_3 : (3 : Int32).toInt = 3 := (by decide +kernel); have q_len := hlen; have q_pos := hpos; have q_big := hbig; have q_n := nI_toInt (n := PP.length) (by omega); omega) (by have y0 := f_nlt c_1; have y1 := f_le c_2; have y2 := R_X5_has c_4; have y3 := f_eq c_5; have z0 := hy1; have z1 := hy2; have z2 := hy3; have z3 := hy4; have z4 := hy5; have z5 := hy6; have e_0 : (0 : Int32).toInt = 0 := (by decide +kernel); have e_3 : (3 : Int32).toInt = 3 := (by decide +kernel); have q_len := hlen; have q_pos := hpos; have q_big := hbig; have q_n := nI_toInt (n := PP.length) (by omega); omega))
          rw [hy9] at hcon
          refine kr_ (va_runV (As := [.int a1]) (rest := []) ⟨hx, hb, hml, hown, hts⟩ hcon (cwV 1 hts gX10_letter_X5_senderOf rfl rfl rfl (by decide +kernel) ⟨Nat.le_of_ble_eq_true rfl, Nat.le_of_ble_eq_true rfl⟩) ⟨PR_.blind, va_recv hK hP (ci := 8) (q0 := 4) rfl rfl, PR_.pre hF hK (hP.sub [3, 4] rfl) hS hA [1] rfl⟩ rfl rfl hl.1 rfl (lv_room (Nat.le_of_ble_eq_true rfl)) dX10_letter_80 ⟨(Nat.le_of_ble_eq_true rfl), (Nat.le_of_ble_eq_true rfl)⟩) hP hS hA (fun H locs hP hS => ?_)
          subst hy9
          refine W.eq (g2 := F0 m 83 ls [.int (F_X5_senderOf pk cn a1)]) rfl ?_
          refine vx_ret ?_
          refine W.widen (k := 1) (n := 6) (Nat.le_of_ble_eq_true rfl) (Nat.le_of_ble_eq_true rfl) ?_
          exact W.iret (v := (F_X5_senderOf pk cn a1)) hx hb hr (QRs_.mk hS (by rw [hM]) (by rw [hM])) hS.2.2 dX10_letter_83
        rw [if_neg c_5] at hM
        by_cases c_7 : a2 = 1
        · rw [if_pos c_7] at hM
          refine lv_tableIn (tgt := 84) (off := 40) hx hb dX10_letter_44 (by rw [c_7]; decide +kernel) (by rw [c_7]; decide +kernel) (by rw [c_7]; decide +kernel) (by decide) ?_
          refine lv_aload_n hx hb dX10_letter_84 rfl (lv_at hl 0 rfl) ?_
          refine va_get (D := D) (ci := 13) (v := .ref h_S) (own := RX10) (C := RX10) (T := TX10) (N := 10) hx hb hts hi_X10 hown hK hP 6 rfl rfl 0 (by decide) (hts (.fieldLink RX10 50 "CanalMaps" "now" "LCanalMaps$Survey;") (List.mem_of_getElem? (i := 5) (by decide +kernel))) (fun _ h9 => h9) rfl dX10_letter_85 ?_
          refine va_getN (D := D) (ci := 11) (v := .ref h_L) (own := RX10) (C := RX8) (T := TX8) (N := 10) hx hb hts hi_X8 hown hK hP 5 rfl rfl 4 (by decide) (fxn_ hF (RX10, 140, "CanalMaps$Survey", "letters", "LCanalMaps$Letters;")) (fun _ h9 => h9) rfl dX10_letter_88 ?_
          refine lv_iload_n hx hb dX10_letter_91 rfl (lv_at hl 1 rfl) ?_
          obtain ⟨y9, hy9⟩ : ∃ y9, (F_X5_receiverOf pk cn a1) = y9 := ⟨_, rfl⟩
          have hcon := (c_X5_receiverOf l hl0 D ad H.size h_pk h_L k_pk (h_L_2) cap pk cn a1 (by have y0 := f_nlt c_1; have y1 := f_le c_2; have y2 := R_X5_has c_4; have y3 := f_neq c_5; have y4 := f_eq c_7; have z0 := hy1; have z1 := hy2; have z2 := hy3; have z3 := hy4; have z4 := hy5; have z5 := hy6; have e_0 : (0 : Int32).toInt = 0 := (by decide +kernel); have e_1 : (1 : Int32).toInt = 1 := (by decide +kernel); have e_3 : (3 : Int32).toInt = 3 := (by decide +kernel); have q_len := hlen; have q_pos := hpos; have q_big := hbig; have q_n := nI_toInt (n := PP.length) (by omega); omega) (by have y0 := f_nlt c_1; have y1 := f_le c_2; have y2 := R_X5_has c_4; have y3 := f_neq c_5; have y4 := f_eq c_7; have z0 := hy1; have z1 := hy2; have z2 := hy3; have z3 := hy4; have z4 := hy5; have z5 := hy6; have e_0 : (0 : Int32).toInt = 0 := (by decide +kernel); have e_1 : (1 : Int32).toInt = 1 := (by decide +kernel); have e_3 : (3 : Int32).toInt = 3 := (by decide +kernel); have q_len := hlen; have q_pos := hpos; have q_big := hbig; have q_n := nI_toInt (n := PP.length) (by omega); omega) (by have y0 := f_nlt c_1; have y1 := f_le c_2; have y2 := R_X5_has c_4; have y3 := f_neq c_5; have y4 := f_eq c_7; have z0 := hy1; have z1 := hy2; have z2 := hy3; have z3 := hy4; have z4 := hy5; have z5 := hy6; have e_0 : (0 : Int32).toInt = 0 := (by decide +kernel); have e_1 : (1 : Int32).toInt = 1 := (by decide +kernel); have e_3 : (3 : Int32).toInt = 3 := (by decide +kernel); have q_len := hlen; have q_pos := hpos; have q_big := hbig; have q_n := nI_toInt (n := PP.length) (by omega); omega) (by have y0 := f_nlt c_1; have y1 := f_le c_2; have y2 := R_X5_has c_4; have y3 := f_neq c_5; have y4 := f_eq c_7; have z0 := hy1; have z1 := hy2; have z2 := hy3; have z3 := hy4; have z4 := hy5; have z5 := hy6; have e_0 : (0 : Int32).toInt = 0 := (by decide +kernel); have e_1 : (1 : Int32).toInt = 1 := (by decide +kernel); have e_3 : (3 : Int32).toInt = 3 := (by decide +kernel); have q_len := hlen; have q_pos := hpos; have q_big := hbig; have q_n := nI_toInt (n := PP.length) (by omega); omega) (by have y0 := f_nlt c_1; have y1 := f_le c_2; have y2 := R_X5_has c_4; have y3 := f_neq c_5; have y4 := f_eq c_7; have z0 := hy1; have z1 := hy2; have z2 := hy3; have z3 := hy4; have z4 := hy5; have z5 := hy6; have e_0 : (0 : Int32).toInt = 0 := (by decide +kernel); have e_1 : (1 : Int32).toInt = 1 := (by decide +kernel); have e_3 : (3 : Int32).toInt = 3 := (by decide +kernel); have q_len := hlen; have q_pos := hpos; have q_big := hbig; have q_n := nI_toInt (n := PP.length) (by omega); omega))
          rw [hy9] at hcon
          refine kr_ (va_runV (As := [.int a1]) (rest := []) ⟨hx, hb, hml, hown, hts⟩ hcon (cwV 1 hts gX10_letter_X5_receiverOf rfl rfl rfl (by decide +kernel) ⟨Nat.le_of_ble_eq_true rfl, Nat.le_of_ble_eq_true rfl⟩) ⟨PR_.blind, va_recv hK hP (ci := 8) (q0 := 4) rfl rfl, PR_.pre hF hK (hP.sub [3, 4] rfl) hS hA [1] rfl⟩ rfl rfl hl.1 rfl (lv_room (Nat.le_of_ble_eq_true rfl)) dX10_letter_92 ⟨(Nat.le_of_ble_eq_true rfl), (Nat.le_of_ble_eq_true rfl)⟩) hP hS hA (fun H locs hP hS => ?_)
          subst hy9
          refine W.eq (g2 := F0 m 95 ls [.int (F_X5_receiverOf pk cn a1)]) rfl ?_
          refine vx_ret ?_
          refine W.widen (k := 1) (n := 6) (Nat.le_of_ble_eq_true rfl) (Nat.le_of_ble_eq_true rfl) ?_
          exact W.iret (v := (F_X5_receiverOf pk cn a1)) hx hb hr (QRs_.mk hS (by rw [hM]) (by rw [hM])) hS.2.2 dX10_letter_95
        rw [if_neg c_7] at hM
        by_cases c_9 : a2 = 2
        · rw [if_pos c_9] at hM
          refine lv_tableIn (tgt := 96) (off := 52) hx hb dX10_letter_44 (by rw [c_9]; decide +kernel) (by rw [c_9]; decide +kernel) (by rw [c_9]; decide +kernel) (by decide) ?_
          refine lv_aload_n hx hb dX10_letter_96 rfl (lv_at hl 0 rfl) ?_
          refine va_get (D := D) (ci := 13) (v := .ref h_S) (own := RX10) (C := RX10) (T := TX10) (N := 10) hx hb hts hi_X10 hown hK hP 6 rfl rfl 0 (by decide) (hts (.fieldLink RX10 50 "CanalMaps" "now" "LCanalMaps$Survey;") (List.mem_of_getElem? (i := 5) (by decide +kernel))) (fun _ h9 => h9) rfl dX10_letter_97 ?_
          refine lv_iload_n hx hb dX10_letter_100 rfl (lv_at hl 1 rfl) ?_
          obtain ⟨y9, hy9⟩ : ∃ y9, (F_X8_pageOfLetter PP pk cn a1) = y9 := ⟨_, rfl⟩
          have hcon := (c_X8_pageOfLetter l hl0 D ad H.size h_el h_li h_A h_pk h_L h_S k_el k_pk (h_li_0) (h_L_2) (h_S_1) (h_S_2) (h_S_3) (h_S_5) (h_S_6) (h_S_7) (h_S_8) (h_S_9) kI AL PP capE cap pk cn a1 hlen hpos hbig (by have y0 := f_nlt c_1; have y1 := f_le c_2; have y2 := R_X5_has c_4; have y3 := f_neq c_5; have y4 := f_neq c_7; have y5 := f_eq c_9; have z0 := hy1; have z1 := hy2; have z2 := hy3; have z3 := hy4; have z4 := hy5; have z5 := hy6; have e_0 : (0 : Int32).toInt = 0 := (by decide +kernel); have e_1 : (1 : Int32).toInt = 1 := (by decide +kernel); have e_2 : (2 : Int32).toInt = 2 := (by decide +kernel); have e_3 : (3 : Int32).toInt = 3 := (by decide +kernel); have q_len := hlen; have q_pos := hpos; have q_big := hbig; have q_n := nI_toInt (n := PP.length) (by omega); omega) (by have y0 := f_nlt c_1; have y1 := f_le c_2; have y2 := R_X5_has c_4; have y3 := f_neq c_5; have y4 := f_neq c_7; have y5 := f_eq c_9; have z0 := hy1; have z1 := hy2; have z2 := hy3; have z3 := hy4; have z4 := hy5; have z5 := hy6; have e_0 : (0 : Int32).toInt = 0 := (by decide +kernel); have e_1 : (1 : Int32).toInt = 1 := (by decide +kernel); have e_2 : (2 : Int32).toInt = 2 := (by decide +kernel); have e_3 : (3 : Int32).toInt = 3 := (by decide +kernel); have q_len := hlen; have q_pos := hpos; have q_big := hbig; have q_n := nI_toInt (n := PP.length) (by omega); omega) (by have y0 := f_nlt c_1; have y1 := f_le c_2; have y2 := R_X5_has c_4; have y3 := f_neq c_5; have y4 := f_neq c_7; have y5 := f_eq c_9; have z0 := hy1; have z1 := hy2; have z2 := hy3; have z3 := hy4; have z4 := hy5; have z5 := hy6; have e_0 : (0 : Int32).toInt = 0 := (by decide +kernel); have e_1 : (1 : Int32).toInt = 1 := (by decide +kernel); have e_2 : (2 : Int32).toInt = 2 := (by decide +kernel); have e_3 : (3 : Int32).toInt = 3 := (by decide +kernel); have q_len := hlen; have q_pos := hpos; have q_big := hbig; have q_n := nI_toInt (n := PP.length) (by omega); omega) (by have y0 := f_nlt c_1; have y1 := f_le c_2; have y2 := R_X5_has c_4; have y3 := f_neq c_5; have y4 := f_neq c_7; have y5 := f_eq c_9; have z0 := hy1; have z1 := hy2; have z2 := hy3; have z3 := hy4; have z4 := hy5; have z5 := hy6; have e_0 : (0 : Int32).toInt = 0 := (by decide +kernel); have e_1 : (1 : Int32).toInt = 1 := (by decide +kernel); have e_2 : (2 : Int32).toInt = 2 := (by decide +kernel); have e_3 : (3 : Int32).toInt = 3 := (by decide +kernel); have q_len := hlen; have q_pos := hpos; have q_big := hbig; have q_n := nI_toInt (n := PP.length) (by omega); omega) (by have y0 := f_nlt c_1; have y1 := f_le c_2; have y2 := R_X5_has c_4; have y3 := f_neq c_5; have y4 := f_neq c_7; have y5 := f_eq c_9; have z0 := hy1; have z1 := hy2; have z2 := hy3; have z3 := hy4; have z4 := hy5; have z5 := hy6; have e_0 : (0 : Int32).toInt = 0 := (by decide +kernel); have e_1 : (1 : Int32).toInt = 1 := (by decide +kernel); have e_2 : (2 : Int32).toInt = 2 := (by decide +kernel); have e_3 : (3 : Int32).toInt = 3 := (by decide +kernel); have q_len := hlen; have q_pos := hpos; have q_big := hbig; have q_n := nI_toInt (n := PP.length) (by omega); omega) (by have y0 := f_nlt c_1; have y1 := f_le c_2; have y2 := R_X5_has c_4; have y3 := f_neq c_5; have y4 := f_neq c_7; have y5 := f_eq c_9; have z0 := hy1; have z1 := hy2; have z2 := hy3; have z3 := hy4; have z4 := hy5; have z5 := hy6; have e_0 : (0 : Int32).toInt = 0 := (by decide +kernel); have e_1 : (1 : Int32).toInt = 1 := (by decide +kernel); have e_2 : (2 : Int32).toInt = 2 := (by decide +kernel); have e_3 : (3 : Int32).toInt = 3 := (by decide +kernel); have q_len := hlen; have q_pos := hpos; have q_big := hbig; have q_n := nI_toInt (n := PP.length) (by omega); omega))
          rw [hy9] at hcon
          refine kr_ (va_runV (As := [.int a1]) (rest := []) ⟨hx, hb, hml, hown, hts⟩ hcon (cwV 1 hts gX10_letter_X8_pageOfLetter rfl rfl rfl (by decide +kernel) ⟨Nat.le_of_ble_eq_true rfl, Nat.le_of_ble_eq_true rfl⟩) ⟨PR_.blind, va_recv hK hP (ci := 11) (q0 := 5) rfl rfl, PR_.pre hF hK (hP.part [0, 1, 2, 3, 4, 5] rfl) hS hA [0, 1, 2] rfl⟩ rfl rfl hl.1 rfl (lv_room (Nat.le_of_ble_eq_true rfl)) dX10_letter_101 ⟨(Nat.le_of_ble_eq_true rfl), (Nat.le_of_ble_eq_true rfl)⟩) hP hS hA (fun H locs hP hS => ?_)
          subst hy9
          refine W.eq (g2 := F0 m 104 ls [.ref (pad AL (F_X8_pageOfLetter PP pk cn a1))]) rfl ?_
          have hPg := pgw (k := (F_X8_pageOfLetter PP pk cn a1)) hP hlen (by have y0 := f_nlt c_1; have y1 := f_le c_2; have y2 := R_X5_has c_4; have y3 := f_neq c_5; have y4 := f_neq c_7; have y5 := f_eq c_9; have z0 := hy1; have z1 := hy2; have z2 := hy3; have z3 := hy4; have z4 := hy5; have z5 := hy6; have e_0 : (0 : Int32).toInt = 0 := (by decide +kernel); have e_1 : (1 : Int32).toInt = 1 := (by decide +kernel); have e_2 : (2 : Int32).toInt = 2 := (by decide +kernel); have e_3 : (3 : Int32).toInt = 3 := (by decide +kernel); have rn_X8_pageOfLetter := R_X8_pageOfLetter PP pk cn a1 hpos hbig; have q_len := hlen; have q_pos := hpos; have q_big := hbig; have q_n := nI_toInt (n := PP.length) (by omega); omega)
          refine va_getN (D := D) (ci := 9) (v := .int (pgd PP (F_X8_pageOfLetter PP pk cn a1)).1) (own := RX10) (C := RX6) (T := TX6) (N := 4) hx hb hts hi_X6 hown hK hPg 0 rfl rfl 0 (by decide) (fxn_ hF (RX10, 202, "CanalMaps$Page", "origin", "I")) (fun _ h9 => h9) rfl dX10_letter_104 ?_
          refine vx_ret ?_
          refine W.widen (k := 1) (n := 6) (Nat.le_of_ble_eq_true rfl) (Nat.le_of_ble_eq_true rfl) ?_
          exact W.iret (v := (pgd PP (F_X8_pageOfLetter PP pk cn a1)).1) hx hb hr (QRs_.mk hS (by rw [hM]) (by rw [hM])) hS.2.2 dX10_letter_107
        rw [if_neg c_9] at hM
        refine lv_tableOut (tgt := 108) hx hb dX10_letter_44 (by have y0 := f_nlt c_1; have y1 := f_le c_2; have y2 := R_X5_has c_4; have y3 := f_neq c_5; have y4 := f_neq c_7; have y5 := f_neq c_9; have z0 := hy1; have z1 := hy2; have z2 := hy3; have z3 := hy4; have z4 := hy5; have z5 := hy6; have e_0 : (0 : Int32).toInt = 0 := (by decide +kernel); have e_1 : (1 : Int32).toInt = 1 := (by decide +kernel); have e_2 : (2 : Int32).toInt = 2 := (by decide +kernel); have e_3 : (3 : Int32).toInt = 3 := (by decide +kernel); have q_len := hlen; have q_pos := hpos; have q_big := hbig; have q_n := nI_toInt (n := PP.length) (by omega); omega) (by decide) ?_
        refine lv_aload_n hx hb dX10_letter_108 rfl (lv_at hl 0 rfl) ?_
        refine va_get (D := D) (ci := 13) (v := .ref h_S) (own := RX10) (C := RX10) (T := TX10) (N := 10) hx hb hts hi_X10 hown hK hP 6 rfl rfl 0 (by decide) (hts (.fieldLink RX10 50 "CanalMaps" "now" "LCanalMaps$Survey;") (List.mem_of_getElem? (i := 5) (by decide +kernel))) (fun _ h9 => h9) rfl dX10_letter_109 ?_
        refine lv_iload_n hx hb dX10_letter_112 rfl (lv_at hl 1 rfl) ?_
        obtain ⟨y9, hy9⟩ : ∃ y9, (F_X8_pageOfLetter PP pk cn a1) = y9 := ⟨_, rfl⟩
        have hcon := (c_X8_pageOfLetter l hl0 D ad H.size h_el h_li h_A h_pk h_L h_S k_el k_pk (h_li_0) (h_L_2) (h_S_1) (h_S_2) (h_S_3) (h_S_5) (h_S_6) (h_S_7) (h_S_8) (h_S_9) kI AL PP capE cap pk cn a1 hlen hpos hbig (by have y0 := f_nlt c_1; have y1 := f_le c_2; have y2 := R_X5_has c_4; have y3 := f_neq c_5; have y4 := f_neq c_7; have y5 := f_neq c_9; have z0 := hy1; have z1 := hy2; have z2 := hy3; have z3 := hy4; have z4 := hy5; have z5 := hy6; have e_0 : (0 : Int32).toInt = 0 := (by decide +kernel); have e_1 : (1 : Int32).toInt = 1 := (by decide +kernel); have e_2 : (2 : Int32).toInt = 2 := (by decide +kernel); have e_3 : (3 : Int32).toInt = 3 := (by decide +kernel); have q_len := hlen; have q_pos := hpos; have q_big := hbig; have q_n := nI_toInt (n := PP.length) (by omega); omega) (by have y0 := f_nlt c_1; have y1 := f_le c_2; have y2 := R_X5_has c_4; have y3 := f_neq c_5; have y4 := f_neq c_7; have y5 := f_neq c_9; have z0 := hy1; have z1 := hy2; have z2 := hy3; have z3 := hy4; have z4 := hy5; have z5 := hy6; have e_0 : (0 : Int32).toInt = 0 := (by decide +kernel); have e_1 : (1 : Int32).toInt = 1 := (by decide +kernel); have e_2 : (2 : Int32).toInt = 2 := (by decide +kernel); have e_3 : (3 : Int32).toInt = 3 := (by decide +kernel); have q_len := hlen; have q_pos := hpos; have q_big := hbig; have q_n := nI_toInt (n := PP.length) (by omega); omega) (by have y0 := f_nlt c_1; have y1 := f_le c_2; have y2 := R_X5_has c_4; have y3 := f_neq c_5; have y4 := f_neq c_7; have y5 := f_neq c_9; have z0 := hy1; have z1 := hy2; have z2 := hy3; have z3 := hy4; have z4 := hy5; have z5 := hy6; have e_0 : (0 : Int32).toInt = 0 := (by decide +kernel); have e_1 : (1 : Int32).toInt = 1 := (by decide +kernel); have e_2 : (2 : Int32).toInt = 2 := (by decide +kernel); have e_3 : (3 : Int32).toInt = 3 := (by decide +kernel); have q_len := hlen; have q_pos := hpos; have q_big := hbig; have q_n := nI_toInt (n := PP.length) (by omega); omega) (by have y0 := f_nlt c_1; have y1 := f_le c_2; have y2 := R_X5_has c_4; have y3 := f_neq c_5; have y4 := f_neq c_7; have y5 := f_neq c_9; have z0 := hy1; have z1 := hy2; have z2 := hy3; have z3 := hy4; have z4 := hy5; have z5 := hy6; have e_0 : (0 : Int32).toInt = 0 := (by decide +kernel); have e_1 : (1 : Int32).toInt = 1 := (by decide +kernel); have e_2 : (2 : Int32).toInt = 2 := (by decide +kernel); have e_3 : (3 : Int32).toInt = 3 := (by decide +kernel); have q_len := hlen; have q_pos := hpos; have q_big := hbig; have q_n := nI_toInt (n := PP.length) (by omega); omega) (by have y0 := f_nlt c_1; have y1 := f_le c_2; have y2 := R_X5_has c_4; have y3 := f_neq c_5; have y4 := f_neq c_7; have y5 := f_neq c_9; have z0 := hy1; have z1 := hy2; have z2 := hy3; have z3 := hy4; have z4 := hy5; have z5 := hy6; have e_0 : (0 : Int32).toInt = 0 := (by decide +kernel); have e_1 : (1 : Int32).toInt = 1 := (by decide +kernel); have e_2 : (2 : Int32).toInt = 2 := (by decide +kernel); have e_3 : (3 : Int32).toInt = 3 := (by decide +kernel); have q_len := hlen; have q_pos := hpos; have q_big := hbig; have q_n := nI_toInt (n := PP.length) (by omega); omega) (by have y0 := f_nlt c_1; have y1 := f_le c_2; have y2 := R_X5_has c_4; have y3 := f_neq c_5; have y4 := f_neq c_7; have y5 := f_neq c_9; have z0 := hy1; have z1 := hy2; have z2 := hy3; have z3 := hy4; have z4 := hy5; have z5 := hy6; have e_0 : (0 : Int32).toInt = 0 := (by decide +kernel); have e_1 : (1 : Int32).toInt = 1 := (by decide +kernel); have e_2 : (2 : Int32).toInt = 2 := (by decide +kernel); have e_3 : (3 : Int32).toInt = 3 := (by decide +kernel); have q_len := hlen; have q_pos := hpos; have q_big := hbig; have q_n := nI_toInt (n := PP.length) (by omega); omega))
        rw [hy9] at hcon
        refine kr_ (va_runV (As := [.int a1]) (rest := []) ⟨hx, hb, hml, hown, hts⟩ hcon (cwV 1 hts gX10_letter_X8_pageOfLetter rfl rfl rfl (by decide +kernel) ⟨Nat.le_of_ble_eq_true rfl, Nat.le_of_ble_eq_true rfl⟩) ⟨PR_.blind, va_recv hK hP (ci := 11) (q0 := 5) rfl rfl, PR_.pre hF hK (hP.part [0, 1, 2, 3, 4, 5] rfl) hS hA [0, 1, 2] rfl⟩ rfl rfl hl.1 rfl (lv_room (Nat.le_of_ble_eq_true rfl)) dX10_letter_113 ⟨(Nat.le_of_ble_eq_true rfl), (Nat.le_of_ble_eq_true rfl)⟩) hP hS hA (fun H locs hP hS => ?_)
        subst hy9
        refine W.eq (g2 := F0 m 116 ls [.ref (pad AL (F_X8_pageOfLetter PP pk cn a1))]) rfl ?_
        have hPg := pgw (k := (F_X8_pageOfLetter PP pk cn a1)) hP hlen (by have y0 := f_nlt c_1; have y1 := f_le c_2; have y2 := R_X5_has c_4; have y3 := f_neq c_5; have y4 := f_neq c_7; have y5 := f_neq c_9; have z0 := hy1; have z1 := hy2; have z2 := hy3; have z3 := hy4; have z4 := hy5; have z5 := hy6; have e_0 : (0 : Int32).toInt = 0 := (by decide +kernel); have e_1 : (1 : Int32).toInt = 1 := (by decide +kernel); have e_2 : (2 : Int32).toInt = 2 := (by decide +kernel); have e_3 : (3 : Int32).toInt = 3 := (by decide +kernel); have rn_X8_pageOfLetter := R_X8_pageOfLetter PP pk cn a1 hpos hbig; have q_len := hlen; have q_pos := hpos; have q_big := hbig; have q_n := nI_toInt (n := PP.length) (by omega); omega)
        refine va_getN (D := D) (ci := 9) (v := .int (pgd PP (F_X8_pageOfLetter PP pk cn a1)).2.1) (own := RX10) (C := RX6) (T := TX6) (N := 4) hx hb hts hi_X6 hown hK hPg 0 rfl rfl 1 (by decide) (fxn_ hF (RX10, 126, "CanalMaps$Page", "serial", "I")) (fun _ h9 => h9) rfl dX10_letter_116 ?_
        refine vx_ret ?_
        refine W.widen (k := 1) (n := 6) (Nat.le_of_ble_eq_true rfl) (Nat.le_of_ble_eq_true rfl) ?_
        exact W.iret (v := (pgd PP (F_X8_pageOfLetter PP pk cn a1)).2.1) hx hb hr (QRs_.mk hS (by rw [hM]) (by rw [hM])) hS.2.2 dX10_letter_119
      · rw [if_pos c_4] at hM
        obtain ⟨sa9, hstr⟩ := fxs_ hF RX10 190 "there is no such letter"
        exact vx_throwX (own := RX10) (cls := "java/util/NoSuchElementException") (names := ["java/lang/Exception"]) (sup9 := "java/lang/RuntimeException") (ix := 13) (rx := vx_cE) hx hb hl0 (by decide +kernel) (by decide +kernel) (by decide +kernel) (by decide +kernel) hown (by decide +kernel) (by decide +kernel) (by decide +kernel) (hts (.classLink RX10 158 "java/util/NoSuchElementException") (List.mem_of_getElem? (i := 3) (by decide +kernel))) (hts (.initialized "java/util/NoSuchElementException") (List.mem_of_getElem? (i := 4) (by decide +kernel))) hstr (fxw_ hts (by decide +kernel) (by decide +kernel) (fxb_ hF "java/util/NoSuchElementException")) (by decide +kernel) hF.2.2.2.2.1 hF.2.2.2.2.2.1 hS (by rw [hml]; exact hl.1) dX10_letter_33 dX10_letter_36 dX10_letter_37 dX10_letter_39 dX10_letter_42 (fun x9 hx9 => (htab x9 hx9).elim) (Nat.le_of_ble_eq_true rfl) (Nat.le_of_ble_eq_true rfl) (Nat.le_of_ble_eq_true rfl) (Nat.le_of_ble_eq_true rfl) hlocks (fun t9 _ hz9 hq9 => ⟨(Or.inr ⟨rfl, (by rw [hM])⟩), xt_ hS hz9 hq9⟩) hS.2.2 (Nat.le_of_ble_eq_true rfl) (Nat.le_of_ble_eq_true rfl)
    · rw [if_neg c_2] at hM
      obtain ⟨sa9, hstr⟩ := fxs_ hF RX10 184 "what is not from 0 to 3"
      exact vx_throwS (own := RX10) (cls := "java/lang/IllegalArgumentException") (names := ["java/lang/RuntimeException", "java/lang/Exception"]) hx hb hl0 hown (by decide +kernel) (by decide +kernel) (hts (.classLink RX10 149 "java/lang/IllegalArgumentException") (List.mem_of_getElem? (i := 1) (by decide +kernel))) (hts (.initialized "java/lang/IllegalArgumentException") (List.mem_of_getElem? (i := 2) (by decide +kernel))) hstr (fxw_ hts (by decide +kernel) (by decide +kernel) (fxb_ hF "java/lang/IllegalArgumentException")) (by decide +kernel) hF.2.2.2.2.1 hF.2.2.2.2.2.1 hS (by rw [hml]; exact hl.1) dX10_letter_9 dX10_letter_12 dX10_letter_13 dX10_letter_15 dX10_letter_18 (fun x9 hx9 => (htab x9 hx9).elim) (Nat.le_of_ble_eq_true rfl) (Nat.le_of_ble_eq_true rfl) (Nat.le_of_ble_eq_true rfl) (Nat.le_of_ble_eq_true rfl) hlocks (fun t9 _ hz9 hq9 => ⟨(Or.inl ⟨rfl, (by rw [hM])⟩), xt_ hS hz9 hq9⟩) hS.2.2 (Nat.le_of_ble_eq_true rfl) (Nat.le_of_ble_eq_true rfl)
def F_X10_surveyorOf (PP : List PG) (ds : Nat → Int32) (cs : Nat → Int32) (mp : Nat → Int32) (pk : Nat → Int32) (cn : Int32) (n : Int32) (a1 : Int32) (a2 : Int32) : Nat × Int32 := (if (F_X10_needSurveyor n a1) = 0 then (if a2 = 0 then (0, (F_X8_districtOf ds n a1)) else (if a2 = 1 then (0, (pgd PP (F_X8_pageIn PP mp a1 a1)).2.1) else (if a2 = 2 then (0, (F_X8_neighboursOf ds cs n a1)) else (if a2 = 3 then (0, (F_X8_canalsOf cs n a1)) else (if a2 = 4 then (0, (F_X8_pagesIn PP mp n a1)) else (if a2 = 5 then (0, (F_X5_countTo pk cn a1)) else (3, 0))))))) else (2, 0))
set_option maxHeartbeats 4000000 in
set_option maxRecDepth 100000 in
theorem c_X10_surveyorOf (l : Launch) (hl0 : l.stackTraces = false) (D : va_G) (ad : Nat → Nat) (sz : Nat) (h_el : Nat) (h_li : Nat) (h_A : Nat) (h_ds : Nat) (h_cs : Nat) (h_mp : Nat) (h_pk : Nat) (h_L : Nat) (h_S : Nat) (h_M : Nat) (k_el : ClassId) (k_ds : ClassId) (k_cs : ClassId) (k_mp : ClassId) (k_pk : ClassId) (h_li_0 : Value) (h_L_2 : Value) (h_S_6 : Value) (h_S_7 : Value) (h_S_8 : Value) (h_S_9 : Value) (h_M_1 : Value) (h_M_2 : Value) (h_M_3 : Value) (h_M_4 : Value) (h_M_5 : Value) (h_M_6 : Value) (h_M_7 : Value) (h_M_8 : Value) (h_M_9 : Value) (kI : ClassId) (AL : List (Nat × Nat)) (PP : List PG) (capE : Nat) (ds : Nat → Int32) (cs : Nat → Int32) (mp : Nat → Int32) (cap : Nat) (pk : Nat → Int32) (cn : Int32) (n : Int32) (a1 : Int32) (a2 : Int32) (hlen : AL.length = PP.length) (hpos : 0 < PP.length) (hbig : PP.length ≤ 2000000) (hy0 : n.toInt ≤ 6) (hy1 : PP.length ≤ capE) (hy2 : 0 ≤ cn.toInt) (hy3 : cn.toInt ≤ cap) (hy4 : cn.toInt ≤ 1000000) (hy5 : 64 ≤ cap) (hy6 : cap ≤ 2000000) : vx_Met l yX10_surveyorOf wsX10_surveyorOf ({ frames := 7, cells := 2, slots := 12, locals := 142 }) (PR_ D ad ([(h_el, .inl (k_el, capE, .inr (.inr (.inr (.inr (egl AL)))))), (h_li, .inr (4, [h_li_0, .ref h_el, .int (nI PP.length)])), (h_A, .inr (5, [.ref h_li, .ref (pad AL 0)])), (h_ds, .inl (k_ds, 6, .inl ds)), (h_cs, .inl (k_cs, 36, .inl cs)), (h_mp, .inl (k_mp, 36, .inl mp)), (h_pk, .inl (k_pk, cap, .inl pk)), (h_L, .inr (8, [.ref h_pk, .int cn, h_L_2])), (h_S, .inr (11, [.ref h_A, .ref h_ds, .ref h_cs, .ref h_mp, .ref h_L, .int n, h_S_6, h_S_7, h_S_8, h_S_9])), (h_M, .inr (13, [.ref h_S, h_M_1, h_M_2, h_M_3, h_M_4, h_M_5, h_M_6, h_M_7, h_M_8, h_M_9]))] ++ pgl kI AL PP) [(k_el, .object "java/lang/Object"), (k_ds, .int), (k_cs, .int), (k_mp, .int), (k_pk, .int), (kI, .int)] sz [.ref h_M, .int a1, .int a2]) (QRs_ ((F_X10_surveyorOf PP ds cs mp pk cn n a1 a2).1 = 0) (some (.int (F_X10_surveyorOf PP ds cs mp pk cn n a1 a2).2)) (va_A [] sz)) (XR_ (fun E9 => (E9 = "java/lang/IndexOutOfBoundsException" ∧ (F_X10_surveyorOf PP ds cs mp pk cn n a1 a2).1 = 2) ∨ (E9 = "java/lang/IllegalArgumentException" ∧ (F_X10_surveyorOf PP ds cs mp pk cn n a1 a2).1 = 3)) (va_A [] sz)) 2 12 (va_A [] sz) := by
  refine vx_ofW (cc := cX10_surveyorOf) (maxL := 3) (ret := (some .int)) (by decide) rfl ?_
  intro p e s m args below meth c s₁ B hml htab hv
  obtain ⟨rfl, hsz, hP, hK, hF⟩ := hv
  have hx := B.exec
  have hb := B.bytes
  have hr := B.returns
  have hts := atoms_spec (ws := wsX10_surveyorOf) B.pre
  have hown : s.vm.findClass RX10 = some m.cls := findClass_of_methodNamed B.named
  have hlocks := B.notSynchronized
  subst hsz
  generalize hAe : va_A [] s.heap.size = A at hF ⊢
  have hA : ∀ q : Nat, s.heap.size ≤ q → A q := fun q h => by rw [← hAe]; exact Or.inr h
  obtain ⟨H, hHe⟩ : ∃ H : Heap, H = s.heap := ⟨_, rfl⟩
  have hS : va_S A s.heap H [] := by rw [hHe]; exact va_S.rf
  have hP : va_P D vwCl ([(h_el, .inl (k_el, capE, .inr (.inr (.inr (.inr (egl AL)))))), (h_li, .inr (4, [h_li_0, .ref h_el, .int (nI PP.length)])), (h_A, .inr (5, [.ref h_li, .ref (pad AL 0)])), (h_ds, .inl (k_ds, 6, .inl ds)), (h_cs, .inl (k_cs, 36, .inl cs)), (h_mp, .inl (k_mp, 36, .inl mp)), (h_pk, .inl (k_pk, cap, .inl pk)), (h_L, .inr (8, [.ref h_pk, .int cn, h_L_2])), (h_S, .inr (11, [.ref h_A, .ref h_ds, .ref h_cs, .ref h_mp, .ref h_L, .int n, h_S_6, h_S_7, h_S_8, h_S_9])), (h_M, .inr (13, [.ref h_S, h_M_1, h_M_2, h_M_3, h_M_4, h_M_5, h_M_6, h_M_7, h_M_8, h_M_9]))] ++ pgl kI AL PP) H := by rw [hHe]; exact hP
  rw [← hHe]
  have hi_X10 : ∀ w ∈ wsX100, w ∈ wsX10_surveyorOf := by decide +kernel
  have hi_X6 : ∀ w ∈ wsX60, w ∈ wsX10_surveyorOf := by decide +kernel
  have hi_X8 : ∀ w ∈ wsX80, w ∈ wsX10_surveyorOf := by decide +kernel
  have hl := lv_entry [.ref h_M, .int a1, .int a2] (n := 3) (Nat.le_of_ble_eq_true rfl)
  rw [lg_entry_eq]
  generalize (lg_sl [.ref h_M, .int a1, .int a2] ++ List.replicate (3 - (lg_sl [.ref h_M, .int a1, .int a2]).length) Slot.unset).toArray = ls at hl ⊢
  have hl : lv_has ls 3 [(0, .ref h_M), (1, .int a1), (2, .int a2)] := hl
  have hM : F_X10_surveyorOf PP ds cs mp pk cn n a1 a2 = (if (F_X10_needSurveyor n a1) = 0 then (if a2 = 0 then (0, (F_X8_districtOf ds n a1)) else (if a2 = 1 then (0, (pgd PP (F_X8_pageIn PP mp a1 a1)).2.1) else (if a2 = 2 then (0, (F_X8_neighboursOf ds cs n a1)) else (if a2 = 3 then (0, (F_X8_canalsOf cs n a1)) else (if a2 = 4 then (0, (F_X8_pagesIn PP mp n a1)) else (if a2 = 5 then (0, (F_X5_countTo pk cn a1)) else (3, 0))))))) else (2, 0)) := rfl
  refine lv_aload_n hx hb dX10_surveyorOf_0 rfl (lv_at hl 0 rfl) ?_
  refine lv_iload_n hx hb dX10_surveyorOf_1 rfl (lv_at hl 1 rfl) ?_
  refine kzr_ (vx_runV (As := [.int a1]) (rest := []) ⟨hx, hb, hml, hown, hts⟩ (c_X10_needSurveyor l hl0 D ad H.size h_S h_M (.ref h_A) (.ref h_ds) (.ref h_cs) (.ref h_mp) (.ref h_L) (h_S_6) (h_S_7) (h_S_8) (h_S_9) (h_M_1) (h_M_2) (h_M_3) (h_M_4) (h_M_5) (h_M_6) (h_M_7) (h_M_8) (h_M_9) n a1 (by have z0 := hy0; have z1 := hy1; have z2 := hy2; have z3 := hy3; have z4 := hy4; have z5 := hy5; have z6 := hy6; have q_len := hlen; have q_pos := hpos; have q_big := hbig; have q_n := nI_toInt (n := PP.length) (by omega); omega)) (cwV 1 hts gX10_surveyorOf_X10_needSurveyor rfl rfl rfl (by decide +kernel) ⟨Nat.le_of_ble_eq_true rfl, Nat.le_of_ble_eq_true rfl⟩) ⟨PR_.blind, va_recv hK hP (ci := 13) (q0 := 9) rfl rfl, PR_.pre hF hK (hP.sub [8, 9] rfl) hS hA [] rfl⟩ rfl rfl hl.1 rfl (lv_room (Nat.le_of_ble_eq_true rfl)) dX10_surveyorOf_2 ⟨(Nat.le_of_ble_eq_true rfl), (Nat.le_of_ble_eq_true rfl)⟩) hP hS hA (fun H locs c_2 hP hS => ?_) (fun E9 ce q9 H locs hE hP hS hce hvm hcl => ?_)
  · rw [if_pos c_2] at hM
    refine W.eq (g2 := F0 m 5 ls []) rfl ?_
    refine lv_iload_n hx hb dX10_surveyorOf_5 rfl (lv_at hl 2 rfl) ?_
    by_cases c_3 : a2 = 0
    · rw [if_pos c_3] at hM
      refine lv_tableIn (tgt := 44) (off := 38) hx hb dX10_surveyorOf_6 (by rw [c_3]; decide +kernel) (by rw [c_3]; decide +kernel) (by rw [c_3]; decide +kernel) (by decide) ?_
      refine lv_aload_n hx hb dX10_surveyorOf_44 rfl (lv_at hl 0 rfl) ?_
      refine va_get (D := D) (ci := 13) (v := .ref h_S) (own := RX10) (C := RX10) (T := TX10) (N := 10) hx hb hts hi_X10 hown hK hP 9 rfl rfl 0 (by decide) (hts (.fieldLink RX10 50 "CanalMaps" "now" "LCanalMaps$Survey;") (List.mem_of_getElem? (i := 3) (by decide +kernel))) (fun _ h9 => h9) rfl dX10_surveyorOf_45 ?_
      refine lv_iload_n hx hb dX10_surveyorOf_48 rfl (lv_at hl 1 rfl) ?_
      obtain ⟨y9, hy9⟩ : ∃ y9, (F_X8_districtOf ds n a1) = y9 := ⟨_, rfl⟩
      have hcon := (c_X8_districtOf l hl0 D ad H.size h_ds h_S k_ds (.ref h_A) (.ref h_cs) (.ref h_mp) (.ref h_L) (h_S_6) (h_S_7) (h_S_8) (h_S_9) ds n a1 (by have y0 := R_X10_needSurveyor c_2; have y1 := f_eq c_3; have z0 := hy0; have z1 := hy1; have z2 := hy2; have z3 := hy3; have z4 := hy4; have z5 := hy5; have z6 := hy6; have e_0 : (0 : Int32).toInt = 0 := (by decide +kernel); have q_len := hlen; have q_pos := hpos; have q_big := hbig; have q_n := nI_toInt (n := PP.length) (by omega); omega))
      rw [hy9] at hcon
      refine kr_ (va_runV (As := [.int a1]) (rest := []) ⟨hx, hb, hml, hown, hts⟩ hcon (cwV 1 hts gX10_surveyorOf_X8_districtOf rfl rfl rfl (by decide +kernel) ⟨Nat.le_of_ble_eq_true rfl, Nat.le_of_ble_eq_true rfl⟩) ⟨PR_.blind, va_recv hK hP (ci := 11) (q0 := 8) rfl rfl, PR_.pre hF hK (hP.sub [3, 8] rfl) hS hA [1] rfl⟩ rfl rfl hl.1 rfl (lv_room (Nat.le_of_ble_eq_true rfl)) dX10_surveyorOf_49 ⟨(Nat.le_of_ble_eq_true rfl), (Nat.le_of_ble_eq_true rfl)⟩) hP hS hA (fun H locs hP hS => ?_)
      subst hy9
      refine W.eq (g2 := F0 m 52 ls [.int (F_X8_districtOf ds n a1)]) rfl ?_
      refine vx_ret ?_
      refine W.widen (k := 2) (n := 12) (Nat.le_of_ble_eq_true rfl) (Nat.le_of_ble_eq_true rfl) ?_
      exact W.iret (v := (F_X8_districtOf ds n a1)) hx hb hr (QRs_.mk hS (by rw [hM]) (by rw [hM])) hS.2.2 dX10_surveyorOf_52
    rw [if_neg c_3] at hM
    by_cases c_5 : a2 = 1
    · rw [if_pos c_5] at hM
      refine lv_tableIn (tgt := 53) (off := 47) hx hb dX10_surveyorOf_6 (by rw [c_5]; decide +kernel) (by rw [c_5]; decide +kernel) (by rw [c_5]; decide +kernel) (by decide) ?_
      refine lv_aload_n hx hb dX10_surveyorOf_53 rfl (lv_at hl 0 rfl) ?_
      refine va_get (D := D) (ci := 13) (v := .ref h_S) (own := RX10) (C := RX10) (T := TX10) (N := 10) hx hb hts hi_X10 hown hK hP 9 rfl rfl 0 (by decide) (hts (.fieldLink RX10 50 "CanalMaps" "now" "LCanalMaps$Survey;") (List.mem_of_getElem? (i := 3) (by decide +kernel))) (fun _ h9 => h9) rfl dX10_surveyorOf_54 ?_
      refine lv_iload_n hx hb dX10_surveyorOf_57 rfl (lv_at hl 1 rfl) ?_
      refine lv_iload_n hx hb dX10_surveyorOf_58 rfl (lv_at hl 1 rfl) ?_
      obtain ⟨y9, hy9⟩ : ∃ y9, (F_X8_pageIn PP mp a1 a1) = y9 := ⟨_, rfl⟩
      have hcon := (c_X8_pageIn l hl0 D ad H.size h_el h_li h_A h_mp h_S k_el k_mp (h_li_0) (.ref h_ds) (.ref h_cs) (.ref h_L) (.int n) (h_S_6) (h_S_7) (h_S_8) (h_S_9) kI AL PP capE mp a1 a1 hlen hpos hbig (by have y0 := R_X10_needSurveyor c_2; have y1 := f_neq c_3; have y2 := f_eq c_5; have z0 := hy0; have z1 := hy1; have z2 := hy2; have z3 := hy3; have z4 := hy4; have z5 := hy5; have z6 := hy6; have e_0 : (0 : Int32).toInt = 0 := (by decide +kernel); have e_1 : (1 : Int32).toInt = 1 := (by decide +kernel); have q_len := hlen; have q_pos := hpos; have q_big := hbig; have q_n := nI_toInt (n := PP.length) (by omega); omega))
      rw [hy9] at hcon
      refine kr_ (va_runV (As := [.int a1, .int a1]) (rest := []) ⟨hx, hb, hml, hown, hts⟩ hcon (cwV 2 hts gX10_surveyorOf_X8_pageIn rfl rfl rfl (by decide +kernel) ⟨Nat.le_of_ble_eq_true rfl, Nat.le_of_ble_eq_true rfl⟩) ⟨PR_.blind, va_recv hK hP (ci := 11) (q0 := 8) rfl rfl, PR_.pre hF hK (hP.part [0, 1, 2, 5, 8] rfl) hS hA [0, 3, 5] rfl⟩ rfl rfl hl.1 rfl (lv_room (Nat.le_of_ble_eq_true rfl)) dX10_surveyorOf_59 ⟨(Nat.le_of_ble_eq_true rfl), (Nat.le_of_ble_eq_true rfl)⟩) hP hS hA (fun H locs hP hS => ?_)
      subst hy9
      refine W.eq (g2 := F0 m 62 ls [.ref (pad AL (F_X8_pageIn PP mp a1 a1))]) rfl ?_
      have hPg := pgw (k := (F_X8_pageIn PP mp a1 a1)) hP hlen (by have y0 := R_X10_needSurveyor c_2; have y1 := f_neq c_3; have y2 := f_eq c_5; have z0 := hy0; have z1 := hy1; have z2 := hy2; have z3 := hy3; have z4 := hy4; have z5 := hy5; have z6 := hy6; have e_0 : (0 : Int32).toInt = 0 := (by decide +kernel); have e_1 : (1 : Int32).toInt = 1 := (by decide +kernel); have rn_X8_pageIn := R_X8_pageIn PP mp a1 a1 hpos hbig; have q_len := hlen; have q_pos := hpos; have q_big := hbig; have q_n := nI_toInt (n := PP.length) (by omega); omega)
      refine va_getN (D := D) (ci := 9) (v := .int (pgd PP (F_X8_pageIn PP mp a1 a1)).2.1) (own := RX10) (C := RX6) (T := TX6) (N := 4) hx hb hts hi_X6 hown hK hPg 0 rfl rfl 1 (by decide) (fxn_ hF (RX10, 126, "CanalMaps$Page", "serial", "I")) (fun _ h9 => h9) rfl dX10_surveyorOf_62 ?_
      refine vx_ret ?_
      refine W.widen (k := 2) (n := 12) (Nat.le_of_ble_eq_true rfl) (Nat.le_of_ble_eq_true rfl) ?_
      exact W.iret (v := (pgd PP (F_X8_pageIn PP mp a1 a1)).2.1) hx hb hr (QRs_.mk hS (by rw [hM]) (by rw [hM])) hS.2.2 dX10_surveyorOf_65
    rw [if_neg c_5] at hM
    by_cases c_7 : a2 = 2
    · rw [if_pos c_7] at hM
      refine lv_tableIn (tgt := 66) (off := 60) hx hb dX10_surveyorOf_6 (by rw [c_7]; decide +kernel) (by rw [c_7]; decide +kernel) (by rw [c_7]; decide +kernel) (by decide) ?_
      refine lv_aload_n hx hb dX10_surveyorOf_66 rfl (lv_at hl 0 rfl) ?_
      refine va_get (D := D) (ci := 13) (v := .ref h_S) (own := RX10) (C := RX10) (T := TX10) (N := 10) hx hb hts hi_X10 hown hK hP 9 rfl rfl 0 (by decide) (hts (.fieldLink RX10 50 "CanalMaps" "now" "LCanalMaps$Survey;") (List.mem_of_getElem? (i := 3) (by decide +kernel))) (fun _ h9 => h9) rfl dX10_surveyorOf_67 ?_
      refine lv_iload_n hx hb dX10_surveyorOf_70 rfl (lv_at hl 1 rfl) ?_
      obtain ⟨y9, hy9⟩ : ∃ y9, (F_X8_neighboursOf ds cs n a1) = y9 := ⟨_, rfl⟩
      have hcon := (c_X8_neighboursOf l hl0 D ad H.size h_ds h_cs h_S k_ds k_cs (.ref h_A) (.ref h_mp) (.ref h_L) (h_S_6) (h_S_7) (h_S_8) (h_S_9) ds cs n a1 (by have y0 := R_X10_needSurveyor c_2; have y1 := f_neq c_3; have y2 := f_neq c_5; have y3 := f_eq c_7; have z0 := hy0; have z1 := hy1; have z2 := hy2; have z3 := hy3; have z4 := hy4; have z5 := hy5; have z6 := hy6; have e_0 : (0 : Int32).toInt = 0 := (by decide +kernel); have e_1 : (1 : Int32).toInt = 1 := (by decide +kernel); have e_2 : (2 : Int32).toInt = 2 := (by decide +kernel); have q_len := hlen; have q_pos := hpos; have q_big := hbig; have q_n := nI_toInt (n := PP.length) (by omega); omega))
      rw [hy9] at hcon
      refine kr_ (va_runV (As := [.int a1]) (rest := []) ⟨hx, hb, hml, hown, hts⟩ hcon (cwV 1 hts gX10_surveyorOf_X8_neighboursOf rfl rfl rfl (by decide +kernel) ⟨Nat.le_of_ble_eq_true rfl, Nat.le_of_ble_eq_true rfl⟩) ⟨PR_.blind, va_recv hK hP (ci := 11) (q0 := 8) rfl rfl, PR_.pre hF hK (hP.sub [3, 4, 8] rfl) hS hA [1, 2] rfl⟩ rfl rfl hl.1 rfl (lv_room (Nat.le_of_ble_eq_true rfl)) dX10_surveyorOf_71 ⟨(Nat.le_of_ble_eq_true rfl), (Nat.le_of_ble_eq_true rfl)⟩) hP hS hA (fun H locs hP hS => ?_)
      subst hy9
      refine W.eq (g2 := F0 m 74 ls [.int (F_X8_neighboursOf ds cs n a1)]) rfl ?_
      refine vx_ret ?_
      refine W.widen (k := 2) (n := 12) (Nat.le_of_ble_eq_true rfl) (Nat.le_of_ble_eq_true rfl) ?_
      exact W.iret (v := (F_X8_neighboursOf ds cs n a1)) hx hb hr (QRs_.mk hS (by rw [hM]) (by rw [hM])) hS.2.2 dX10_surveyorOf_74
    rw [if_neg c_7] at hM
    by_cases c_9 : a2 = 3
    · rw [if_pos c_9] at hM
      refine lv_tableIn (tgt := 75) (off := 69) hx hb dX10_surveyorOf_6 (by rw [c_9]; decide +kernel) (by rw [c_9]; decide +kernel) (by rw [c_9]; decide +kernel) (by decide) ?_
      refine lv_aload_n hx hb dX10_surveyorOf_75 rfl (lv_at hl 0 rfl) ?_
      refine va_get (D := D) (ci := 13) (v := .ref h_S) (own := RX10) (C := RX10) (T := TX10) (N := 10) hx hb hts hi_X10 hown hK hP 9 rfl rfl 0 (by decide) (hts (.fieldLink RX10 50 "CanalMaps" "now" "LCanalMaps$Survey;") (List.mem_of_getElem? (i := 3) (by decide +kernel))) (fun _ h9 => h9) rfl dX10_surveyorOf_76 ?_
      refine lv_iload_n hx hb dX10_surveyorOf_79 rfl (lv_at hl 1 rfl) ?_
      obtain ⟨y9, hy9⟩ : ∃ y9, (F_X8_canalsOf cs n a1) = y9 := ⟨_, rfl⟩
      have hcon := (c_X8_canalsOf l hl0 D ad H.size h_cs h_S k_cs (.ref h_A) (.ref h_ds) (.ref h_mp) (.ref h_L) (h_S_6) (h_S_7) (h_S_8) (h_S_9) cs n a1 (by have y0 := R_X10_needSurveyor c_2; have y1 := f_neq c_3; have y2 := f_neq c_5; have y3 := f_neq c_7; have y4 := f_eq c_9; have z0 := hy0; have z1 := hy1; have z2 := hy2; have z3 := hy3; have z4 := hy4; have z5 := hy5; have z6 := hy6; have e_0 : (0 : Int32).toInt = 0 := (by decide +kernel); have e_1 : (1 : Int32).toInt = 1 := (by decide +kernel); have e_2 : (2 : Int32).toInt = 2 := (by decide +kernel); have e_3 : (3 : Int32).toInt = 3 := (by decide +kernel); have q_len := hlen; have q_pos := hpos; have q_big := hbig; have q_n := nI_toInt (n := PP.length) (by omega); omega))
      rw [hy9] at hcon
      refine kr_ (va_runV (As := [.int a1]) (rest := []) ⟨hx, hb, hml, hown, hts⟩ hcon (cwV 1 hts gX10_surveyorOf_X8_canalsOf rfl rfl rfl (by decide +kernel) ⟨Nat.le_of_ble_eq_true rfl, Nat.le_of_ble_eq_true rfl⟩) ⟨PR_.blind, va_recv hK hP (ci := 11) (q0 := 8) rfl rfl, PR_.pre hF hK (hP.sub [4, 8] rfl) hS hA [2] rfl⟩ rfl rfl hl.1 rfl (lv_room (Nat.le_of_ble_eq_true rfl)) dX10_surveyorOf_80 ⟨(Nat.le_of_ble_eq_true rfl), (Nat.le_of_ble_eq_true rfl)⟩) hP hS hA (fun H locs hP hS => ?_)
      subst hy9
      refine W.eq (g2 := F0 m 83 ls [.int (F_X8_canalsOf cs n a1)]) rfl ?_
      refine vx_ret ?_
      refine W.widen (k := 2) (n := 12) (Nat.le_of_ble_eq_true rfl) (Nat.le_of_ble_eq_true rfl) ?_
      exact W.iret (v := (F_X8_canalsOf cs n a1)) hx hb hr (QRs_.mk hS (by rw [hM]) (by rw [hM])) hS.2.2 dX10_surveyorOf_83
    rw [if_neg c_9] at hM
    by_cases c_11 : a2 = 4
    · rw [if_pos c_11] at hM
      refine lv_tableIn (tgt := 84) (off := 78) hx hb dX10_surveyorOf_6 (by rw [c_11]; decide +kernel) (by rw [c_11]; decide +kernel) (by rw [c_11]; decide +kernel) (by decide) ?_
      refine lv_aload_n hx hb dX10_surveyorOf_84 rfl (lv_at hl 0 rfl) ?_
      refine va_get (D := D) (ci := 13) (v := .ref h_S) (own := RX10) (C := RX10) (T := TX10) (N := 10) hx hb hts hi_X10 hown hK hP 9 rfl rfl 0 (by decide) (hts (.fieldLink RX10 50 "CanalMaps" "now" "LCanalMaps$Survey;") (List.mem_of_getElem? (i := 3) (by decide +kernel))) (fun _ h9 => h9) rfl dX10_surveyorOf_85 ?_
      refine lv_iload_n hx hb dX10_surveyorOf_88 rfl (lv_at hl 1 rfl) ?_
      obtain ⟨y9, hy9⟩ : ∃ y9, (F_X8_pagesIn PP mp n a1) = y9 := ⟨_, rfl⟩
      have hcon := (c_X8_pagesIn l hl0 D ad H.size h_el h_li h_A h_mp h_S k_el k_mp (h_li_0) (.ref h_ds) (.ref h_cs) (.ref h_L) (h_S_6) (h_S_7) (h_S_8) (h_S_9) kI AL PP capE mp n a1 hlen hpos hbig (by have y0 := R_X10_needSurveyor c_2; have y1 := f_neq c_3; have y2 := f_neq c_5; have y3 := f_neq c_7; have y4 := f_neq c_9; have y5 := f_eq c_11; have z0 := hy0; have z1 := hy1; have z2 := hy2; have z3 := hy3; have z4 := hy4; have z5 := hy5; have z6 := hy6; have e_0 : (0 : Int32).toInt = 0 := (by decide +kernel); have e_1 : (1 : Int32).toInt = 1 := (by decide +kernel); have e_2 : (2 : Int32).toInt = 2 := (by decide +kernel); have e_3 : (3 : Int32).toInt = 3 := (by decide +kernel); have e_4 : (4 : Int32).toInt = 4 := (by decide +kernel); have q_len := hlen; have q_pos := hpos; have q_big := hbig; have q_n := nI_toInt (n := PP.length) (by omega); omega) (by have y0 := R_X10_needSurveyor c_2; have y1 := f_neq c_3; have y2 := f_neq c_5; have y3 := f_neq c_7; have y4 := f_neq c_9; have y5 := f_eq c_11; have z0 := hy0; have z1 := hy1; have z2 := hy2; have z3 := hy3; have z4 := hy4; have z5 := hy5; have z6 := hy6; have e_0 : (0 : Int32).toInt = 0 := (by decide +kernel); have e_1 : (1 : Int32).toInt = 1 := (by decide +kernel); have e_2 : (2 : Int32).toInt = 2 := (by decide +kernel); have e_3 : (3 : Int32).toInt = 3 := (by decide +kernel); have e_4 : (4 : Int32).toInt = 4 := (by decide +kernel); have q_len := hlen; have q_pos := hpos; have q_big := hbig; have q_n := nI_toInt (n := PP.length) (by omega); omega))
      rw [hy9] at hcon
      refine kr_ (va_runV (As := [.int a1]) (rest := []) ⟨hx, hb, hml, hown, hts⟩ hcon (cwV 1 hts gX10_surveyorOf_X8_pagesIn rfl rfl rfl (by decide +kernel) ⟨Nat.le_of_ble_eq_true rfl, Nat.le_of_ble_eq_true rfl⟩) ⟨PR_.blind, va_recv hK hP (ci := 11) (q0 := 8) rfl rfl, PR_.pre hF hK (hP.part [0, 1, 2, 5, 8] rfl) hS hA [0, 3, 5] rfl⟩ rfl rfl hl.1 rfl (lv_room (Nat.le_of_ble_eq_true rfl)) dX10_surveyorOf_89 ⟨(Nat.le_of_ble_eq_true rfl), (Nat.le_of_ble_eq_true rfl)⟩) hP hS hA (fun H locs hP hS => ?_)
      subst hy9
      refine W.eq (g2 := F0 m 92 ls [.int (F_X8_pagesIn PP mp n a1)]) rfl ?_
      refine vx_ret ?_
      refine W.widen (k := 2) (n := 12) (Nat.le_of_ble_eq_true rfl) (Nat.le_of_ble_eq_true rfl) ?_
      exact W.iret (v := (F_X8_pagesIn PP mp n a1)) hx hb hr (QRs_.mk hS (by rw [hM]) (by rw [hM])) hS.2.2 dX10_surveyorOf_92
    rw [if_neg c_11] at hM
    by_cases c_13 : a2 = 5
    · rw [if_pos c_13] at hM
      refine lv_tableIn (tgt := 93) (off := 87) hx hb dX10_surveyorOf_6 (by rw [c_13]; decide +kernel) (by rw [c_13]; decide +kernel) (by rw [c_13]; decide +kernel) (by decide) ?_
      refine lv_aload_n hx hb dX10_surveyorOf_93 rfl (lv_at hl 0 rfl) ?_
      refine va_get (D := D) (ci := 13) (v := .ref h_S) (own := RX10) (C := RX10) (T := TX10) (N := 10) hx hb hts hi_X10 hown hK hP 9 rfl rfl 0 (by decide) (hts (.fieldLink RX10 50 "CanalMaps" "now" "LCanalMaps$Survey;") (List.mem_of_getElem? (i := 3) (by decide +kernel))) (fun _ h9 => h9) rfl dX10_surveyorOf_94 ?_
      refine va_getN (D := D) (ci := 11) (v := .ref h_L) (own := RX10) (C := RX8) (T := TX8) (N := 10) hx hb hts hi_X8 hown hK hP 8 rfl rfl 4 (by decide) (fxn_ hF (RX10, 140, "CanalMaps$Survey", "letters", "LCanalMaps$Letters;")) (fun _ h9 => h9) rfl dX10_surveyorOf_97 ?_
      refine lv_iload_n hx hb dX10_surveyorOf_100 rfl (lv_at hl 1 rfl) ?_
      obtain ⟨y9, hy9⟩ : ∃ y9, (F_X5_countTo pk cn a1) = y9 := ⟨_, rfl⟩
      have hcon := (c_X5_countTo l hl0 D ad H.size h_pk h_L k_pk (h_L_2) cap pk cn a1 (by have y0 := R_X10_needSurveyor c_2; have y1 := f_neq c_3; have y2 := f_neq c_5; have y3 := f_neq c_7; have y4 := f_neq c_9; have y5 := f_neq c_11; have y6 := f_eq c_13; have z0 := hy0; have z1 := hy1; have z2 := hy2; have z3 := hy3; have z4 := hy4; have z5 := hy5; have z6 := hy6; have e_0 : (0 : Int32).toInt = 0 := (by decide +kernel); have e_1 : (1 : Int32).toInt = 1 := (by decide +kernel); have e_2 : (2 : Int32).toInt = 2 := (by decide +kernel); have e_3 : (3 : Int32).toInt = 3 := (by decide +kernel); have e_4 : (4 : Int32).toInt = 4 := (by decide +kernel); have e_5 : (5 : Int32).toInt = 5 := (by decide +kernel); have q_len := hlen; have q_pos := hpos; have q_big := hbig; have q_n := nI_toInt (n := PP.length) (by omega); omega) (by have y0 := R_X10_needSurveyor c_2; have y1 := f_neq c_3; have y2 := f_neq c_5; have y3 := f_neq c_7; have y4 := f_neq c_9; have y5 := f_neq c_11; have y6 := f_eq c_13; have z0 := hy0; have z1 := hy1; have z2 := hy2; have z3 := hy3; have z4 := hy4; have z5 := hy5; have z6 := hy6; have e_0 : (0 : Int32).toInt = 0 := (by decide +kernel); have e_1 : (1 : Int32).toInt = 1 := (by decide +kernel); have e_2 : (2 : Int32).toInt = 2 := (by decide +kernel); have e_3 : (3 : Int32).toInt = 3 := (by decide +kernel); have e_4 : (4 : Int32).toInt = 4 := (by decide +kernel); have e_5 : (5 : Int32).toInt = 5 := (by decide +kernel); have q_len := hlen; have q_pos := hpos; have q_big := hbig; have q_n := nI_toInt (n := PP.length) (by omega); omega) (by have y0 := R_X10_needSurveyor c_2; have y1 := f_neq c_3; have y2 := f_neq c_5; have y3 := f_neq c_7; have y4 := f_neq c_9; have y5 := f_neq c_11; have y6 := f_eq c_13; have z0 := hy0; have z1 := hy1; have z2 := hy2; have z3 := hy3; have z4 := hy4; have z5 := hy5; have z6 := hy6; have e_0 : (0 : Int32).toInt = 0 := (by decide +kernel); have e_1 : (1 : Int32).toInt = 1 := (by decide +kernel); have e_2 : (2 : Int32).toInt = 2 := (by decide +kernel); have e_3 : (3 : Int32).toInt = 3 := (by decide +kernel); have e_4 : (4 : Int32).toInt = 4 := (by decide +kernel); have e_5 : (5 : Int32).toInt = 5 := (by decide +kernel); have q_len := hlen; have q_pos := hpos; have q_big := hbig; have q_n := nI_toInt (n := PP.length) (by omega); omega) (by have y0 := R_X10_needSurveyor c_2; have y1 := f_neq c_3; have y2 := f_neq c_5; have y3 := f_neq c_7; have y4 := f_neq c_9; have y5 := f_neq c_11; have y6 := f_eq c_13; have z0 := hy0; have z1 := hy1; have z2 := hy2; have z3 := hy3; have z4 := hy4; have z5 := hy5; have z6 := hy6; have e_0 : (0 : Int32).toInt = 0 := (by decide +kernel); have e_1 : (1 : Int32).toInt = 1 := (by decide +kernel); have e_2 : (2 : Int32).toInt = 2 := (by decide +kernel); have e_3 : (3 : Int32).toInt = 3 := (by decide +kernel); have e_4 : (4 : Int32).toInt = 4 := (by decide +kernel); have e_5 : (5 : Int32).toInt = 5 := (by decide +kernel); have q_len := hlen; have q_pos := hpos; have q_big := hbig; have q_n := nI_toInt (n := PP.length) (by omega); omega) (by have y0 := R_X10_needSurveyor c_2; have y1 := f_neq c_3; have y2 := f_neq c_5; have y3 := f_neq c_7; have y4 := f_neq c_9; have y5 := f_neq c_11; have y6 := f_eq c_13; have z0 := hy0; have z1 := hy1; have z2 := hy2; have z3 := hy3; have z4 := hy4; have z5 := hy5; have z6 := hy6; have e_0 : (0 : Int32).toInt = 0 := (by decide +kernel); have e_1 : (1 : Int32).toInt = 1 := (by decide +kernel); have e_2 : (2 : Int32).toInt = 2 := (by decide +kernel); have e_3 : (3 : Int32).toInt = 3 := (by decide +kernel); have e_4 : (4 : Int32).toInt = 4 := (by decide +kernel); have e_5 : (5 : Int32).toInt = 5 := (by decide +kernel); have q_len := hlen; have q_pos := hpos; have q_big := hbig; have q_n := nI_toInt (n := PP.length) (by omega); omega))
      rw [hy9] at hcon
      refine kr_ (va_runV (As := [.int a1]) (rest := []) ⟨hx, hb, hml, hown, hts⟩ hcon (cwV 1 hts gX10_surveyorOf_X5_countTo rfl rfl rfl (by decide +kernel) ⟨Nat.le_of_ble_eq_true rfl, Nat.le_of_ble_eq_true rfl⟩) ⟨PR_.blind, va_recv hK hP (ci := 8) (q0 := 7) rfl rfl, PR_.pre hF hK (hP.sub [6, 7] rfl) hS hA [4] rfl⟩ rfl rfl hl.1 rfl (lv_room (Nat.le_of_ble_eq_true rfl)) dX10_surveyorOf_101 ⟨(Nat.le_of_ble_eq_true rfl), (Nat.le_of_ble_eq_true rfl)⟩) hP hS hA (fun H locs hP hS => ?_)
      subst hy9
      refine W.eq (g2 := F0 m 104 ls [.int (F_X5_countTo pk cn a1)]) rfl ?_
      refine vx_ret ?_
      refine W.widen (k := 2) (n := 12) (Nat.le_of_ble_eq_true rfl) (Nat.le_of_ble_eq_true rfl) ?_
      exact W.iret (v := (F_X5_countTo pk cn a1)) hx hb hr (QRs_.mk hS (by rw [hM]) (by rw [hM])) hS.2.2 dX10_surveyorOf_104
    rw [if_neg c_13] at hM
    refine lv_tableOut (tgt := 105) hx hb dX10_surveyorOf_6 (by have y0 := R_X10_needSurveyor c_2; have y1 := f_neq c_3; have y2 := f_neq c_5; have y3 := f_neq c_7; have y4 := f_neq c_9; have y5 := f_neq c_11; have y6 := f_neq c_13; have z0 := hy0; have z1 := hy1; have z2 := hy2; have z3 := hy3; have z4 := hy4; have z5 := hy5; have z6 := hy6; have e_0 : (0 : Int32).toInt = 0 := (by decide +kernel); have e_1 : (1 : Int32).toInt = 1 := (by decide +kernel); have e_2 : (2 : Int32).toInt = 2 := (by decide +kernel); have e_3 : (3 : Int32).toInt = 3 := (by decide +kernel); have e_4 : (4 : Int32).toInt = 4 := (by decide +kernel); have e_5 : (5 : Int32).toInt = 5 := (by decide +kernel); have q_len := hlen; have q_pos := hpos; have q_big := hbig; have q_n := nI_toInt (n := PP.length) (by omega); omega) (by decide) ?_
    obtain ⟨sa9, hstr⟩ := fxs_ hF RX10 151 "what is not from 0 to 5"
    exact vx_throwS (own := RX10) (cls := "java/lang/IllegalArgumentException") (names := ["java/lang/RuntimeException", "java/lang/Exception"]) hx hb hl0 hown (by decide +kernel) (by decide +kernel) (hts (.classLink RX10 149 "java/lang/IllegalArgumentException") (List.mem_of_getElem? (i := 1) (by decide +kernel))) (hts (.initialized "java/lang/IllegalArgumentException") (List.mem_of_getElem? (i := 2) (by decide +kernel))) hstr (fxw_ hts (by decide +kernel) (by decide +kernel) (fxb_ hF "java/lang/IllegalArgumentException")) (by decide +kernel) hF.2.2.2.2.1 hF.2.2.2.2.2.1 hS (by rw [hml]; exact hl.1) dX10_surveyorOf_105 dX10_surveyorOf_108 dX10_surveyorOf_109 dX10_surveyorOf_111 dX10_surveyorOf_114 (fun x9 hx9 => (htab x9 hx9).elim) (Nat.le_of_ble_eq_true rfl) (Nat.le_of_ble_eq_true rfl) (Nat.le_of_ble_eq_true rfl) (Nat.le_of_ble_eq_true rfl) hlocks (fun t9 _ hz9 hq9 => ⟨(Or.inr ⟨rfl, (by rw [hM])⟩), xt_ hS hz9 hq9⟩) hS.2.2 (Nat.le_of_ble_eq_true rfl) (Nat.le_of_ble_eq_true rfl)
  · rcases hE with ⟨rfl, c_2⟩
    · rw [if_neg (show ¬ (F_X10_needSurveyor n a1) = 0 from by rw [c_2]; decide)] at hM
      exact vx_out (E := "java/lang/IndexOutOfBoundsException") (fun x9 hx9 => (htab x9 hx9).elim) hlocks hce hvm hcl (fun t9 ht9 _ => ⟨(Or.inl ⟨rfl, (by rw [hM])⟩), hS.F ht9⟩) hS.2.2 (Nat.le_of_ble_eq_true rfl) (Nat.le_of_ble_eq_true rfl)
def B_X10_members_8 (ds : Nat → Int32) (n : Int32) (a1 : Int32) (rc_8 : Int32 → Int32 → (Int32 × Int32)) (x8_2 : Int32) (x8_3 : Int32) : Int32 × Int32 := (if n ≤ x8_3 then (x8_2, x8_3) else (if (F_X8_districtOf ds n x8_3) = a1 then (rc_8 (x8_2 ||| (1 <<< (x8_3 &&& 31))) (x8_3 + 1)) else (rc_8 x8_2 (x8_3 + 1))))
def L_X10_members_8 (ds : Nat → Int32) (n : Int32) (a1 : Int32) : Nat → Int32 → Int32 → (Int32 × Int32)
  | 0 => fun x8_2 x8_3 => (x8_2, x8_3)
  | k + 1 => B_X10_members_8 ds n a1 (L_X10_members_8 ds n a1 k)
def K_X10_members_8  : (Int32 × Int32) → (Nat × Int32)
  | (x8_2, x8_3) => (0, x8_2)
def F_X10_members (ds : Nat → Int32) (n : Int32) (a1 : Int32) : Nat × Int32 := (if (F_X10_needDistrict a1) = 0 then (K_X10_members_8 (L_X10_members_8 ds n a1 (((n : Int32).toInt - (0 : Int32).toInt).toNat + 1) 0 0)) else (3, 0))
set_option maxHeartbeats 4000000 in
set_option maxRecDepth 100000 in
theorem c_X10_members (l : Launch) (hl0 : l.stackTraces = false) (D : va_G) (ad : Nat → Nat) (sz : Nat) (h_ds : Nat) (h_S : Nat) (h_M : Nat) (k_ds : ClassId) (h_S_0 : Value) (h_S_2 : Value) (h_S_3 : Value) (h_S_4 : Value) (h_S_6 : Value) (h_S_7 : Value) (h_S_8 : Value) (h_S_9 : Value) (h_M_1 : Value) (h_M_2 : Value) (h_M_3 : Value) (h_M_4 : Value) (h_M_5 : Value) (h_M_6 : Value) (h_M_7 : Value) (h_M_8 : Value) (h_M_9 : Value) (ds : Nat → Int32) (n : Int32) (a1 : Int32) (hy0 : n.toInt ≤ 6) : vx_Met l yX10_members wsX10_members ({ frames := 7, cells := 1, slots := 6, locals := 122 }) (PR_ D ad [(h_ds, .inl (k_ds, 6, .inl ds)), (h_S, .inr (11, [h_S_0, .ref h_ds, h_S_2, h_S_3, h_S_4, .int n, h_S_6, h_S_7, h_S_8, h_S_9])), (h_M, .inr (13, [.ref h_S, h_M_1, h_M_2, h_M_3, h_M_4, h_M_5, h_M_6, h_M_7, h_M_8, h_M_9]))] [(k_ds, .int)] sz [.ref h_M, .int a1]) (QRs_ ((F_X10_members ds n a1).1 = 0) (some (.int (F_X10_members ds n a1).2)) (va_A [] sz)) (XR_ (fun E9 => (E9 = "java/lang/IllegalArgumentException" ∧ (F_X10_members ds n a1).1 = 3)) (va_A [] sz)) 1 6 (va_A [] sz) := by
  refine vx_ofW (cc := cX10_members) (maxL := 4) (ret := (some .int)) (by decide) rfl ?_
  intro p e s m args below meth c s₁ B hml htab hv
  obtain ⟨rfl, hsz, hP, hK, hF⟩ := hv
  have hx := B.exec
  have hb := B.bytes
  have hr := B.returns
  have hts := atoms_spec (ws := wsX10_members) B.pre
  have hown : s.vm.findClass RX10 = some m.cls := findClass_of_methodNamed B.named
  have hlocks := B.notSynchronized
  subst hsz
  generalize hAe : va_A [] s.heap.size = A at hF ⊢
  have hA : ∀ q : Nat, s.heap.size ≤ q → A q := fun q h => by rw [← hAe]; exact Or.inr h
  obtain ⟨H, hHe⟩ : ∃ H : Heap, H = s.heap := ⟨_, rfl⟩
  have hS : va_S A s.heap H [] := by rw [hHe]; exact va_S.rf
  have hP : va_P D vwCl [(h_ds, .inl (k_ds, 6, .inl ds)), (h_S, .inr (11, [h_S_0, .ref h_ds, h_S_2, h_S_3, h_S_4, .int n, h_S_6, h_S_7, h_S_8, h_S_9])), (h_M, .inr (13, [.ref h_S, h_M_1, h_M_2, h_M_3, h_M_4, h_M_5, h_M_6, h_M_7, h_M_8, h_M_9]))] H := by rw [hHe]; exact hP
  rw [← hHe]
  have hi_X10 : ∀ w ∈ wsX100, w ∈ wsX10_members := by decide +kernel
  have hi_X8 : ∀ w ∈ wsX80, w ∈ wsX10_members := by decide +kernel
  have hl := lv_entry [.ref h_M, .int a1] (n := 4) (Nat.le_of_ble_eq_true rfl)
  rw [lg_entry_eq]
  generalize (lg_sl [.ref h_M, .int a1] ++ List.replicate (4 - (lg_sl [.ref h_M, .int a1]).length) Slot.unset).toArray = ls at hl ⊢
  have hl : lv_has ls 4 [(0, .ref h_M), (1, .int a1)] := hl
  have hM : F_X10_members ds n a1 = (if (F_X10_needDistrict a1) = 0 then (K_X10_members_8 (L_X10_members_8 ds n a1 (((n : Int32).toInt - (0 : Int32).toInt).toNat + 1) 0 0)) else (3, 0)) := rfl
  refine lv_iload_n hx hb dX10_members_0 rfl (lv_at hl 1 rfl) ?_
  refine kzr_ (vx_runS (As := [.int a1]) (rest := []) ⟨hx, hb, hml, hown, hts⟩ (c_X10_needDistrict l hl0 D ad H.size a1) (va_cwS 1 hts gX10_members_X10_needDistrict rfl rfl rfl (by decide +kernel) ⟨Nat.le_of_ble_eq_true rfl, Nat.le_of_ble_eq_true rfl⟩) ⟨PR_.blind, PR_.pre hF hK (hP.sub [] rfl) hS hA [] rfl⟩ rfl rfl hl.1 rfl (lv_room (Nat.le_of_ble_eq_true rfl)) dX10_members_1 ⟨(Nat.le_of_ble_eq_true rfl), (Nat.le_of_ble_eq_true rfl)⟩) hP hS hA (fun H locs c_2 hP hS => ?_) (fun E9 ce q9 H locs hE hP hS hce hvm hcl => ?_)
  · rw [if_pos c_2] at hM
    refine W.eq (g2 := F0 m 4 ls []) rfl ?_
    refine lv_iconst (v := 0) hx hb dX10_members_4 (by decide) ?_
    refine lv_istore_n (lv' := [(2, .int 0), (0, .ref h_M), (1, .int a1)]) hx hb dX10_members_5 rfl hl (by decide) rfl (fun ls hl => ?_)
    refine lv_iconst (v := 0) hx hb dX10_members_6 (by decide) ?_
    refine lv_istore_n (lv' := [(3, .int 0), (2, .int 0), (0, .ref h_M), (1, .int a1)]) hx hb dX10_members_7 rfl hl (by decide) rfl (fun ls hl => ?_)
    refine lpW (τ := Int32 × Int32) (fun k t H locs ls c9 s9 => ((n : Int32).toInt - (t.2 : Int32).toInt).toNat < k ∧ 0 ≤ (t.2 : Int32).toInt ∧ va_P D vwCl [(h_ds, .inl (k_ds, 6, .inl ds)), (h_S, .inr (11, [h_S_0, .ref h_ds, h_S_2, h_S_3, h_S_4, .int n, h_S_6, h_S_7, h_S_8, h_S_9])), (h_M, .inr (13, [.ref h_S, h_M_1, h_M_2, h_M_3, h_M_4, h_M_5, h_M_6, h_M_7, h_M_8, h_M_9]))] H ∧ va_S A s.heap H locs ∧ lv_has ls 4 [(3, .int t.2), (2, .int t.1), (0, .ref h_M), (1, .int a1)] ∧ F_X10_members ds n a1 = (K_X10_members_8 (L_X10_members_8 ds n a1 k t.1 t.2)) ∧ c9 = 1 ∧ s9 = 6) (fun t H locs ls c9 s9 h9 => absurd h9.1 (Nat.not_lt_zero _)) (fun k_3 ih t H locs ls c9 s9 hI => ?_) (((n : Int32).toInt - (0 : Int32).toInt).toNat + 1) (0, 0) ⟨Nat.lt_succ_self _, (show 0 ≤ (0 : Int32).toInt from (by decide +kernel)), hP, hS, (by exact hl), hM, rfl, rfl⟩
    obtain ⟨x8_2, x8_3⟩ := t
    obtain ⟨hk_3, hz_3, hP, hS, hl, hM, hcs, hss⟩ := hI
    replace hcs := hcs.symm
    subst hcs
    replace hss := hss.symm
    subst hss
    have hP : va_P D vwCl [(h_ds, .inl (k_ds, 6, .inl ds)), (h_S, .inr (11, [h_S_0, .ref h_ds, h_S_2, h_S_3, h_S_4, .int n, h_S_6, h_S_7, h_S_8, h_S_9])), (h_M, .inr (13, [.ref h_S, h_M_1, h_M_2, h_M_3, h_M_4, h_M_5, h_M_6, h_M_7, h_M_8, h_M_9]))] H := hP
    have hl : lv_has ls 4 [(3, .int x8_3), (2, .int x8_2), (0, .ref h_M), (1, .int a1)] := hl
    have hz_3 : 0 ≤ (x8_3 : Int32).toInt := hz_3
    have hk_3 : ((n : Int32).toInt - (x8_3 : Int32).toInt).toNat < k_3 + 1 := hk_3
    have hM : F_X10_members ds n a1 = (K_X10_members_8 ((if n ≤ x8_3 then (x8_2, x8_3) else (if (F_X8_districtOf ds n x8_3) = a1 then ((L_X10_members_8 ds n a1 k_3) (x8_2 ||| (1 <<< (x8_3 &&& 31))) (x8_3 + 1)) else ((L_X10_members_8 ds n a1 k_3) x8_2 (x8_3 + 1)))))) := hM
    have ih_3 := ih
    refine lv_iload_n hx hb dX10_members_8 rfl (lv_at hl 0 rfl) ?_
    refine lv_aload_n hx hb dX10_members_9 rfl (lv_at hl 2 rfl) ?_
    refine va_get (D := D) (ci := 13) (v := .ref h_S) (own := RX10) (C := RX10) (T := TX10) (N := 10) hx hb hts hi_X10 hown hK hP 2 rfl rfl 0 (by decide) (hts (.fieldLink RX10 50 "CanalMaps" "now" "LCanalMaps$Survey;") (List.mem_of_getElem? (i := 1) (by decide +kernel))) (fun _ h9 => h9) rfl dX10_members_10 ?_
    refine va_getN (D := D) (ci := 11) (v := .int n) (own := RX10) (C := RX8) (T := TX8) (N := 10) hx hb hts hi_X8 hown hK hP 1 rfl rfl 5 (by decide) (fxn_ hF (RX10, 238, "CanalMaps$Survey", "surveyors", "I")) (fun _ h9 => h9) rfl dX10_members_13 ?_
    refine lv_icmp_ge (tgt := 43) hx hb dX10_members_16 (by decide) (fun c_4 => ?_) (fun c_4 => ?_)
    · rw [if_pos c_4] at hM
      have hM : F_X10_members ds n a1 = (0, x8_2) := hM
      refine lv_iload_n hx hb dX10_members_43 rfl (lv_at hl 1 rfl) ?_
      refine vx_ret ?_
      refine W.widen (k := 1) (n := 6) (Nat.le_of_ble_eq_true rfl) (Nat.le_of_ble_eq_true rfl) ?_
      exact W.iret (v := x8_2) hx hb hr (QRs_.mk hS (by rw [hM]) (by rw [hM])) hS.2.2 dX10_members_44
    · rw [if_neg c_4] at hM
      refine lv_aload_n hx hb dX10_members_19 rfl (lv_at hl 2 rfl) ?_
      refine va_get (D := D) (ci := 13) (v := .ref h_S) (own := RX10) (C := RX10) (T := TX10) (N := 10) hx hb hts hi_X10 hown hK hP 2 rfl rfl 0 (by decide) (hts (.fieldLink RX10 50 "CanalMaps" "now" "LCanalMaps$Survey;") (List.mem_of_getElem? (i := 1) (by decide +kernel))) (fun _ h9 => h9) rfl dX10_members_20 ?_
      refine lv_iload_n hx hb dX10_members_23 rfl (lv_at hl 0 rfl) ?_
      obtain ⟨y9, hy9⟩ : ∃ y9, (F_X8_districtOf ds n x8_3) = y9 := ⟨_, rfl⟩
      have hcon := (c_X8_districtOf l hl0 D ad H.size h_ds h_S k_ds (h_S_0) (h_S_2) (h_S_3) (h_S_4) (h_S_6) (h_S_7) (h_S_8) (h_S_9) ds n x8_3 (by have y0 := R_X10_needDistrict c_2; have y1 := f_nle c_4; have z0 := hy0; have z1 := hz_3; omega))
      rw [hy9] at hcon
      refine kr_ (va_runV (As := [.int x8_3]) (rest := []) ⟨hx, hb, hml, hown, hts⟩ hcon (cwV 1 hts gX10_members_X8_districtOf rfl rfl rfl (by decide +kernel) ⟨Nat.le_of_ble_eq_true rfl, Nat.le_of_ble_eq_true rfl⟩) ⟨PR_.blind, va_recv hK hP (ci := 11) (q0 := 1) rfl rfl, PR_.pre hF hK (hP.sub [0, 1] rfl) hS hA [0] rfl⟩ rfl rfl hl.1 rfl (lv_room (Nat.le_of_ble_eq_true rfl)) dX10_members_24 ⟨(Nat.le_of_ble_eq_true rfl), (Nat.le_of_ble_eq_true rfl)⟩) hP hS hA (fun H locs hP hS => ?_)
      subst hy9
      refine W.eq (g2 := F0 m 27 ls [.int (F_X8_districtOf ds n x8_3)]) rfl ?_
      refine lv_iload_n hx hb dX10_members_27 rfl (lv_at hl 3 rfl) ?_
      refine lv_icmp_ne (tgt := 37) hx hb dX10_members_28 (by decide) (fun c_6 => ?_) (fun c_6 => ?_)
      · rw [if_neg c_6] at hM
        refine lv_iinc (v := (x8_3 + 1)) (lv' := [(3, .int (x8_3 + 1)), (2, .int x8_2), (0, .ref h_M), (1, .int a1)]) hx hb dX10_members_37 hl (k := 0) rfl rfl (by decide) rfl (fun ls hl => ?_)
        refine lv_goto (tgt := 8) hx hb dX10_members_40 (by decide) ?_
        exact ih_3 (x8_2, (x8_3 + 1)) _ _ _ _ _ ⟨lp_up hk_3 c_4, lp_up0 hz_3 c_4, hP, hS, lv_sub hl [0, 1, 2, 3] rfl, hM, rfl, rfl⟩
      · rw [if_pos c_6] at hM
        refine lv_iload_n hx hb dX10_members_31 rfl (lv_at hl 1 rfl) ?_
        refine lv_iconst (v := 1) hx hb dX10_members_32 (by decide) ?_
        refine lv_iload_n hx hb dX10_members_33 rfl (lv_at hl 0 rfl) ?_
        refine lv_ishl hx hb dX10_members_34 ?_
        refine lv_ior hx hb dX10_members_35 ?_
        refine lv_istore_n (lv' := [(2, .int (x8_2 ||| (1 <<< (x8_3 &&& 31)))), (3, .int x8_3), (0, .ref h_M), (1, .int a1)]) hx hb dX10_members_36 rfl hl (by decide) rfl (fun ls hl => ?_)
        refine lv_iinc (v := (x8_3 + 1)) (lv' := [(3, .int (x8_3 + 1)), (2, .int (x8_2 ||| (1 <<< (x8_3 &&& 31)))), (0, .ref h_M), (1, .int a1)]) hx hb dX10_members_37 hl (k := 1) rfl rfl (by decide) rfl (fun ls hl => ?_)
        refine lv_goto (tgt := 8) hx hb dX10_members_40 (by decide) ?_
        exact ih_3 ((x8_2 ||| (1 <<< (x8_3 &&& 31))), (x8_3 + 1)) _ _ _ _ _ ⟨lp_up hk_3 c_4, lp_up0 hz_3 c_4, hP, hS, lv_sub hl [0, 1, 2, 3] rfl, hM, rfl, rfl⟩
  · rcases hE with ⟨rfl, c_2⟩
    · rw [if_neg (show ¬ (F_X10_needDistrict a1) = 0 from by rw [c_2]; decide)] at hM
      exact vx_out (E := "java/lang/IllegalArgumentException") (fun x9 hx9 => (htab x9 hx9).elim) hlocks hce hvm hcl (fun t9 ht9 _ => ⟨⟨rfl, (by rw [hM])⟩, hS.F ht9⟩) hS.2.2 (Nat.le_of_ble_eq_true rfl) (Nat.le_of_ble_eq_true rfl)
def B_X10_busiest_2 (PP : List PG) (ds : Nat → Int32) (cs : Nat → Int32) (mp : Nat → Int32) (n : Int32) (a1 : Int32) (rc_2 : Int32 → (Option (Nat × Int32) × Int32)) (x2_2 : Int32) : Option (Nat × Int32) × Int32 := (if n ≤ x2_2 then (none, x2_2) else (if (F_X8_countAhead PP ds cs mp n x2_2) = a1 then ((some (0, x2_2)), x2_2) else (rc_2 (x2_2 + 1))))
def L_X10_busiest_2 (PP : List PG) (ds : Nat → Int32) (cs : Nat → Int32) (mp : Nat → Int32) (n : Int32) (a1 : Int32) : Nat → Int32 → (Option (Nat × Int32) × Int32)
  | 0 => fun x2_2 => (none, x2_2)
  | k + 1 => B_X10_busiest_2 PP ds cs mp n a1 (L_X10_busiest_2 PP ds cs mp n a1 k)
def K_X10_busiest_2  : (Option (Nat × Int32) × Int32) → (Nat × Int32)
  | (some r9, _) => r9
  | (none, x2_2) => (4, 0)
def F_X10_busiest (PP : List PG) (ds : Nat → Int32) (cs : Nat → Int32) (mp : Nat → Int32) (n : Int32) (a1 : Int32) : Nat × Int32 := (K_X10_busiest_2 (L_X10_busiest_2 PP ds cs mp n a1 (((n : Int32).toInt - (0 : Int32).toInt).toNat + 1) 0))
set_option maxHeartbeats 4000000 in
set_option maxRecDepth 100000 in
theorem c_X10_busiest (l : Launch) (hl0 : l.stackTraces = false) (D : va_G) (ad : Nat → Nat) (sz : Nat) (h_el : Nat) (h_li : Nat) (h_A : Nat) (h_ds : Nat) (h_cs : Nat) (h_mp : Nat) (h_S : Nat) (h_M : Nat) (k_el : ClassId) (k_ds : ClassId) (k_cs : ClassId) (k_mp : ClassId) (h_li_0 : Value) (h_S_4 : Value) (h_S_6 : Value) (h_S_7 : Value) (h_S_8 : Value) (h_S_9 : Value) (h_M_1 : Value) (h_M_2 : Value) (h_M_3 : Value) (h_M_4 : Value) (h_M_5 : Value) (h_M_6 : Value) (h_M_7 : Value) (h_M_8 : Value) (h_M_9 : Value) (kI : ClassId) (AL : List (Nat × Nat)) (PP : List PG) (capE : Nat) (ds : Nat → Int32) (cs : Nat → Int32) (mp : Nat → Int32) (n : Int32) (a1 : Int32) (hlen : AL.length = PP.length) (hpos : 0 < PP.length) (hbig : PP.length ≤ 2000000) (hy0 : n.toInt ≤ 6) (hy1 : PP.length ≤ capE) : vx_Met l yX10_busiest wsX10_busiest ({ frames := 6, cells := 1, slots := 6, locals := 143 }) (PR_ D ad ([(h_el, .inl (k_el, capE, .inr (.inr (.inr (.inr (egl AL)))))), (h_li, .inr (4, [h_li_0, .ref h_el, .int (nI PP.length)])), (h_A, .inr (5, [.ref h_li, .ref (pad AL 0)])), (h_ds, .inl (k_ds, 6, .inl ds)), (h_cs, .inl (k_cs, 36, .inl cs)), (h_mp, .inl (k_mp, 36, .inl mp)), (h_S, .inr (11, [.ref h_A, .ref h_ds, .ref h_cs, .ref h_mp, h_S_4, .int n, h_S_6, h_S_7, h_S_8, h_S_9])), (h_M, .inr (13, [.ref h_S, h_M_1, h_M_2, h_M_3, h_M_4, h_M_5, h_M_6, h_M_7, h_M_8, h_M_9]))] ++ pgl kI AL PP) [(k_el, .object "java/lang/Object"), (k_ds, .int), (k_cs, .int), (k_mp, .int), (kI, .int)] sz [.ref h_M, .int a1]) (QRs_ ((F_X10_busiest PP ds cs mp n a1).1 = 0) (some (.int (F_X10_busiest PP ds cs mp n a1).2)) (va_A [] sz)) (XR_ (fun E9 => (E9 = "java/util/NoSuchElementException" ∧ (F_X10_busiest PP ds cs mp n a1).1 = 4)) (va_A [] sz)) 1 6 (va_A [] sz) := by
  refine vx_ofW (cc := cX10_busiest) (maxL := 3) (ret := (some .int)) (by decide) rfl ?_
  intro p e s m args below meth c s₁ B hml htab hv
  obtain ⟨rfl, hsz, hP, hK, hF⟩ := hv
  have hx := B.exec
  have hb := B.bytes
  have hr := B.returns
  have hts := atoms_spec (ws := wsX10_busiest) B.pre
  have hown : s.vm.findClass RX10 = some m.cls := findClass_of_methodNamed B.named
  have hlocks := B.notSynchronized
  subst hsz
  generalize hAe : va_A [] s.heap.size = A at hF ⊢
  have hA : ∀ q : Nat, s.heap.size ≤ q → A q := fun q h => by rw [← hAe]; exact Or.inr h
  obtain ⟨H, hHe⟩ : ∃ H : Heap, H = s.heap := ⟨_, rfl⟩
  have hS : va_S A s.heap H [] := by rw [hHe]; exact va_S.rf
  have hP : va_P D vwCl ([(h_el, .inl (k_el, capE, .inr (.inr (.inr (.inr (egl AL)))))), (h_li, .inr (4, [h_li_0, .ref h_el, .int (nI PP.length)])), (h_A, .inr (5, [.ref h_li, .ref (pad AL 0)])), (h_ds, .inl (k_ds, 6, .inl ds)), (h_cs, .inl (k_cs, 36, .inl cs)), (h_mp, .inl (k_mp, 36, .inl mp)), (h_S, .inr (11, [.ref h_A, .ref h_ds, .ref h_cs, .ref h_mp, h_S_4, .int n, h_S_6, h_S_7, h_S_8, h_S_9])), (h_M, .inr (13, [.ref h_S, h_M_1, h_M_2, h_M_3, h_M_4, h_M_5, h_M_6, h_M_7, h_M_8, h_M_9]))] ++ pgl kI AL PP) H := by rw [hHe]; exact hP
  rw [← hHe]
  have hi_X10 : ∀ w ∈ wsX100, w ∈ wsX10_busiest := by decide +kernel
  have hi_X8 : ∀ w ∈ wsX80, w ∈ wsX10_busiest := by decide +kernel
  have hl := lv_entry [.ref h_M, .int a1] (n := 3) (Nat.le_of_ble_eq_true rfl)
  rw [lg_entry_eq]
  generalize (lg_sl [.ref h_M, .int a1] ++ List.replicate (3 - (lg_sl [.ref h_M, .int a1]).length) Slot.unset).toArray = ls at hl ⊢
  have hl : lv_has ls 3 [(0, .ref h_M), (1, .int a1)] := hl
  have hM : F_X10_busiest PP ds cs mp n a1 = (K_X10_busiest_2 (L_X10_busiest_2 PP ds cs mp n a1 (((n : Int32).toInt - (0 : Int32).toInt).toNat + 1) 0)) := rfl
  refine lv_iconst (v := 0) hx hb dX10_busiest_0 (by decide) ?_
  refine lv_istore_n (lv' := [(2, .int 0), (0, .ref h_M), (1, .int a1)]) hx hb dX10_busiest_1 rfl hl (by decide) rfl (fun ls hl => ?_)
  refine lpW (τ := Int32) (fun k t H locs ls c9 s9 => ((n : Int32).toInt - (t : Int32).toInt).toNat < k ∧ 0 ≤ (t : Int32).toInt ∧ va_P D vwCl ([(h_el, .inl (k_el, capE, .inr (.inr (.inr (.inr (egl AL)))))), (h_li, .inr (4, [h_li_0, .ref h_el, .int (nI PP.length)])), (h_A, .inr (5, [.ref h_li, .ref (pad AL 0)])), (h_ds, .inl (k_ds, 6, .inl ds)), (h_cs, .inl (k_cs, 36, .inl cs)), (h_mp, .inl (k_mp, 36, .inl mp)), (h_S, .inr (11, [.ref h_A, .ref h_ds, .ref h_cs, .ref h_mp, h_S_4, .int n, h_S_6, h_S_7, h_S_8, h_S_9])), (h_M, .inr (13, [.ref h_S, h_M_1, h_M_2, h_M_3, h_M_4, h_M_5, h_M_6, h_M_7, h_M_8, h_M_9]))] ++ pgl kI AL PP) H ∧ va_S A s.heap H locs ∧ lv_has ls 3 [(2, .int t), (0, .ref h_M), (1, .int a1)] ∧ F_X10_busiest PP ds cs mp n a1 = (K_X10_busiest_2 (L_X10_busiest_2 PP ds cs mp n a1 k t)) ∧ c9 = 0 ∧ s9 = 0) (fun t H locs ls c9 s9 h9 => absurd h9.1 (Nat.not_lt_zero _)) (fun k_1 ih t H locs ls c9 s9 hI => ?_) (((n : Int32).toInt - (0 : Int32).toInt).toNat + 1) 0 ⟨Nat.lt_succ_self _, (show 0 ≤ (0 : Int32).toInt from (by decide +kernel)), hP, hS, (by exact hl), hM, rfl, rfl⟩
  obtain ⟨x2_2, hx9⟩ : ∃ x9, x9 = t := ⟨t, rfl⟩
  subst hx9
  obtain ⟨hk_1, hz_1, hP, hS, hl, hM, hcs, hss⟩ := hI
  replace hcs := hcs.symm
  subst hcs
  replace hss := hss.symm
  subst hss
  have hP : va_P D vwCl ([(h_el, .inl (k_el, capE, .inr (.inr (.inr (.inr (egl AL)))))), (h_li, .inr (4, [h_li_0, .ref h_el, .int (nI PP.length)])), (h_A, .inr (5, [.ref h_li, .ref (pad AL 0)])), (h_ds, .inl (k_ds, 6, .inl ds)), (h_cs, .inl (k_cs, 36, .inl cs)), (h_mp, .inl (k_mp, 36, .inl mp)), (h_S, .inr (11, [.ref h_A, .ref h_ds, .ref h_cs, .ref h_mp, h_S_4, .int n, h_S_6, h_S_7, h_S_8, h_S_9])), (h_M, .inr (13, [.ref h_S, h_M_1, h_M_2, h_M_3, h_M_4, h_M_5, h_M_6, h_M_7, h_M_8, h_M_9]))] ++ pgl kI AL PP) H := hP
  have hl : lv_has ls 3 [(2, .int x2_2), (0, .ref h_M), (1, .int a1)] := hl
  have hz_1 : 0 ≤ (x2_2 : Int32).toInt := hz_1
  have hk_1 : ((n : Int32).toInt - (x2_2 : Int32).toInt).toNat < k_1 + 1 := hk_1
  have hM : F_X10_busiest PP ds cs mp n a1 = (K_X10_busiest_2 ((if n ≤ x2_2 then (none, x2_2) else (if (F_X8_countAhead PP ds cs mp n x2_2) = a1 then ((some (0, x2_2)), x2_2) else ((L_X10_busiest_2 PP ds cs mp n a1 k_1) (x2_2 + 1)))))) := hM
  have ih_1 := ih
  refine lv_iload_n hx hb dX10_busiest_2 rfl (lv_at hl 0 rfl) ?_
  refine lv_aload_n hx hb dX10_busiest_3 rfl (lv_at hl 1 rfl) ?_
  refine va_get (D := D) (ci := 13) (v := .ref h_S) (own := RX10) (C := RX10) (T := TX10) (N := 10) hx hb hts hi_X10 hown hK hP 7 rfl rfl 0 (by decide) (hts (.fieldLink RX10 50 "CanalMaps" "now" "LCanalMaps$Survey;") (List.mem_of_getElem? (i := 3) (by decide +kernel))) (fun _ h9 => h9) rfl dX10_busiest_4 ?_
  refine va_getN (D := D) (ci := 11) (v := .int n) (own := RX10) (C := RX8) (T := TX8) (N := 10) hx hb hts hi_X8 hown hK hP 6 rfl rfl 5 (by decide) (fxn_ hF (RX10, 238, "CanalMaps$Survey", "surveyors", "I")) (fun _ h9 => h9) rfl dX10_busiest_7 ?_
  refine lv_icmp_ge (tgt := 33) hx hb dX10_busiest_10 (by decide) (fun c_2 => ?_) (fun c_2 => ?_)
  · rw [if_pos c_2] at hM
    have hM : F_X10_busiest PP ds cs mp n a1 = (4, 0) := hM
    obtain ⟨sa9, hstr⟩ := fxs_ hF RX10 263 "there is no such place"
    exact vx_throwXW (own := RX10) (cls := "java/util/NoSuchElementException") (names := ["java/lang/Exception"]) (sup9 := "java/lang/RuntimeException") (ix := 13) (rx := vx_cE) hx hb hl0 (by decide +kernel) (by decide +kernel) (by decide +kernel) (by decide +kernel) hown (by decide +kernel) (by decide +kernel) (by decide +kernel) (hts (.classLink RX10 158 "java/util/NoSuchElementException") (List.mem_of_getElem? (i := 1) (by decide +kernel))) (hts (.initialized "java/util/NoSuchElementException") (List.mem_of_getElem? (i := 2) (by decide +kernel))) hstr (fxw_ hts (by decide +kernel) (by decide +kernel) (fxb_ hF "java/util/NoSuchElementException")) (by decide +kernel) hF.2.2.2.2.1 hF.2.2.2.2.2.1 hS (by rw [hml]; exact hl.1) dX10_busiest_33 dX10_busiest_36 dX10_busiest_37 dX10_busiest_40 dX10_busiest_43 (fun x9 hx9 => (htab x9 hx9).elim) (Nat.le_of_ble_eq_true rfl) (Nat.le_of_ble_eq_true rfl) (Nat.le_of_ble_eq_true rfl) (Nat.le_of_ble_eq_true rfl) hlocks (fun t9 _ hz9 hq9 => ⟨⟨rfl, (by rw [hM])⟩, xt_ hS hz9 hq9⟩) hS.2.2 (Nat.le_of_ble_eq_true rfl) (Nat.le_of_ble_eq_true rfl)
  · rw [if_neg c_2] at hM
    refine lv_aload_n hx hb dX10_busiest_13 rfl (lv_at hl 1 rfl) ?_
    refine va_get (D := D) (ci := 13) (v := .ref h_S) (own := RX10) (C := RX10) (T := TX10) (N := 10) hx hb hts hi_X10 hown hK hP 7 rfl rfl 0 (by decide) (hts (.fieldLink RX10 50 "CanalMaps" "now" "LCanalMaps$Survey;") (List.mem_of_getElem? (i := 3) (by decide +kernel))) (fun _ h9 => h9) rfl dX10_busiest_14 ?_
    refine lv_iload_n hx hb dX10_busiest_17 rfl (lv_at hl 0 rfl) ?_
    obtain ⟨y9, hy9⟩ : ∃ y9, (F_X8_countAhead PP ds cs mp n x2_2) = y9 := ⟨_, rfl⟩
    have hcon := (c_X8_countAhead l hl0 D ad H.size h_el h_li h_A h_ds h_cs h_mp h_S k_el k_ds k_cs k_mp (h_li_0) (h_S_4) (h_S_6) (h_S_7) (h_S_8) (h_S_9) kI AL PP capE ds cs mp n x2_2 hlen hpos hbig (by have y0 := f_nle c_2; have z0 := hy0; have z1 := hy1; have z2 := hz_1; have q_len := hlen; have q_pos := hpos; have q_big := hbig; have q_n := nI_toInt (n := PP.length) (by omega); omega) (by have y0 := f_nle c_2; have z0 := hy0; have z1 := hy1; have z2 := hz_1; have q_len := hlen; have q_pos := hpos; have q_big := hbig; have q_n := nI_toInt (n := PP.length) (by omega); omega))
    rw [hy9] at hcon
    refine kr_ (va_runV (As := [.int x2_2]) (rest := []) ⟨hx, hb, hml, hown, hts⟩ hcon (cwV 1 hts gX10_busiest_X8_countAhead rfl rfl rfl (by decide +kernel) ⟨Nat.le_of_ble_eq_true rfl, Nat.le_of_ble_eq_true rfl⟩) ⟨PR_.blind, va_recv hK hP (ci := 11) (q0 := 6) rfl rfl, PR_.pre hF hK (hP.part [0, 1, 2, 3, 4, 5, 6] rfl) hS hA [0, 1, 2, 3, 4] rfl⟩ rfl rfl hl.1 rfl (lv_room (Nat.le_of_ble_eq_true rfl)) dX10_busiest_18 ⟨(Nat.le_of_ble_eq_true rfl), (Nat.le_of_ble_eq_true rfl)⟩) hP hS hA (fun H locs hP hS => ?_)
    subst hy9
    refine W.eq (g2 := F0 m 21 ls [.int (F_X8_countAhead PP ds cs mp n x2_2)]) rfl ?_
    refine lv_iload_n hx hb dX10_busiest_21 rfl (lv_at hl 2 rfl) ?_
    refine lv_icmp_ne (tgt := 27) hx hb dX10_busiest_22 (by decide) (fun c_4 => ?_) (fun c_4 => ?_)
    · rw [if_neg c_4] at hM
      refine lv_iinc (v := (x2_2 + 1)) (lv' := [(2, .int (x2_2 + 1)), (0, .ref h_M), (1, .int a1)]) hx hb dX10_busiest_27 hl (k := 0) rfl rfl (by decide) rfl (fun ls hl => ?_)
      refine lv_goto (tgt := 2) hx hb dX10_busiest_30 (by decide) ?_
      exact ih_1 (x2_2 + 1) _ _ _ _ _ ⟨lp_up hk_1 c_2, lp_up0 hz_1 c_2, hP, hS, lv_sub hl [0, 1, 2] rfl, hM, rfl, rfl⟩
    · rw [if_pos c_4] at hM
      have hM : F_X10_busiest PP ds cs mp n a1 = (0, x2_2) := hM
      refine lv_iload_n hx hb dX10_busiest_25 rfl (lv_at hl 0 rfl) ?_
      refine vx_ret ?_
      refine W.widen (k := 1) (n := 6) (Nat.le_of_ble_eq_true rfl) (Nat.le_of_ble_eq_true rfl) ?_
      exact W.iret (v := x2_2) hx hb hr (QRs_.mk hS (by rw [hM]) (by rw [hM])) hS.2.2 dX10_busiest_26
def B_X10_agree_19 (PP : List PG) (ds : Nat → Int32) (mp : Nat → Int32) (n : Int32) (a1 : Int32) (x6_2 : Int32) (rc_19 : Int32 → (Option (Nat × Int32) × Int32)) (x19_3 : Int32) : Option (Nat × Int32) × Int32 := (if x6_2 ≤ x19_3 then (none, x19_3) else (if (F_X8_districtOf ds n x6_2) = a1 then (if (F_X8_districtOf ds n x19_3) = a1 then (if (F_X8_haveSamePages PP ds mp n x6_2 x19_3 a1) = 0 then ((some (0, 0)), x19_3) else (rc_19 (x19_3 + 1))) else (rc_19 (x19_3 + 1))) else (rc_19 (x19_3 + 1))))
def L_X10_agree_19 (PP : List PG) (ds : Nat → Int32) (mp : Nat → Int32) (n : Int32) (a1 : Int32) (x6_2 : Int32) : Nat → Int32 → (Option (Nat × Int32) × Int32)
  | 0 => fun x19_3 => (none, x19_3)
  | k + 1 => B_X10_agree_19 PP ds mp n a1 x6_2 (L_X10_agree_19 PP ds mp n a1 x6_2 k)
def K_X10_agree_19 (x6_2 : Int32) (rc_6 : Int32 → (Option (Nat × Int32) × Int32)) : (Option (Nat × Int32) × Int32) → (Option (Nat × Int32) × Int32)
  | (some r9, _) => (some r9, x6_2)
  | (none, x19_3) => (rc_6 (x6_2 + 1))
def B_X10_agree_6 (PP : List PG) (ds : Nat → Int32) (mp : Nat → Int32) (n : Int32) (a1 : Int32) (rc_6 : Int32 → (Option (Nat × Int32) × Int32)) (x6_2 : Int32) : Option (Nat × Int32) × Int32 := (if n ≤ x6_2 then (none, x6_2) else (K_X10_agree_19 x6_2 rc_6 (L_X10_agree_19 PP ds mp n a1 x6_2 (((x6_2 : Int32).toInt - (0 : Int32).toInt).toNat + 1) 0)))
def L_X10_agree_6 (PP : List PG) (ds : Nat → Int32) (mp : Nat → Int32) (n : Int32) (a1 : Int32) : Nat → Int32 → (Option (Nat × Int32) × Int32)
  | 0 => fun x6_2 => (none, x6_2)
  | k + 1 => B_X10_agree_6 PP ds mp n a1 (L_X10_agree_6 PP ds mp n a1 k)
def K_X10_agree_6  : (Option (Nat × Int32) × Int32) → (Nat × Int32)
  | (some r9, _) => r9
  | (none, x6_2) => (0, 1)
def F_X10_agree (PP : List PG) (ds : Nat → Int32) (mp : Nat → Int32) (n : Int32) (a1 : Int32) : Nat × Int32 := (if (F_X10_needDistrict a1) = 0 then (K_X10_agree_6 (L_X10_agree_6 PP ds mp n a1 (((n : Int32).toInt - (0 : Int32).toInt).toNat + 1) 0)) else (3, 0))
set_option maxHeartbeats 4000000 in
set_option maxRecDepth 100000 in
theorem c_X10_agree (l : Launch) (hl0 : l.stackTraces = false) (D : va_G) (ad : Nat → Nat) (sz : Nat) (h_el : Nat) (h_li : Nat) (h_A : Nat) (h_ds : Nat) (h_mp : Nat) (h_S : Nat) (h_M : Nat) (k_el : ClassId) (k_ds : ClassId) (k_mp : ClassId) (h_li_0 : Value) (h_S_2 : Value) (h_S_4 : Value) (h_S_6 : Value) (h_S_7 : Value) (h_S_8 : Value) (h_S_9 : Value) (h_M_1 : Value) (h_M_2 : Value) (h_M_3 : Value) (h_M_4 : Value) (h_M_5 : Value) (h_M_6 : Value) (h_M_7 : Value) (h_M_8 : Value) (h_M_9 : Value) (kI : ClassId) (AL : List (Nat × Nat)) (PP : List PG) (capE : Nat) (ds : Nat → Int32) (mp : Nat → Int32) (n : Int32) (a1 : Int32) (hlen : AL.length = PP.length) (hpos : 0 < PP.length) (hbig : PP.length ≤ 2000000) (hy0 : n.toInt ≤ 6) (hy1 : PP.length ≤ capE) : vx_Met l yX10_agree wsX10_agree ({ frames := 7, cells := 1, slots := 6, locals := 143 }) (PR_ D ad ([(h_el, .inl (k_el, capE, .inr (.inr (.inr (.inr (egl AL)))))), (h_li, .inr (4, [h_li_0, .ref h_el, .int (nI PP.length)])), (h_A, .inr (5, [.ref h_li, .ref (pad AL 0)])), (h_ds, .inl (k_ds, 6, .inl ds)), (h_mp, .inl (k_mp, 36, .inl mp)), (h_S, .inr (11, [.ref h_A, .ref h_ds, h_S_2, .ref h_mp, h_S_4, .int n, h_S_6, h_S_7, h_S_8, h_S_9])), (h_M, .inr (13, [.ref h_S, h_M_1, h_M_2, h_M_3, h_M_4, h_M_5, h_M_6, h_M_7, h_M_8, h_M_9]))] ++ pgl kI AL PP) [(k_el, .object "java/lang/Object"), (k_ds, .int), (k_mp, .int), (kI, .int)] sz [.ref h_M, .int a1]) (QRs_ ((F_X10_agree PP ds mp n a1).1 = 0) (some (.int (F_X10_agree PP ds mp n a1).2)) (va_A [] sz)) (XR_ (fun E9 => (E9 = "java/lang/IllegalArgumentException" ∧ (F_X10_agree PP ds mp n a1).1 = 3)) (va_A [] sz)) 1 6 (va_A [] sz) := by
  refine vx_ofW (cc := cX10_agree) (maxL := 4) (ret := (some .boolean)) (by decide) rfl ?_
  intro p e s m args below meth c s₁ B hml htab hv
  obtain ⟨rfl, hsz, hP, hK, hF⟩ := hv
  have hx := B.exec
  have hb := B.bytes
  have hr := B.returns
  have hts := atoms_spec (ws := wsX10_agree) B.pre
  have hown : s.vm.findClass RX10 = some m.cls := findClass_of_methodNamed B.named
  have hlocks := B.notSynchronized
  subst hsz
  generalize hAe : va_A [] s.heap.size = A at hF ⊢
  have hA : ∀ q : Nat, s.heap.size ≤ q → A q := fun q h => by rw [← hAe]; exact Or.inr h
  obtain ⟨H, hHe⟩ : ∃ H : Heap, H = s.heap := ⟨_, rfl⟩
  have hS : va_S A s.heap H [] := by rw [hHe]; exact va_S.rf
  have hP : va_P D vwCl ([(h_el, .inl (k_el, capE, .inr (.inr (.inr (.inr (egl AL)))))), (h_li, .inr (4, [h_li_0, .ref h_el, .int (nI PP.length)])), (h_A, .inr (5, [.ref h_li, .ref (pad AL 0)])), (h_ds, .inl (k_ds, 6, .inl ds)), (h_mp, .inl (k_mp, 36, .inl mp)), (h_S, .inr (11, [.ref h_A, .ref h_ds, h_S_2, .ref h_mp, h_S_4, .int n, h_S_6, h_S_7, h_S_8, h_S_9])), (h_M, .inr (13, [.ref h_S, h_M_1, h_M_2, h_M_3, h_M_4, h_M_5, h_M_6, h_M_7, h_M_8, h_M_9]))] ++ pgl kI AL PP) H := by rw [hHe]; exact hP
  rw [← hHe]
  have hi_X10 : ∀ w ∈ wsX100, w ∈ wsX10_agree := by decide +kernel
  have hi_X8 : ∀ w ∈ wsX80, w ∈ wsX10_agree := by decide +kernel
  have hl := lv_entry [.ref h_M, .int a1] (n := 4) (Nat.le_of_ble_eq_true rfl)
  rw [lg_entry_eq]
  generalize (lg_sl [.ref h_M, .int a1] ++ List.replicate (4 - (lg_sl [.ref h_M, .int a1]).length) Slot.unset).toArray = ls at hl ⊢
  have hl : lv_has ls 4 [(0, .ref h_M), (1, .int a1)] := hl
  have hM : F_X10_agree PP ds mp n a1 = (if (F_X10_needDistrict a1) = 0 then (K_X10_agree_6 (L_X10_agree_6 PP ds mp n a1 (((n : Int32).toInt - (0 : Int32).toInt).toNat + 1) 0)) else (3, 0)) := rfl
  refine lv_iload_n hx hb dX10_agree_0 rfl (lv_at hl 1 rfl) ?_
  refine kzr_ (vx_runS (As := [.int a1]) (rest := []) ⟨hx, hb, hml, hown, hts⟩ (c_X10_needDistrict l hl0 D ad H.size a1) (va_cwS 1 hts gX10_agree_X10_needDistrict rfl rfl rfl (by decide +kernel) ⟨Nat.le_of_ble_eq_true rfl, Nat.le_of_ble_eq_true rfl⟩) ⟨PR_.blind, PR_.pre hF hK (hP.sub [] rfl) hS hA [] rfl⟩ rfl rfl hl.1 rfl (lv_room (Nat.le_of_ble_eq_true rfl)) dX10_agree_1 ⟨(Nat.le_of_ble_eq_true rfl), (Nat.le_of_ble_eq_true rfl)⟩) hP hS hA (fun H locs c_2 hP hS => ?_) (fun E9 ce q9 H locs hE hP hS hce hvm hcl => ?_)
  · rw [if_pos c_2] at hM
    refine W.eq (g2 := F0 m 4 ls []) rfl ?_
    refine lv_iconst (v := 0) hx hb dX10_agree_4 (by decide) ?_
    refine lv_istore_n (lv' := [(2, .int 0), (0, .ref h_M), (1, .int a1)]) hx hb dX10_agree_5 rfl hl (by decide) rfl (fun ls hl => ?_)
    refine lpW (τ := Int32) (fun k t H locs ls c9 s9 => ((n : Int32).toInt - (t : Int32).toInt).toNat < k ∧ 0 ≤ (t : Int32).toInt ∧ va_P D vwCl ([(h_el, .inl (k_el, capE, .inr (.inr (.inr (.inr (egl AL)))))), (h_li, .inr (4, [h_li_0, .ref h_el, .int (nI PP.length)])), (h_A, .inr (5, [.ref h_li, .ref (pad AL 0)])), (h_ds, .inl (k_ds, 6, .inl ds)), (h_mp, .inl (k_mp, 36, .inl mp)), (h_S, .inr (11, [.ref h_A, .ref h_ds, h_S_2, .ref h_mp, h_S_4, .int n, h_S_6, h_S_7, h_S_8, h_S_9])), (h_M, .inr (13, [.ref h_S, h_M_1, h_M_2, h_M_3, h_M_4, h_M_5, h_M_6, h_M_7, h_M_8, h_M_9]))] ++ pgl kI AL PP) H ∧ va_S A s.heap H locs ∧ lv_has ls 4 [(2, .int t), (0, .ref h_M), (1, .int a1)] ∧ F_X10_agree PP ds mp n a1 = (K_X10_agree_6 (L_X10_agree_6 PP ds mp n a1 k t)) ∧ c9 = 1 ∧ s9 = 6) (fun t H locs ls c9 s9 h9 => absurd h9.1 (Nat.not_lt_zero _)) (fun k_3 ih t H locs ls c9 s9 hI => ?_) (((n : Int32).toInt - (0 : Int32).toInt).toNat + 1) 0 ⟨Nat.lt_succ_self _, (show 0 ≤ (0 : Int32).toInt from (by decide +kernel)), hP, hS, (by exact hl), hM, rfl, rfl⟩
    obtain ⟨x6_2, hx9⟩ : ∃ x9, x9 = t := ⟨t, rfl⟩
    subst hx9
    obtain ⟨hk_3, hz_3, hP, hS, hl, hM, hcs, hss⟩ := hI
    replace hcs := hcs.symm
    subst hcs
    replace hss := hss.symm
    subst hss
    have hP : va_P D vwCl ([(h_el, .inl (k_el, capE, .inr (.inr (.inr (.inr (egl AL)))))), (h_li, .inr (4, [h_li_0, .ref h_el, .int (nI PP.length)])), (h_A, .inr (5, [.ref h_li, .ref (pad AL 0)])), (h_ds, .inl (k_ds, 6, .inl ds)), (h_mp, .inl (k_mp, 36, .inl mp)), (h_S, .inr (11, [.ref h_A, .ref h_ds, h_S_2, .ref h_mp, h_S_4, .int n, h_S_6, h_S_7, h_S_8, h_S_9])), (h_M, .inr (13, [.ref h_S, h_M_1, h_M_2, h_M_3, h_M_4, h_M_5, h_M_6, h_M_7, h_M_8, h_M_9]))] ++ pgl kI AL PP) H := hP
    have hl : lv_has ls 4 [(2, .int x6_2), (0, .ref h_M), (1, .int a1)] := hl
    have hz_3 : 0 ≤ (x6_2 : Int32).toInt := hz_3
    have hk_3 : ((n : Int32).toInt - (x6_2 : Int32).toInt).toNat < k_3 + 1 := hk_3
    have hM : F_X10_agree PP ds mp n a1 = (K_X10_agree_6 ((if n ≤ x6_2 then (none, x6_2) else (K_X10_agree_19 x6_2 (L_X10_agree_6 PP ds mp n a1 k_3) (L_X10_agree_19 PP ds mp n a1 x6_2 (((x6_2 : Int32).toInt - (0 : Int32).toInt).toNat + 1) 0))))) := hM
    have ih_3 := ih
    refine lv_iload_n hx hb dX10_agree_6 rfl (lv_at hl 0 rfl) ?_
    refine lv_aload_n hx hb dX10_agree_7 rfl (lv_at hl 1 rfl) ?_
    refine va_get (D := D) (ci := 13) (v := .ref h_S) (own := RX10) (C := RX10) (T := TX10) (N := 10) hx hb hts hi_X10 hown hK hP 6 rfl rfl 0 (by decide) (hts (.fieldLink RX10 50 "CanalMaps" "now" "LCanalMaps$Survey;") (List.mem_of_getElem? (i := 1) (by decide +kernel))) (fun _ h9 => h9) rfl dX10_agree_8 ?_
    refine va_getN (D := D) (ci := 11) (v := .int n) (own := RX10) (C := RX8) (T := TX8) (N := 10) hx hb hts hi_X8 hown hK hP 5 rfl rfl 5 (by decide) (fxn_ hF (RX10, 238, "CanalMaps$Survey", "surveyors", "I")) (fun _ h9 => h9) rfl dX10_agree_11 ?_
    refine lv_icmp_ge (tgt := 75) hx hb dX10_agree_14 (by decide) (fun c_4 => ?_) (fun c_4 => ?_)
    · rw [if_pos c_4] at hM
      have hM : F_X10_agree PP ds mp n a1 = (0, 1) := hM
      refine lv_iconst (v := 1) hx hb dX10_agree_75 (by decide) ?_
      refine vx_ret ?_
      refine W.widen (k := 1) (n := 6) (Nat.le_of_ble_eq_true rfl) (Nat.le_of_ble_eq_true rfl) ?_
      exact W.zret (v := 1) hx hb hr rfl (QRs_.mk hS (by rw [hM]) (by rw [hM])) hS.2.2 dX10_agree_76
    · rw [if_neg c_4] at hM
      refine lv_iconst (v := 0) hx hb dX10_agree_17 (by decide) ?_
      refine lv_istore_n (lv' := [(3, .int 0), (2, .int x6_2), (0, .ref h_M), (1, .int a1)]) hx hb dX10_agree_18 rfl hl (by decide) rfl (fun ls hl => ?_)
      refine lpW (τ := Int32) (fun k t H locs ls c9 s9 => ((x6_2 : Int32).toInt - (t : Int32).toInt).toNat < k ∧ 0 ≤ (t : Int32).toInt ∧ va_P D vwCl ([(h_el, .inl (k_el, capE, .inr (.inr (.inr (.inr (egl AL)))))), (h_li, .inr (4, [h_li_0, .ref h_el, .int (nI PP.length)])), (h_A, .inr (5, [.ref h_li, .ref (pad AL 0)])), (h_ds, .inl (k_ds, 6, .inl ds)), (h_mp, .inl (k_mp, 36, .inl mp)), (h_S, .inr (11, [.ref h_A, .ref h_ds, h_S_2, .ref h_mp, h_S_4, .int n, h_S_6, h_S_7, h_S_8, h_S_9])), (h_M, .inr (13, [.ref h_S, h_M_1, h_M_2, h_M_3, h_M_4, h_M_5, h_M_6, h_M_7, h_M_8, h_M_9]))] ++ pgl kI AL PP) H ∧ va_S A s.heap H locs ∧ lv_has ls 4 [(3, .int t), (2, .int x6_2), (0, .ref h_M), (1, .int a1)] ∧ F_X10_agree PP ds mp n a1 = (K_X10_agree_6 ((K_X10_agree_19 x6_2 (L_X10_agree_6 PP ds mp n a1 k_3) (L_X10_agree_19 PP ds mp n a1 x6_2 k t)))) ∧ c9 = 1 ∧ s9 = 6) (fun t H locs ls c9 s9 h9 => absurd h9.1 (Nat.not_lt_zero _)) (fun k_5 ih t H locs ls c9 s9 hI => ?_) (((x6_2 : Int32).toInt - (0 : Int32).toInt).toNat + 1) 0 ⟨Nat.lt_succ_self _, (show 0 ≤ (0 : Int32).toInt from (by decide +kernel)), hP, hS, (by exact hl), hM, rfl, rfl⟩
      obtain ⟨x19_3, hx9⟩ : ∃ x9, x9 = t := ⟨t, rfl⟩
      subst hx9
      obtain ⟨hk_5, hz_5, hP, hS, hl, hM, hcs, hss⟩ := hI
      replace hcs := hcs.symm
      subst hcs
      replace hss := hss.symm
      subst hss
      have hP : va_P D vwCl ([(h_el, .inl (k_el, capE, .inr (.inr (.inr (.inr (egl AL)))))), (h_li, .inr (4, [h_li_0, .ref h_el, .int (nI PP.length)])), (h_A, .inr (5, [.ref h_li, .ref (pad AL 0)])), (h_ds, .inl (k_ds, 6, .inl ds)), (h_mp, .inl (k_mp, 36, .inl mp)), (h_S, .inr (11, [.ref h_A, .ref h_ds, h_S_2, .ref h_mp, h_S_4, .int n, h_S_6, h_S_7, h_S_8, h_S_9])), (h_M, .inr (13, [.ref h_S, h_M_1, h_M_2, h_M_3, h_M_4, h_M_5, h_M_6, h_M_7, h_M_8, h_M_9]))] ++ pgl kI AL PP) H := hP
      have hl : lv_has ls 4 [(3, .int x19_3), (2, .int x6_2), (0, .ref h_M), (1, .int a1)] := hl
      have hz_5 : 0 ≤ (x19_3 : Int32).toInt := hz_5
      have hk_5 : ((x6_2 : Int32).toInt - (x19_3 : Int32).toInt).toNat < k_5 + 1 := hk_5
      have hM : F_X10_agree PP ds mp n a1 = (K_X10_agree_6 ((K_X10_agree_19 x6_2 (L_X10_agree_6 PP ds mp n a1 k_3) ((if x6_2 ≤ x19_3 then (none, x19_3) else (if (F_X8_districtOf ds n x6_2) = a1 then (if (F_X8_districtOf ds n x19_3) = a1 then (if (F_X8_haveSamePages PP ds mp n x6_2 x19_3 a1) = 0 then ((some (0, 0)), x19_3) else ((L_X10_agree_19 PP ds mp n a1 x6_2 k_5) (x19_3 + 1))) else ((L_X10_agree_19 PP ds mp n a1 x6_2 k_5) (x19_3 + 1))) else ((L_X10_agree_19 PP ds mp n a1 x6_2 k_5) (x19_3 + 1)))))))) := hM
      have ih_5 := ih
      refine lv_iload_n hx hb dX10_agree_19 rfl (lv_at hl 0 rfl) ?_
      refine lv_iload_n hx hb dX10_agree_20 rfl (lv_at hl 1 rfl) ?_
      refine lv_icmp_ge (tgt := 69) hx hb dX10_agree_21 (by decide) (fun c_6 => ?_) (fun c_6 => ?_)
      · rw [if_pos c_6] at hM
        have hM : F_X10_agree PP ds mp n a1 = (K_X10_agree_6 (((L_X10_agree_6 PP ds mp n a1 k_3) (x6_2 + 1)))) := hM
        refine lv_iinc (v := (x6_2 + 1)) (lv' := [(2, .int (x6_2 + 1)), (3, .int x19_3), (0, .ref h_M), (1, .int a1)]) hx hb dX10_agree_69 hl (k := 1) rfl rfl (by decide) rfl (fun ls hl => ?_)
        refine lv_goto (tgt := 6) hx hb dX10_agree_72 (by decide) ?_
        exact ih_3 (x6_2 + 1) _ _ _ _ _ ⟨lp_up hk_3 c_4, lp_up0 hz_3 c_4, hP, hS, lv_sub hl [0, 2, 3] rfl, hM, rfl, rfl⟩
      · rw [if_neg c_6] at hM
        refine lv_aload_n hx hb dX10_agree_24 rfl (lv_at hl 2 rfl) ?_
        refine va_get (D := D) (ci := 13) (v := .ref h_S) (own := RX10) (C := RX10) (T := TX10) (N := 10) hx hb hts hi_X10 hown hK hP 6 rfl rfl 0 (by decide) (hts (.fieldLink RX10 50 "CanalMaps" "now" "LCanalMaps$Survey;") (List.mem_of_getElem? (i := 1) (by decide +kernel))) (fun _ h9 => h9) rfl dX10_agree_25 ?_
        refine lv_iload_n hx hb dX10_agree_28 rfl (lv_at hl 1 rfl) ?_
        obtain ⟨y9, hy9⟩ : ∃ y9, (F_X8_districtOf ds n x6_2) = y9 := ⟨_, rfl⟩
        have hcon := (c_X8_districtOf l hl0 D ad H.size h_ds h_S k_ds (.ref h_A) (h_S_2) (.ref h_mp) (h_S_4) (h_S_6) (h_S_7) (h_S_8) (h_S_9) ds n x6_2 (by have y0 := R_X10_needDistrict c_2; have y1 := f_nle c_4; have y2 := f_nle c_6; have z0 := hy0; have z1 := hy1; have z2 := hz_3; have z3 := hz_5; have q_len := hlen; have q_pos := hpos; have q_big := hbig; have q_n := nI_toInt (n := PP.length) (by omega); omega))
        rw [hy9] at hcon
        refine kr_ (va_runV (As := [.int x6_2]) (rest := []) ⟨hx, hb, hml, hown, hts⟩ hcon (cwV 1 hts gX10_agree_X8_districtOf rfl rfl rfl (by decide +kernel) ⟨Nat.le_of_ble_eq_true rfl, Nat.le_of_ble_eq_true rfl⟩) ⟨PR_.blind, va_recv hK hP (ci := 11) (q0 := 5) rfl rfl, PR_.pre hF hK (hP.sub [3, 5] rfl) hS hA [1] rfl⟩ rfl rfl hl.1 rfl (lv_room (Nat.le_of_ble_eq_true rfl)) dX10_agree_29 ⟨(Nat.le_of_ble_eq_true rfl), (Nat.le_of_ble_eq_true rfl)⟩) hP hS hA (fun H locs hP hS => ?_)
        subst hy9
        refine W.eq (g2 := F0 m 32 ls [.int (F_X8_districtOf ds n x6_2)]) rfl ?_
        refine lv_iload_n hx hb dX10_agree_32 rfl (lv_at hl 3 rfl) ?_
        refine lv_icmp_ne (tgt := 63) hx hb dX10_agree_33 (by decide) (fun c_8 => ?_) (fun c_8 => ?_)
        · rw [if_neg c_8] at hM
          refine lv_iinc (v := (x19_3 + 1)) (lv' := [(3, .int (x19_3 + 1)), (2, .int x6_2), (0, .ref h_M), (1, .int a1)]) hx hb dX10_agree_63 hl (k := 0) rfl rfl (by decide) rfl (fun ls hl => ?_)
          refine lv_goto (tgt := 19) hx hb dX10_agree_66 (by decide) ?_
          exact ih_5 (x19_3 + 1) _ _ _ _ _ ⟨lp_up hk_5 c_6, lp_up0 hz_5 c_6, hP, hS, lv_sub hl [0, 1, 2, 3] rfl, hM, rfl, rfl⟩
        · rw [if_pos c_8] at hM
          refine lv_aload_n hx hb dX10_agree_36 rfl (lv_at hl 2 rfl) ?_
          refine va_get (D := D) (ci := 13) (v := .ref h_S) (own := RX10) (C := RX10) (T := TX10) (N := 10) hx hb hts hi_X10 hown hK hP 6 rfl rfl 0 (by decide) (hts (.fieldLink RX10 50 "CanalMaps" "now" "LCanalMaps$Survey;") (List.mem_of_getElem? (i := 1) (by decide +kernel))) (fun _ h9 => h9) rfl dX10_agree_37 ?_
          refine lv_iload_n hx hb dX10_agree_40 rfl (lv_at hl 0 rfl) ?_
          obtain ⟨y9, hy9⟩ : ∃ y9, (F_X8_districtOf ds n x19_3) = y9 := ⟨_, rfl⟩
          have hcon := (c_X8_districtOf l hl0 D ad H.size h_ds h_S k_ds (.ref h_A) (h_S_2) (.ref h_mp) (h_S_4) (h_S_6) (h_S_7) (h_S_8) (h_S_9) ds n x19_3 (by have y0 := R_X10_needDistrict c_2; have y1 := f_nle c_4; have y2 := f_nle c_6; have y3 := f_eq c_8; have z0 := hy0; have z1 := hy1; have z2 := hz_3; have z3 := hz_5; have q_len := hlen; have q_pos := hpos; have q_big := hbig; have q_n := nI_toInt (n := PP.length) (by omega); omega))
          rw [hy9] at hcon
          refine kr_ (va_runV (As := [.int x19_3]) (rest := []) ⟨hx, hb, hml, hown, hts⟩ hcon (cwV 1 hts gX10_agree_X8_districtOf rfl rfl rfl (by decide +kernel) ⟨Nat.le_of_ble_eq_true rfl, Nat.le_of_ble_eq_true rfl⟩) ⟨PR_.blind, va_recv hK hP (ci := 11) (q0 := 5) rfl rfl, PR_.pre hF hK (hP.sub [3, 5] rfl) hS hA [1] rfl⟩ rfl rfl hl.1 rfl (lv_room (Nat.le_of_ble_eq_true rfl)) dX10_agree_41 ⟨(Nat.le_of_ble_eq_true rfl), (Nat.le_of_ble_eq_true rfl)⟩) hP hS hA (fun H locs hP hS => ?_)
          subst hy9
          refine W.eq (g2 := F0 m 44 ls [.int (F_X8_districtOf ds n x19_3)]) rfl ?_
          refine lv_iload_n hx hb dX10_agree_44 rfl (lv_at hl 3 rfl) ?_
          refine lv_icmp_ne (tgt := 63) hx hb dX10_agree_45 (by decide) (fun c_10 => ?_) (fun c_10 => ?_)
          · rw [if_neg c_10] at hM
            refine lv_iinc (v := (x19_3 + 1)) (lv' := [(3, .int (x19_3 + 1)), (2, .int x6_2), (0, .ref h_M), (1, .int a1)]) hx hb dX10_agree_63 hl (k := 0) rfl rfl (by decide) rfl (fun ls hl => ?_)
            refine lv_goto (tgt := 19) hx hb dX10_agree_66 (by decide) ?_
            exact ih_5 (x19_3 + 1) _ _ _ _ _ ⟨lp_up hk_5 c_6, lp_up0 hz_5 c_6, hP, hS, lv_sub hl [0, 1, 2, 3] rfl, hM, rfl, rfl⟩
          · rw [if_pos c_10] at hM
            refine lv_aload_n hx hb dX10_agree_48 rfl (lv_at hl 2 rfl) ?_
            refine va_get (D := D) (ci := 13) (v := .ref h_S) (own := RX10) (C := RX10) (T := TX10) (N := 10) hx hb hts hi_X10 hown hK hP 6 rfl rfl 0 (by decide) (hts (.fieldLink RX10 50 "CanalMaps" "now" "LCanalMaps$Survey;") (List.mem_of_getElem? (i := 1) (by decide +kernel))) (fun _ h9 => h9) rfl dX10_agree_49 ?_
            refine lv_iload_n hx hb dX10_agree_52 rfl (lv_at hl 1 rfl) ?_
            refine lv_iload_n hx hb dX10_agree_53 rfl (lv_at hl 0 rfl) ?_
            refine lv_iload_n hx hb dX10_agree_54 rfl (lv_at hl 3 rfl) ?_
            obtain ⟨y9, hy9⟩ : ∃ y9, (F_X8_haveSamePages PP ds mp n x6_2 x19_3 a1) = y9 := ⟨_, rfl⟩
            have hcon := (c_X8_haveSamePages l hl0 D ad H.size h_el h_li h_A h_ds h_mp h_S k_el k_ds k_mp (h_li_0) (h_S_2) (h_S_4) (h_S_6) (h_S_7) (h_S_8) (h_S_9) kI AL PP capE ds mp n x6_2 x19_3 a1 hlen hpos hbig (by have y0 := R_X10_needDistrict c_2; have y1 := f_nle c_4; have y2 := f_nle c_6; have y3 := f_eq c_8; have y4 := f_eq c_10; have z0 := hy0; have z1 := hy1; have z2 := hz_3; have z3 := hz_5; have q_len := hlen; have q_pos := hpos; have q_big := hbig; have q_n := nI_toInt (n := PP.length) (by omega); omega) (by have y0 := R_X10_needDistrict c_2; have y1 := f_nle c_4; have y2 := f_nle c_6; have y3 := f_eq c_8; have y4 := f_eq c_10; have z0 := hy0; have z1 := hy1; have z2 := hz_3; have z3 := hz_5; have q_len := hlen; have q_pos := hpos; have q_big := hbig; have q_n := nI_toInt (n := PP.length) (by omega); omega))
            rw [hy9] at hcon
            refine kr_ (va_runV (As := [.int x6_2, .int x19_3, .int a1]) (rest := []) ⟨hx, hb, hml, hown, hts⟩ hcon (cwV 3 hts gX10_agree_X8_haveSamePages rfl rfl rfl (by decide +kernel) ⟨Nat.le_of_ble_eq_true rfl, Nat.le_of_ble_eq_true rfl⟩) ⟨PR_.blind, va_recv hK hP (ci := 11) (q0 := 5) rfl rfl, PR_.pre hF hK (hP.part [0, 1, 2, 3, 4, 5] rfl) hS hA [0, 1, 2, 3] rfl⟩ rfl rfl hl.1 rfl (lv_room (Nat.le_of_ble_eq_true rfl)) dX10_agree_55 ⟨(Nat.le_of_ble_eq_true rfl), (Nat.le_of_ble_eq_true rfl)⟩) hP hS hA (fun H locs hP hS => ?_)
            subst hy9
            refine W.eq (g2 := F0 m 58 ls [.int (F_X8_haveSamePages PP ds mp n x6_2 x19_3 a1)]) rfl ?_
            refine lv_if_ne (tgt := 63) hx hb dX10_agree_58 (by decide) (fun c_12 => ?_) (fun c_12 => ?_)
            · rw [if_neg c_12] at hM
              refine lv_iinc (v := (x19_3 + 1)) (lv' := [(3, .int (x19_3 + 1)), (2, .int x6_2), (0, .ref h_M), (1, .int a1)]) hx hb dX10_agree_63 hl (k := 0) rfl rfl (by decide) rfl (fun ls hl => ?_)
              refine lv_goto (tgt := 19) hx hb dX10_agree_66 (by decide) ?_
              exact ih_5 (x19_3 + 1) _ _ _ _ _ ⟨lp_up hk_5 c_6, lp_up0 hz_5 c_6, hP, hS, lv_sub hl [0, 1, 2, 3] rfl, hM, rfl, rfl⟩
            · rw [if_pos c_12] at hM
              have hM : F_X10_agree PP ds mp n a1 = (0, 0) := hM
              refine lv_iconst (v := 0) hx hb dX10_agree_61 (by decide) ?_
              refine vx_ret ?_
              refine W.widen (k := 1) (n := 6) (Nat.le_of_ble_eq_true rfl) (Nat.le_of_ble_eq_true rfl) ?_
              exact W.zret (v := 0) hx hb hr rfl (QRs_.mk hS (by rw [hM]) (by rw [hM])) hS.2.2 dX10_agree_62
  · rcases hE with ⟨rfl, c_2⟩
    · rw [if_neg (show ¬ (F_X10_needDistrict a1) = 0 from by rw [c_2]; decide)] at hM
      exact vx_out (E := "java/lang/IllegalArgumentException") (fun x9 hx9 => (htab x9 hx9).elim) hlocks hce hvm hcl (fun t9 ht9 _ => ⟨⟨rfl, (by rw [hM])⟩, hS.F ht9⟩) hS.2.2 (Nat.le_of_ble_eq_true rfl) (Nat.le_of_ble_eq_true rfl)
def B_X10_agreeAgain_6 (PP : List PG) (ds : Nat → Int32) (mp : Nat → Int32) (n : Int32) (a1 : Int32) (rc_6 : Int32 → (Option (Nat × Int32) × Int32)) (x6_2 : Int32) : Option (Nat × Int32) × Int32 := (if n ≤ x6_2 then (none, x6_2) else (if (F_X8_districtOf ds n x6_2) = a1 then (if (F_X8_allHaveGreatest PP ds mp n x6_2 a1) = 0 then ((some (0, 0)), x6_2) else (rc_6 (x6_2 + 1))) else (rc_6 (x6_2 + 1))))
def L_X10_agreeAgain_6 (PP : List PG) (ds : Nat → Int32) (mp : Nat → Int32) (n : Int32) (a1 : Int32) : Nat → Int32 → (Option (Nat × Int32) × Int32)
  | 0 => fun x6_2 => (none, x6_2)
  | k + 1 => B_X10_agreeAgain_6 PP ds mp n a1 (L_X10_agreeAgain_6 PP ds mp n a1 k)
def K_X10_agreeAgain_6  : (Option (Nat × Int32) × Int32) → (Nat × Int32)
  | (some r9, _) => r9
  | (none, x6_2) => (0, 1)
def F_X10_agreeAgain (PP : List PG) (ds : Nat → Int32) (mp : Nat → Int32) (n : Int32) (a1 : Int32) : Nat × Int32 := (if (F_X10_needDistrict a1) = 0 then (K_X10_agreeAgain_6 (L_X10_agreeAgain_6 PP ds mp n a1 (((n : Int32).toInt - (0 : Int32).toInt).toNat + 1) 0)) else (3, 0))
set_option maxHeartbeats 4000000 in
set_option maxRecDepth 100000 in
theorem c_X10_agreeAgain (l : Launch) (hl0 : l.stackTraces = false) (D : va_G) (ad : Nat → Nat) (sz : Nat) (h_el : Nat) (h_li : Nat) (h_A : Nat) (h_ds : Nat) (h_mp : Nat) (h_S : Nat) (h_M : Nat) (k_el : ClassId) (k_ds : ClassId) (k_mp : ClassId) (h_li_0 : Value) (h_S_2 : Value) (h_S_4 : Value) (h_S_6 : Value) (h_S_7 : Value) (h_S_8 : Value) (h_S_9 : Value) (h_M_1 : Value) (h_M_2 : Value) (h_M_3 : Value) (h_M_4 : Value) (h_M_5 : Value) (h_M_6 : Value) (h_M_7 : Value) (h_M_8 : Value) (h_M_9 : Value) (kI : ClassId) (AL : List (Nat × Nat)) (PP : List PG) (capE : Nat) (ds : Nat → Int32) (mp : Nat → Int32) (n : Int32) (a1 : Int32) (hlen : AL.length = PP.length) (hpos : 0 < PP.length) (hbig : PP.length ≤ 2000000) (hy0 : n.toInt ≤ 6) (hy1 : PP.length ≤ capE) : vx_Met l yX10_agreeAgain wsX10_agreeAgain ({ frames := 7, cells := 1, slots := 6, locals := 143 }) (PR_ D ad ([(h_el, .inl (k_el, capE, .inr (.inr (.inr (.inr (egl AL)))))), (h_li, .inr (4, [h_li_0, .ref h_el, .int (nI PP.length)])), (h_A, .inr (5, [.ref h_li, .ref (pad AL 0)])), (h_ds, .inl (k_ds, 6, .inl ds)), (h_mp, .inl (k_mp, 36, .inl mp)), (h_S, .inr (11, [.ref h_A, .ref h_ds, h_S_2, .ref h_mp, h_S_4, .int n, h_S_6, h_S_7, h_S_8, h_S_9])), (h_M, .inr (13, [.ref h_S, h_M_1, h_M_2, h_M_3, h_M_4, h_M_5, h_M_6, h_M_7, h_M_8, h_M_9]))] ++ pgl kI AL PP) [(k_el, .object "java/lang/Object"), (k_ds, .int), (k_mp, .int), (kI, .int)] sz [.ref h_M, .int a1]) (QRs_ ((F_X10_agreeAgain PP ds mp n a1).1 = 0) (some (.int (F_X10_agreeAgain PP ds mp n a1).2)) (va_A [] sz)) (XR_ (fun E9 => (E9 = "java/lang/IllegalArgumentException" ∧ (F_X10_agreeAgain PP ds mp n a1).1 = 3)) (va_A [] sz)) 1 6 (va_A [] sz) := by
  refine vx_ofW (cc := cX10_agreeAgain) (maxL := 3) (ret := (some .boolean)) (by decide) rfl ?_
  intro p e s m args below meth c s₁ B hml htab hv
  obtain ⟨rfl, hsz, hP, hK, hF⟩ := hv
  have hx := B.exec
  have hb := B.bytes
  have hr := B.returns
  have hts := atoms_spec (ws := wsX10_agreeAgain) B.pre
  have hown : s.vm.findClass RX10 = some m.cls := findClass_of_methodNamed B.named
  have hlocks := B.notSynchronized
  subst hsz
  generalize hAe : va_A [] s.heap.size = A at hF ⊢
  have hA : ∀ q : Nat, s.heap.size ≤ q → A q := fun q h => by rw [← hAe]; exact Or.inr h
  obtain ⟨H, hHe⟩ : ∃ H : Heap, H = s.heap := ⟨_, rfl⟩
  have hS : va_S A s.heap H [] := by rw [hHe]; exact va_S.rf
  have hP : va_P D vwCl ([(h_el, .inl (k_el, capE, .inr (.inr (.inr (.inr (egl AL)))))), (h_li, .inr (4, [h_li_0, .ref h_el, .int (nI PP.length)])), (h_A, .inr (5, [.ref h_li, .ref (pad AL 0)])), (h_ds, .inl (k_ds, 6, .inl ds)), (h_mp, .inl (k_mp, 36, .inl mp)), (h_S, .inr (11, [.ref h_A, .ref h_ds, h_S_2, .ref h_mp, h_S_4, .int n, h_S_6, h_S_7, h_S_8, h_S_9])), (h_M, .inr (13, [.ref h_S, h_M_1, h_M_2, h_M_3, h_M_4, h_M_5, h_M_6, h_M_7, h_M_8, h_M_9]))] ++ pgl kI AL PP) H := by rw [hHe]; exact hP
  rw [← hHe]
  have hi_X10 : ∀ w ∈ wsX100, w ∈ wsX10_agreeAgain := by decide +kernel
  have hi_X8 : ∀ w ∈ wsX80, w ∈ wsX10_agreeAgain := by decide +kernel
  have hl := lv_entry [.ref h_M, .int a1] (n := 3) (Nat.le_of_ble_eq_true rfl)
  rw [lg_entry_eq]
  generalize (lg_sl [.ref h_M, .int a1] ++ List.replicate (3 - (lg_sl [.ref h_M, .int a1]).length) Slot.unset).toArray = ls at hl ⊢
  have hl : lv_has ls 3 [(0, .ref h_M), (1, .int a1)] := hl
  have hM : F_X10_agreeAgain PP ds mp n a1 = (if (F_X10_needDistrict a1) = 0 then (K_X10_agreeAgain_6 (L_X10_agreeAgain_6 PP ds mp n a1 (((n : Int32).toInt - (0 : Int32).toInt).toNat + 1) 0)) else (3, 0)) := rfl
  refine lv_iload_n hx hb dX10_agreeAgain_0 rfl (lv_at hl 1 rfl) ?_
  refine kzr_ (vx_runS (As := [.int a1]) (rest := []) ⟨hx, hb, hml, hown, hts⟩ (c_X10_needDistrict l hl0 D ad H.size a1) (va_cwS 1 hts gX10_agreeAgain_X10_needDistrict rfl rfl rfl (by decide +kernel) ⟨Nat.le_of_ble_eq_true rfl, Nat.le_of_ble_eq_true rfl⟩) ⟨PR_.blind, PR_.pre hF hK (hP.sub [] rfl) hS hA [] rfl⟩ rfl rfl hl.1 rfl (lv_room (Nat.le_of_ble_eq_true rfl)) dX10_agreeAgain_1 ⟨(Nat.le_of_ble_eq_true rfl), (Nat.le_of_ble_eq_true rfl)⟩) hP hS hA (fun H locs c_2 hP hS => ?_) (fun E9 ce q9 H locs hE hP hS hce hvm hcl => ?_)
  · rw [if_pos c_2] at hM
    refine W.eq (g2 := F0 m 4 ls []) rfl ?_
    refine lv_iconst (v := 0) hx hb dX10_agreeAgain_4 (by decide) ?_
    refine lv_istore_n (lv' := [(2, .int 0), (0, .ref h_M), (1, .int a1)]) hx hb dX10_agreeAgain_5 rfl hl (by decide) rfl (fun ls hl => ?_)
    refine lpW (τ := Int32) (fun k t H locs ls c9 s9 => ((n : Int32).toInt - (t : Int32).toInt).toNat < k ∧ 0 ≤ (t : Int32).toInt ∧ va_P D vwCl ([(h_el, .inl (k_el, capE, .inr (.inr (.inr (.inr (egl AL)))))), (h_li, .inr (4, [h_li_0, .ref h_el, .int (nI PP.length)])), (h_A, .inr (5, [.ref h_li, .ref (pad AL 0)])), (h_ds, .inl (k_ds, 6, .inl ds)), (h_mp, .inl (k_mp, 36, .inl mp)), (h_S, .inr (11, [.ref h_A, .ref h_ds, h_S_2, .ref h_mp, h_S_4, .int n, h_S_6, h_S_7, h_S_8, h_S_9])), (h_M, .inr (13, [.ref h_S, h_M_1, h_M_2, h_M_3, h_M_4, h_M_5, h_M_6, h_M_7, h_M_8, h_M_9]))] ++ pgl kI AL PP) H ∧ va_S A s.heap H locs ∧ lv_has ls 3 [(2, .int t), (0, .ref h_M), (1, .int a1)] ∧ F_X10_agreeAgain PP ds mp n a1 = (K_X10_agreeAgain_6 (L_X10_agreeAgain_6 PP ds mp n a1 k t)) ∧ c9 = 1 ∧ s9 = 6) (fun t H locs ls c9 s9 h9 => absurd h9.1 (Nat.not_lt_zero _)) (fun k_3 ih t H locs ls c9 s9 hI => ?_) (((n : Int32).toInt - (0 : Int32).toInt).toNat + 1) 0 ⟨Nat.lt_succ_self _, (show 0 ≤ (0 : Int32).toInt from (by decide +kernel)), hP, hS, (by exact hl), hM, rfl, rfl⟩
    obtain ⟨x6_2, hx9⟩ : ∃ x9, x9 = t := ⟨t, rfl⟩
    subst hx9
    obtain ⟨hk_3, hz_3, hP, hS, hl, hM, hcs, hss⟩ := hI
    replace hcs := hcs.symm
    subst hcs
    replace hss := hss.symm
    subst hss
    have hP : va_P D vwCl ([(h_el, .inl (k_el, capE, .inr (.inr (.inr (.inr (egl AL)))))), (h_li, .inr (4, [h_li_0, .ref h_el, .int (nI PP.length)])), (h_A, .inr (5, [.ref h_li, .ref (pad AL 0)])), (h_ds, .inl (k_ds, 6, .inl ds)), (h_mp, .inl (k_mp, 36, .inl mp)), (h_S, .inr (11, [.ref h_A, .ref h_ds, h_S_2, .ref h_mp, h_S_4, .int n, h_S_6, h_S_7, h_S_8, h_S_9])), (h_M, .inr (13, [.ref h_S, h_M_1, h_M_2, h_M_3, h_M_4, h_M_5, h_M_6, h_M_7, h_M_8, h_M_9]))] ++ pgl kI AL PP) H := hP
    have hl : lv_has ls 3 [(2, .int x6_2), (0, .ref h_M), (1, .int a1)] := hl
    have hz_3 : 0 ≤ (x6_2 : Int32).toInt := hz_3
    have hk_3 : ((n : Int32).toInt - (x6_2 : Int32).toInt).toNat < k_3 + 1 := hk_3
    have hM : F_X10_agreeAgain PP ds mp n a1 = (K_X10_agreeAgain_6 ((if n ≤ x6_2 then (none, x6_2) else (if (F_X8_districtOf ds n x6_2) = a1 then (if (F_X8_allHaveGreatest PP ds mp n x6_2 a1) = 0 then ((some (0, 0)), x6_2) else ((L_X10_agreeAgain_6 PP ds mp n a1 k_3) (x6_2 + 1))) else ((L_X10_agreeAgain_6 PP ds mp n a1 k_3) (x6_2 + 1)))))) := hM
    have ih_3 := ih
    refine lv_iload_n hx hb dX10_agreeAgain_6 rfl (lv_at hl 0 rfl) ?_
    refine lv_aload_n hx hb dX10_agreeAgain_7 rfl (lv_at hl 1 rfl) ?_
    refine va_get (D := D) (ci := 13) (v := .ref h_S) (own := RX10) (C := RX10) (T := TX10) (N := 10) hx hb hts hi_X10 hown hK hP 6 rfl rfl 0 (by decide) (hts (.fieldLink RX10 50 "CanalMaps" "now" "LCanalMaps$Survey;") (List.mem_of_getElem? (i := 1) (by decide +kernel))) (fun _ h9 => h9) rfl dX10_agreeAgain_8 ?_
    refine va_getN (D := D) (ci := 11) (v := .int n) (own := RX10) (C := RX8) (T := TX8) (N := 10) hx hb hts hi_X8 hown hK hP 5 rfl rfl 5 (by decide) (fxn_ hF (RX10, 238, "CanalMaps$Survey", "surveyors", "I")) (fun _ h9 => h9) rfl dX10_agreeAgain_11 ?_
    refine lv_icmp_ge (tgt := 49) hx hb dX10_agreeAgain_14 (by decide) (fun c_4 => ?_) (fun c_4 => ?_)
    · rw [if_pos c_4] at hM
      have hM : F_X10_agreeAgain PP ds mp n a1 = (0, 1) := hM
      refine lv_iconst (v := 1) hx hb dX10_agreeAgain_49 (by decide) ?_
      refine vx_ret ?_
      refine W.widen (k := 1) (n := 6) (Nat.le_of_ble_eq_true rfl) (Nat.le_of_ble_eq_true rfl) ?_
      exact W.zret (v := 1) hx hb hr rfl (QRs_.mk hS (by rw [hM]) (by rw [hM])) hS.2.2 dX10_agreeAgain_50
    · rw [if_neg c_4] at hM
      refine lv_aload_n hx hb dX10_agreeAgain_17 rfl (lv_at hl 1 rfl) ?_
      refine va_get (D := D) (ci := 13) (v := .ref h_S) (own := RX10) (C := RX10) (T := TX10) (N := 10) hx hb hts hi_X10 hown hK hP 6 rfl rfl 0 (by decide) (hts (.fieldLink RX10 50 "CanalMaps" "now" "LCanalMaps$Survey;") (List.mem_of_getElem? (i := 1) (by decide +kernel))) (fun _ h9 => h9) rfl dX10_agreeAgain_18 ?_
      refine lv_iload_n hx hb dX10_agreeAgain_21 rfl (lv_at hl 0 rfl) ?_
      obtain ⟨y9, hy9⟩ : ∃ y9, (F_X8_districtOf ds n x6_2) = y9 := ⟨_, rfl⟩
      have hcon := (c_X8_districtOf l hl0 D ad H.size h_ds h_S k_ds (.ref h_A) (h_S_2) (.ref h_mp) (h_S_4) (h_S_6) (h_S_7) (h_S_8) (h_S_9) ds n x6_2 (by have y0 := R_X10_needDistrict c_2; have y1 := f_nle c_4; have z0 := hy0; have z1 := hy1; have z2 := hz_3; have q_len := hlen; have q_pos := hpos; have q_big := hbig; have q_n := nI_toInt (n := PP.length) (by omega); omega))
      rw [hy9] at hcon
      refine kr_ (va_runV (As := [.int x6_2]) (rest := []) ⟨hx, hb, hml, hown, hts⟩ hcon (cwV 1 hts gX10_agreeAgain_X8_districtOf rfl rfl rfl (by decide +kernel) ⟨Nat.le_of_ble_eq_true rfl, Nat.le_of_ble_eq_true rfl⟩) ⟨PR_.blind, va_recv hK hP (ci := 11) (q0 := 5) rfl rfl, PR_.pre hF hK (hP.sub [3, 5] rfl) hS hA [1] rfl⟩ rfl rfl hl.1 rfl (lv_room (Nat.le_of_ble_eq_true rfl)) dX10_agreeAgain_22 ⟨(Nat.le_of_ble_eq_true rfl), (Nat.le_of_ble_eq_true rfl)⟩) hP hS hA (fun H locs hP hS => ?_)
      subst hy9
      refine W.eq (g2 := F0 m 25 ls [.int (F_X8_districtOf ds n x6_2)]) rfl ?_
      refine lv_iload_n hx hb dX10_agreeAgain_25 rfl (lv_at hl 2 rfl) ?_
      refine lv_icmp_ne (tgt := 43) hx hb dX10_agreeAgain_26 (by decide) (fun c_6 => ?_) (fun c_6 => ?_)
      · rw [if_neg c_6] at hM
        refine lv_iinc (v := (x6_2 + 1)) (lv' := [(2, .int (x6_2 + 1)), (0, .ref h_M), (1, .int a1)]) hx hb dX10_agreeAgain_43 hl (k := 0) rfl rfl (by decide) rfl (fun ls hl => ?_)
        refine lv_goto (tgt := 6) hx hb dX10_agreeAgain_46 (by decide) ?_
        exact ih_3 (x6_2 + 1) _ _ _ _ _ ⟨lp_up hk_3 c_4, lp_up0 hz_3 c_4, hP, hS, lv_sub hl [0, 1, 2] rfl, hM, rfl, rfl⟩
      · rw [if_pos c_6] at hM
        refine lv_aload_n hx hb dX10_agreeAgain_29 rfl (lv_at hl 1 rfl) ?_
        refine va_get (D := D) (ci := 13) (v := .ref h_S) (own := RX10) (C := RX10) (T := TX10) (N := 10) hx hb hts hi_X10 hown hK hP 6 rfl rfl 0 (by decide) (hts (.fieldLink RX10 50 "CanalMaps" "now" "LCanalMaps$Survey;") (List.mem_of_getElem? (i := 1) (by decide +kernel))) (fun _ h9 => h9) rfl dX10_agreeAgain_30 ?_
        refine lv_iload_n hx hb dX10_agreeAgain_33 rfl (lv_at hl 0 rfl) ?_
        refine lv_iload_n hx hb dX10_agreeAgain_34 rfl (lv_at hl 2 rfl) ?_
        obtain ⟨y9, hy9⟩ : ∃ y9, (F_X8_allHaveGreatest PP ds mp n x6_2 a1) = y9 := ⟨_, rfl⟩
        have hcon := (c_X8_allHaveGreatest l hl0 D ad H.size h_el h_li h_A h_ds h_mp h_S k_el k_ds k_mp (h_li_0) (h_S_2) (h_S_4) (h_S_6) (h_S_7) (h_S_8) (h_S_9) kI AL PP capE ds mp n x6_2 a1 hlen hpos hbig (by have y0 := R_X10_needDistrict c_2; have y1 := f_nle c_4; have y2 := f_eq c_6; have z0 := hy0; have z1 := hy1; have z2 := hz_3; have q_len := hlen; have q_pos := hpos; have q_big := hbig; have q_n := nI_toInt (n := PP.length) (by omega); omega) (by have y0 := R_X10_needDistrict c_2; have y1 := f_nle c_4; have y2 := f_eq c_6; have z0 := hy0; have z1 := hy1; have z2 := hz_3; have q_len := hlen; have q_pos := hpos; have q_big := hbig; have q_n := nI_toInt (n := PP.length) (by omega); omega))
        rw [hy9] at hcon
        refine kr_ (va_runV (As := [.int x6_2, .int a1]) (rest := []) ⟨hx, hb, hml, hown, hts⟩ hcon (cwV 2 hts gX10_agreeAgain_X8_allHaveGreatest rfl rfl rfl (by decide +kernel) ⟨Nat.le_of_ble_eq_true rfl, Nat.le_of_ble_eq_true rfl⟩) ⟨PR_.blind, va_recv hK hP (ci := 11) (q0 := 5) rfl rfl, PR_.pre hF hK (hP.part [0, 1, 2, 3, 4, 5] rfl) hS hA [0, 1, 2, 3] rfl⟩ rfl rfl hl.1 rfl (lv_room (Nat.le_of_ble_eq_true rfl)) dX10_agreeAgain_35 ⟨(Nat.le_of_ble_eq_true rfl), (Nat.le_of_ble_eq_true rfl)⟩) hP hS hA (fun H locs hP hS => ?_)
        subst hy9
        refine W.eq (g2 := F0 m 38 ls [.int (F_X8_allHaveGreatest PP ds mp n x6_2 a1)]) rfl ?_
        refine lv_if_ne (tgt := 43) hx hb dX10_agreeAgain_38 (by decide) (fun c_8 => ?_) (fun c_8 => ?_)
        · rw [if_neg c_8] at hM
          refine lv_iinc (v := (x6_2 + 1)) (lv' := [(2, .int (x6_2 + 1)), (0, .ref h_M), (1, .int a1)]) hx hb dX10_agreeAgain_43 hl (k := 0) rfl rfl (by decide) rfl (fun ls hl => ?_)
          refine lv_goto (tgt := 6) hx hb dX10_agreeAgain_46 (by decide) ?_
          exact ih_3 (x6_2 + 1) _ _ _ _ _ ⟨lp_up hk_3 c_4, lp_up0 hz_3 c_4, hP, hS, lv_sub hl [0, 1, 2] rfl, hM, rfl, rfl⟩
        · rw [if_pos c_8] at hM
          have hM : F_X10_agreeAgain PP ds mp n a1 = (0, 0) := hM
          refine lv_iconst (v := 0) hx hb dX10_agreeAgain_41 (by decide) ?_
          refine vx_ret ?_
          refine W.widen (k := 1) (n := 6) (Nat.le_of_ble_eq_true rfl) (Nat.le_of_ble_eq_true rfl) ?_
          exact W.zret (v := 0) hx hb hr rfl (QRs_.mk hS (by rw [hM]) (by rw [hM])) hS.2.2 dX10_agreeAgain_42
  · rcases hE with ⟨rfl, c_2⟩
    · rw [if_neg (show ¬ (F_X10_needDistrict a1) = 0 from by rw [c_2]; decide)] at hM
      exact vx_out (E := "java/lang/IllegalArgumentException") (fun x9 hx9 => (htab x9 hx9).elim) hlocks hce hvm hcl (fun t9 ht9 _ => ⟨⟨rfl, (by rw [hM])⟩, hS.F ht9⟩) hS.2.2 (Nat.le_of_ble_eq_true rfl) (Nat.le_of_ble_eq_true rfl)
def F_X10_account (PP : List PG) (cs : Nat → Int32) (mp : Nat → Int32) (cn : Int32) (sn : Int32) (n : Int32) (tk : Int32) (av : Int32) (lo : Int32) (md : Int32) (hct : Int32) (ln : Int32) (a1 : Int32) : Nat × Int32 := (if a1 = 0 then (0, tk) else (if a1 = 1 then (0, n) else (if a1 = 2 then (0, (F_X8_countCanals cs n)) else (if a1 = 3 then (0, cn) else (if a1 = 4 then (0, sn) else (if a1 = 5 then (0, av) else (if a1 = 6 then (0, lo) else (if a1 = 7 then (0, md) else (if a1 = 8 then (0, (F_X8_countPages PP mp n)) else (if a1 = 9 then (0, hct) else (if a1 = 10 then (0, ln) else (3, 0))))))))))))
set_option maxHeartbeats 4000000 in
set_option maxRecDepth 100000 in
theorem c_X10_account (l : Launch) (hl0 : l.stackTraces = false) (D : va_G) (ad : Nat → Nat) (sz : Nat) (h_el : Nat) (h_li : Nat) (h_A : Nat) (h_cs : Nat) (h_mp : Nat) (h_L : Nat) (h_S : Nat) (h_H : Nat) (h_T : Nat) (h_M : Nat) (k_el : ClassId) (k_cs : ClassId) (k_mp : ClassId) (h_li_0 : Value) (h_L_0 : Value) (h_S_1 : Value) (h_H_0 : Value) (h_H_1 : Value) (h_T_0 : Value) (h_T_2 : Value) (h_T_3 : Value) (h_T_4 : Value) (h_M_1 : Value) (h_M_2 : Value) (h_M_4 : Value) (h_M_6 : Value) (h_M_7 : Value) (h_M_8 : Value) (h_M_9 : Value) (kI : ClassId) (AL : List (Nat × Nat)) (PP : List PG) (capE : Nat) (cs : Nat → Int32) (mp : Nat → Int32) (cn : Int32) (sn : Int32) (n : Int32) (tk : Int32) (av : Int32) (lo : Int32) (md : Int32) (hct : Int32) (ln : Int32) (a1 : Int32) (hlen : AL.length = PP.length) (hpos : 0 < PP.length) (hbig : PP.length ≤ 2000000) (hy0 : n.toInt ≤ 6) (hy1 : PP.length ≤ capE) (hy2 : 0 ≤ cn.toInt) (hy4 : cn.toInt ≤ 1000000) : vx_Met l yX10_account wsX10_account ({ frames := 7, cells := 1, slots := 6, locals := 166 }) (PR_ D ad ([(h_el, .inl (k_el, capE, .inr (.inr (.inr (.inr (egl AL)))))), (h_li, .inr (4, [h_li_0, .ref h_el, .int (nI PP.length)])), (h_A, .inr (5, [.ref h_li, .ref (pad AL 0)])), (h_cs, .inl (k_cs, 36, .inl cs)), (h_mp, .inl (k_mp, 36, .inl mp)), (h_L, .inr (8, [h_L_0, .int cn, .int sn])), (h_S, .inr (11, [.ref h_A, h_S_1, .ref h_cs, .ref h_mp, .ref h_L, .int n, .int tk, .int av, .int lo, .int md])), (h_H, .inr (7, [h_H_0, h_H_1, .int hct])), (h_T, .inr (6, [h_T_0, .int ln, h_T_2, h_T_3, h_T_4])), (h_M, .inr (13, [.ref h_S, h_M_1, h_M_2, .ref h_H, h_M_4, .ref h_T, h_M_6, h_M_7, h_M_8, h_M_9]))] ++ pgl kI AL PP) [(k_el, .object "java/lang/Object"), (k_cs, .int), (k_mp, .int), (kI, .int)] sz [.ref h_M, .int a1]) (QRs_ ((F_X10_account PP cs mp cn sn n tk av lo md hct ln a1).1 = 0) (some (.int (F_X10_account PP cs mp cn sn n tk av lo md hct ln a1).2)) (va_A [] sz)) (XR_ (fun E9 => (E9 = "java/lang/IllegalArgumentException" ∧ (F_X10_account PP cs mp cn sn n tk av lo md hct ln a1).1 = 3)) (va_A [] sz)) 1 6 (va_A [] sz) := by
  refine vx_ofW (cc := cX10_account) (maxL := 2) (ret := (some .int)) (by decide) rfl ?_
  intro p e s m args below meth c s₁ B hml htab hv
  obtain ⟨rfl, hsz, hP, hK, hF⟩ := hv
  have hx := B.exec
  have hb := B.bytes
  have hr := B.returns
  have hts := atoms_spec (ws := wsX10_account) B.pre
  have hown : s.vm.findClass RX10 = some m.cls := findClass_of_methodNamed B.named
  have hlocks := B.notSynchronized
  subst hsz
  generalize hAe : va_A [] s.heap.size = A at hF ⊢
  have hA : ∀ q : Nat, s.heap.size ≤ q → A q := fun q h => by rw [← hAe]; exact Or.inr h
  obtain ⟨H, hHe⟩ : ∃ H : Heap, H = s.heap := ⟨_, rfl⟩
  have hS : va_S A s.heap H [] := by rw [hHe]; exact va_S.rf
  have hP : va_P D vwCl ([(h_el, .inl (k_el, capE, .inr (.inr (.inr (.inr (egl AL)))))), (h_li, .inr (4, [h_li_0, .ref h_el, .int (nI PP.length)])), (h_A, .inr (5, [.ref h_li, .ref (pad AL 0)])), (h_cs, .inl (k_cs, 36, .inl cs)), (h_mp, .inl (k_mp, 36, .inl mp)), (h_L, .inr (8, [h_L_0, .int cn, .int sn])), (h_S, .inr (11, [.ref h_A, h_S_1, .ref h_cs, .ref h_mp, .ref h_L, .int n, .int tk, .int av, .int lo, .int md])), (h_H, .inr (7, [h_H_0, h_H_1, .int hct])), (h_T, .inr (6, [h_T_0, .int ln, h_T_2, h_T_3, h_T_4])), (h_M, .inr (13, [.ref h_S, h_M_1, h_M_2, .ref h_H, h_M_4, .ref h_T, h_M_6, h_M_7, h_M_8, h_M_9]))] ++ pgl kI AL PP) H := by rw [hHe]; exact hP
  rw [← hHe]
  have hi_X10 : ∀ w ∈ wsX100, w ∈ wsX10_account := by decide +kernel
  have hi_X3 : ∀ w ∈ wsX30, w ∈ wsX10_account := by decide +kernel
  have hi_X4 : ∀ w ∈ wsX40, w ∈ wsX10_account := by decide +kernel
  have hi_X5 : ∀ w ∈ wsX50, w ∈ wsX10_account := by decide +kernel
  have hi_X8 : ∀ w ∈ wsX80, w ∈ wsX10_account := by decide +kernel
  have hl := lv_entry [.ref h_M, .int a1] (n := 2) (Nat.le_of_ble_eq_true rfl)
  rw [lg_entry_eq]
  generalize (lg_sl [.ref h_M, .int a1] ++ List.replicate (2 - (lg_sl [.ref h_M, .int a1]).length) Slot.unset).toArray = ls at hl ⊢
  have hl : lv_has ls 2 [(0, .ref h_M), (1, .int a1)] := hl
  have hM : F_X10_account PP cs mp cn sn n tk av lo md hct ln a1 = (if a1 = 0 then (0, tk) else (if a1 = 1 then (0, n) else (if a1 = 2 then (0, (F_X8_countCanals cs n)) else (if a1 = 3 then (0, cn) else (if a1 = 4 then (0, sn) else (if a1 = 5 then (0, av) else (if a1 = 6 then (0, lo) else (if a1 = 7 then (0, md) else (if a1 = 8 then (0, (F_X8_countPages PP mp n)) else (if a1 = 9 then (0, hct) else (if a1 = 10 then (0, ln) else (3, 0)))))))))))) := rfl
  refine lv_iload_n hx hb dX10_account_0 rfl (lv_at hl 1 rfl) ?_
  by_cases c_1 : a1 = 0
  · rw [if_pos c_1] at hM
    refine lv_tableIn (tgt := 60) (off := 59) hx hb dX10_account_1 (by rw [c_1]; decide +kernel) (by rw [c_1]; decide +kernel) (by rw [c_1]; decide +kernel) (by decide) ?_
    refine lv_aload_n hx hb dX10_account_60 rfl (lv_at hl 0 rfl) ?_
    refine va_get (D := D) (ci := 13) (v := .ref h_S) (own := RX10) (C := RX10) (T := TX10) (N := 10) hx hb hts hi_X10 hown hK hP 9 rfl rfl 0 (by decide) (hts (.fieldLink RX10 50 "CanalMaps" "now" "LCanalMaps$Survey;") (List.mem_of_getElem? (i := 3) (by decide +kernel))) (fun _ h9 => h9) rfl dX10_account_61 ?_
    refine va_getN (D := D) (ci := 11) (v := .int tk) (own := RX10) (C := RX8) (T := TX8) (N := 10) hx hb hts hi_X8 hown hK hP 6 rfl rfl 6 (by decide) (fxn_ hF (RX10, 369, "CanalMaps$Survey", "ticks", "I")) (fun _ h9 => h9) rfl dX10_account_64 ?_
    refine vx_ret ?_
    refine W.widen (k := 1) (n := 6) (Nat.le_of_ble_eq_true rfl) (Nat.le_of_ble_eq_true rfl) ?_
    exact W.iret (v := tk) hx hb hr (QRs_.mk hS (by rw [hM]) (by rw [hM])) hS.2.2 dX10_account_67
  rw [if_neg c_1] at hM
  by_cases c_2 : a1 = 1
  · rw [if_pos c_2] at hM
    refine lv_tableIn (tgt := 68) (off := 67) hx hb dX10_account_1 (by rw [c_2]; decide +kernel) (by rw [c_2]; decide +kernel) (by rw [c_2]; decide +kernel) (by decide) ?_
    refine lv_aload_n hx hb dX10_account_68 rfl (lv_at hl 0 rfl) ?_
    refine va_get (D := D) (ci := 13) (v := .ref h_S) (own := RX10) (C := RX10) (T := TX10) (N := 10) hx hb hts hi_X10 hown hK hP 9 rfl rfl 0 (by decide) (hts (.fieldLink RX10 50 "CanalMaps" "now" "LCanalMaps$Survey;") (List.mem_of_getElem? (i := 3) (by decide +kernel))) (fun _ h9 => h9) rfl dX10_account_69 ?_
    refine va_getN (D := D) (ci := 11) (v := .int n) (own := RX10) (C := RX8) (T := TX8) (N := 10) hx hb hts hi_X8 hown hK hP 6 rfl rfl 5 (by decide) (fxn_ hF (RX10, 238, "CanalMaps$Survey", "surveyors", "I")) (fun _ h9 => h9) rfl dX10_account_72 ?_
    refine vx_ret ?_
    refine W.widen (k := 1) (n := 6) (Nat.le_of_ble_eq_true rfl) (Nat.le_of_ble_eq_true rfl) ?_
    exact W.iret (v := n) hx hb hr (QRs_.mk hS (by rw [hM]) (by rw [hM])) hS.2.2 dX10_account_75
  rw [if_neg c_2] at hM
  by_cases c_3 : a1 = 2
  · rw [if_pos c_3] at hM
    refine lv_tableIn (tgt := 76) (off := 75) hx hb dX10_account_1 (by rw [c_3]; decide +kernel) (by rw [c_3]; decide +kernel) (by rw [c_3]; decide +kernel) (by decide) ?_
    refine lv_aload_n hx hb dX10_account_76 rfl (lv_at hl 0 rfl) ?_
    refine va_get (D := D) (ci := 13) (v := .ref h_S) (own := RX10) (C := RX10) (T := TX10) (N := 10) hx hb hts hi_X10 hown hK hP 9 rfl rfl 0 (by decide) (hts (.fieldLink RX10 50 "CanalMaps" "now" "LCanalMaps$Survey;") (List.mem_of_getElem? (i := 3) (by decide +kernel))) (fun _ h9 => h9) rfl dX10_account_77 ?_
    obtain ⟨y9, hy9⟩ : ∃ y9, (F_X8_countCanals cs n) = y9 := ⟨_, rfl⟩
    have hcon := (c_X8_countCanals l hl0 D ad H.size h_cs h_S k_cs (.ref h_A) (h_S_1) (.ref h_mp) (.ref h_L) (.int tk) (.int av) (.int lo) (.int md) cs n (by have y0 := f_neq c_1; have y1 := f_neq c_2; have y2 := f_eq c_3; have z0 := hy0; have z1 := hy1; have z2 := hy2; have z3 := hy4; have e_0 : (0 : Int32).toInt = 0 := (by decide +kernel); have e_1 : (1 : Int32).toInt = 1 := (by decide +kernel); have e_2 : (2 : Int32).toInt = 2 := (by decide +kernel); have q_len := hlen; have q_pos := hpos; have q_big := hbig; have q_n := nI_toInt (n := PP.length) (by omega); omega))
    rw [hy9] at hcon
    refine kr_ (va_runV (As := []) (rest := []) ⟨hx, hb, hml, hown, hts⟩ hcon (cwV 0 hts gX10_account_X8_countCanals rfl rfl rfl (by decide +kernel) ⟨Nat.le_of_ble_eq_true rfl, Nat.le_of_ble_eq_true rfl⟩) ⟨PR_.blind, va_recv hK hP (ci := 11) (q0 := 6) rfl rfl, PR_.pre hF hK (hP.sub [3, 6] rfl) hS hA [1] rfl⟩ rfl rfl hl.1 rfl (lv_room (Nat.le_of_ble_eq_true rfl)) dX10_account_80 ⟨(Nat.le_of_ble_eq_true rfl), (Nat.le_of_ble_eq_true rfl)⟩) hP hS hA (fun H locs hP hS => ?_)
    subst hy9
    refine W.eq (g2 := F0 m 83 ls [.int (F_X8_countCanals cs n)]) rfl ?_
    refine vx_ret ?_
    refine W.widen (k := 1) (n := 6) (Nat.le_of_ble_eq_true rfl) (Nat.le_of_ble_eq_true rfl) ?_
    exact W.iret (v := (F_X8_countCanals cs n)) hx hb hr (QRs_.mk hS (by rw [hM]) (by rw [hM])) hS.2.2 dX10_account_83
  rw [if_neg c_3] at hM
  by_cases c_5 : a1 = 3
  · rw [if_pos c_5] at hM
    refine lv_tableIn (tgt := 84) (off := 83) hx hb dX10_account_1 (by rw [c_5]; decide +kernel) (by rw [c_5]; decide +kernel) (by rw [c_5]; decide +kernel) (by decide) ?_
    refine lv_aload_n hx hb dX10_account_84 rfl (lv_at hl 0 rfl) ?_
    refine va_get (D := D) (ci := 13) (v := .ref h_S) (own := RX10) (C := RX10) (T := TX10) (N := 10) hx hb hts hi_X10 hown hK hP 9 rfl rfl 0 (by decide) (hts (.fieldLink RX10 50 "CanalMaps" "now" "LCanalMaps$Survey;") (List.mem_of_getElem? (i := 3) (by decide +kernel))) (fun _ h9 => h9) rfl dX10_account_85 ?_
    refine va_getN (D := D) (ci := 11) (v := .ref h_L) (own := RX10) (C := RX8) (T := TX8) (N := 10) hx hb hts hi_X8 hown hK hP 6 rfl rfl 4 (by decide) (fxn_ hF (RX10, 140, "CanalMaps$Survey", "letters", "LCanalMaps$Letters;")) (fun _ h9 => h9) rfl dX10_account_88 ?_
    refine va_getN (D := D) (ci := 8) (v := .int cn) (own := RX10) (C := RX5) (T := TX5) (N := 3) hx hb hts hi_X5 hown hK hP 5 rfl rfl 1 (by decide) (fxn_ hF (RX10, 249, "CanalMaps$Letters", "count", "I")) (fun _ h9 => h9) rfl dX10_account_91 ?_
    refine vx_ret ?_
    refine W.widen (k := 1) (n := 6) (Nat.le_of_ble_eq_true rfl) (Nat.le_of_ble_eq_true rfl) ?_
    exact W.iret (v := cn) hx hb hr (QRs_.mk hS (by rw [hM]) (by rw [hM])) hS.2.2 dX10_account_94
  rw [if_neg c_5] at hM
  by_cases c_6 : a1 = 4
  · rw [if_pos c_6] at hM
    refine lv_tableIn (tgt := 95) (off := 94) hx hb dX10_account_1 (by rw [c_6]; decide +kernel) (by rw [c_6]; decide +kernel) (by rw [c_6]; decide +kernel) (by decide) ?_
    refine lv_aload_n hx hb dX10_account_95 rfl (lv_at hl 0 rfl) ?_
    refine va_get (D := D) (ci := 13) (v := .ref h_S) (own := RX10) (C := RX10) (T := TX10) (N := 10) hx hb hts hi_X10 hown hK hP 9 rfl rfl 0 (by decide) (hts (.fieldLink RX10 50 "CanalMaps" "now" "LCanalMaps$Survey;") (List.mem_of_getElem? (i := 3) (by decide +kernel))) (fun _ h9 => h9) rfl dX10_account_96 ?_
    refine va_getN (D := D) (ci := 11) (v := .ref h_L) (own := RX10) (C := RX8) (T := TX8) (N := 10) hx hb hts hi_X8 hown hK hP 6 rfl rfl 4 (by decide) (fxn_ hF (RX10, 140, "CanalMaps$Survey", "letters", "LCanalMaps$Letters;")) (fun _ h9 => h9) rfl dX10_account_99 ?_
    refine va_getN (D := D) (ci := 8) (v := .int sn) (own := RX10) (C := RX5) (T := TX5) (N := 3) hx hb hts hi_X5 hown hK hP 5 rfl rfl 2 (by decide) (fxn_ hF (RX10, 361, "CanalMaps$Letters", "sent", "I")) (fun _ h9 => h9) rfl dX10_account_102 ?_
    refine vx_ret ?_
    refine W.widen (k := 1) (n := 6) (Nat.le_of_ble_eq_true rfl) (Nat.le_of_ble_eq_true rfl) ?_
    exact W.iret (v := sn) hx hb hr (QRs_.mk hS (by rw [hM]) (by rw [hM])) hS.2.2 dX10_account_105
  rw [if_neg c_6] at hM
  by_cases c_7 : a1 = 5
  · rw [if_pos c_7] at hM
    refine lv_tableIn (tgt := 106) (off := 105) hx hb dX10_account_1 (by rw [c_7]; decide +kernel) (by rw [c_7]; decide +kernel) (by rw [c_7]; decide +kernel) (by decide) ?_
    refine lv_aload_n hx hb dX10_account_106 rfl (lv_at hl 0 rfl) ?_
    refine va_get (D := D) (ci := 13) (v := .ref h_S) (own := RX10) (C := RX10) (T := TX10) (N := 10) hx hb hts hi_X10 hown hK hP 9 rfl rfl 0 (by decide) (hts (.fieldLink RX10 50 "CanalMaps" "now" "LCanalMaps$Survey;") (List.mem_of_getElem? (i := 3) (by decide +kernel))) (fun _ h9 => h9) rfl dX10_account_107 ?_
    refine va_getN (D := D) (ci := 11) (v := .int av) (own := RX10) (C := RX8) (T := TX8) (N := 10) hx hb hts hi_X8 hown hK hP 6 rfl rfl 7 (by decide) (fxn_ hF (RX10, 372, "CanalMaps$Survey", "arrived", "I")) (fun _ h9 => h9) rfl dX10_account_110 ?_
    refine vx_ret ?_
    refine W.widen (k := 1) (n := 6) (Nat.le_of_ble_eq_true rfl) (Nat.le_of_ble_eq_true rfl) ?_
    exact W.iret (v := av) hx hb hr (QRs_.mk hS (by rw [hM]) (by rw [hM])) hS.2.2 dX10_account_113
  rw [if_neg c_7] at hM
  by_cases c_8 : a1 = 6
  · rw [if_pos c_8] at hM
    refine lv_tableIn (tgt := 114) (off := 113) hx hb dX10_account_1 (by rw [c_8]; decide +kernel) (by rw [c_8]; decide +kernel) (by rw [c_8]; decide +kernel) (by decide) ?_
    refine lv_aload_n hx hb dX10_account_114 rfl (lv_at hl 0 rfl) ?_
    refine va_get (D := D) (ci := 13) (v := .ref h_S) (own := RX10) (C := RX10) (T := TX10) (N := 10) hx hb hts hi_X10 hown hK hP 9 rfl rfl 0 (by decide) (hts (.fieldLink RX10 50 "CanalMaps" "now" "LCanalMaps$Survey;") (List.mem_of_getElem? (i := 3) (by decide +kernel))) (fun _ h9 => h9) rfl dX10_account_115 ?_
    refine va_getN (D := D) (ci := 11) (v := .int lo) (own := RX10) (C := RX8) (T := TX8) (N := 10) hx hb hts hi_X8 hown hK hP 6 rfl rfl 8 (by decide) (fxn_ hF (RX10, 366, "CanalMaps$Survey", "lost", "I")) (fun _ h9 => h9) rfl dX10_account_118 ?_
    refine vx_ret ?_
    refine W.widen (k := 1) (n := 6) (Nat.le_of_ble_eq_true rfl) (Nat.le_of_ble_eq_true rfl) ?_
    exact W.iret (v := lo) hx hb hr (QRs_.mk hS (by rw [hM]) (by rw [hM])) hS.2.2 dX10_account_121
  rw [if_neg c_8] at hM
  by_cases c_9 : a1 = 7
  · rw [if_pos c_9] at hM
    refine lv_tableIn (tgt := 122) (off := 121) hx hb dX10_account_1 (by rw [c_9]; decide +kernel) (by rw [c_9]; decide +kernel) (by rw [c_9]; decide +kernel) (by decide) ?_
    refine lv_aload_n hx hb dX10_account_122 rfl (lv_at hl 0 rfl) ?_
    refine va_get (D := D) (ci := 13) (v := .ref h_S) (own := RX10) (C := RX10) (T := TX10) (N := 10) hx hb hts hi_X10 hown hK hP 9 rfl rfl 0 (by decide) (hts (.fieldLink RX10 50 "CanalMaps" "now" "LCanalMaps$Survey;") (List.mem_of_getElem? (i := 3) (by decide +kernel))) (fun _ h9 => h9) rfl dX10_account_123 ?_
    refine va_getN (D := D) (ci := 11) (v := .int md) (own := RX10) (C := RX8) (T := TX8) (N := 10) hx hb hts hi_X8 hown hK hP 6 rfl rfl 9 (by decide) (fxn_ hF (RX10, 375, "CanalMaps$Survey", "made", "I")) (fun _ h9 => h9) rfl dX10_account_126 ?_
    refine vx_ret ?_
    refine W.widen (k := 1) (n := 6) (Nat.le_of_ble_eq_true rfl) (Nat.le_of_ble_eq_true rfl) ?_
    exact W.iret (v := md) hx hb hr (QRs_.mk hS (by rw [hM]) (by rw [hM])) hS.2.2 dX10_account_129
  rw [if_neg c_9] at hM
  by_cases c_10 : a1 = 8
  · rw [if_pos c_10] at hM
    refine lv_tableIn (tgt := 130) (off := 129) hx hb dX10_account_1 (by rw [c_10]; decide +kernel) (by rw [c_10]; decide +kernel) (by rw [c_10]; decide +kernel) (by decide) ?_
    refine lv_aload_n hx hb dX10_account_130 rfl (lv_at hl 0 rfl) ?_
    refine va_get (D := D) (ci := 13) (v := .ref h_S) (own := RX10) (C := RX10) (T := TX10) (N := 10) hx hb hts hi_X10 hown hK hP 9 rfl rfl 0 (by decide) (hts (.fieldLink RX10 50 "CanalMaps" "now" "LCanalMaps$Survey;") (List.mem_of_getElem? (i := 3) (by decide +kernel))) (fun _ h9 => h9) rfl dX10_account_131 ?_
    obtain ⟨y9, hy9⟩ : ∃ y9, (F_X8_countPages PP mp n) = y9 := ⟨_, rfl⟩
    have hcon := (c_X8_countPages l hl0 D ad H.size h_el h_li h_A h_mp h_S k_el k_mp (h_li_0) (h_S_1) (.ref h_cs) (.ref h_L) (.int tk) (.int av) (.int lo) (.int md) kI AL PP capE mp n hlen hpos hbig (by have y0 := f_neq c_1; have y1 := f_neq c_2; have y2 := f_neq c_3; have y3 := f_neq c_5; have y4 := f_neq c_6; have y5 := f_neq c_7; have y6 := f_neq c_8; have y7 := f_neq c_9; have y8 := f_eq c_10; have z0 := hy0; have z1 := hy1; have z2 := hy2; have z3 := hy4; have e_0 : (0 : Int32).toInt = 0 := (by decide +kernel); have e_1 : (1 : Int32).toInt = 1 := (by decide +kernel); have e_2 : (2 : Int32).toInt = 2 := (by decide +kernel); have e_3 : (3 : Int32).toInt = 3 := (by decide +kernel); have e_4 : (4 : Int32).toInt = 4 := (by decide +kernel); have e_5 : (5 : Int32).toInt = 5 := (by decide +kernel); have e_6 : (6 : Int32).toInt = 6 := (by decide +kernel); have e_7 : (7 : Int32).toInt = 7 := (by decide +kernel); have e_8 : (8 : Int32).toInt = 8 := (by decide +kernel); have q_len := hlen; have q_pos := hpos; have q_big := hbig; have q_n := nI_toInt (n := PP.length) (by omega); omega) (by have y0 := f_neq c_1; have y1 := f_neq c_2; have y2 := f_neq c_3; have y3 := f_neq c_5; have y4 := f_neq c_6; have y5 := f_neq c_7; have y6 := f_neq c_8; have y7 := f_neq c_9; have y8 := f_eq c_10; have z0 := hy0; have z1 := hy1; have z2 := hy2; have z3 := hy4; have e_0 : (0 : Int32).toInt = 0 := (by decide +kernel); have e_1 : (1 : Int32).toInt = 1 := (by decide +kernel); have e_2 : (2 : Int32).toInt = 2 := (by decide +kernel); have e_3 : (3 : Int32).toInt = 3 := (by decide +kernel); have e_4 : (4 : Int32).toInt = 4 := (by decide +kernel); have e_5 : (5 : Int32).toInt = 5 := (by decide +kernel); have e_6 : (6 : Int32).toInt = 6 := (by decide +kernel); have e_7 : (7 : Int32).toInt = 7 := (by decide +kernel); have e_8 : (8 : Int32).toInt = 8 := (by decide +kernel); have q_len := hlen; have q_pos := hpos; have q_big := hbig; have q_n := nI_toInt (n := PP.length) (by omega); omega))
    rw [hy9] at hcon
    refine kr_ (va_runV (As := []) (rest := []) ⟨hx, hb, hml, hown, hts⟩ hcon (cwV 0 hts gX10_account_X8_countPages rfl rfl rfl (by decide +kernel) ⟨Nat.le_of_ble_eq_true rfl, Nat.le_of_ble_eq_true rfl⟩) ⟨PR_.blind, va_recv hK hP (ci := 11) (q0 := 6) rfl rfl, PR_.pre hF hK (hP.part [0, 1, 2, 4, 6] rfl) hS hA [0, 2, 3] rfl⟩ rfl rfl hl.1 rfl (lv_room (Nat.le_of_ble_eq_true rfl)) dX10_account_134 ⟨(Nat.le_of_ble_eq_true rfl), (Nat.le_of_ble_eq_true rfl)⟩) hP hS hA (fun H locs hP hS => ?_)
    subst hy9
    refine W.eq (g2 := F0 m 137 ls [.int (F_X8_countPages PP mp n)]) rfl ?_
    refine vx_ret ?_
    refine W.widen (k := 1) (n := 6) (Nat.le_of_ble_eq_true rfl) (Nat.le_of_ble_eq_true rfl) ?_
    exact W.iret (v := (F_X8_countPages PP mp n)) hx hb hr (QRs_.mk hS (by rw [hM]) (by rw [hM])) hS.2.2 dX10_account_137
  rw [if_neg c_10] at hM
  by_cases c_12 : a1 = 9
  · rw [if_pos c_12] at hM
    refine lv_tableIn (tgt := 138) (off := 137) hx hb dX10_account_1 (by rw [c_12]; decide +kernel) (by rw [c_12]; decide +kernel) (by rw [c_12]; decide +kernel) (by decide) ?_
    refine lv_aload_n hx hb dX10_account_138 rfl (lv_at hl 0 rfl) ?_
    refine va_get (D := D) (ci := 13) (v := .ref h_H) (own := RX10) (C := RX10) (T := TX10) (N := 10) hx hb hts hi_X10 hown hK hP 9 rfl rfl 3 (by decide) (hts (.fieldLink RX10 63 "CanalMaps" "history" "LCanalMaps$History;") (List.mem_of_getElem? (i := 4) (by decide +kernel))) (fun _ h9 => h9) rfl dX10_account_139 ?_
    refine va_getN (D := D) (ci := 7) (v := .int hct) (own := RX10) (C := RX4) (T := TX4) (N := 3) hx hb hts hi_X4 hown hK hP 7 rfl rfl 2 (by decide) (fxn_ hF (RX10, 381, "CanalMaps$History", "count", "I")) (fun _ h9 => h9) rfl dX10_account_142 ?_
    refine vx_ret ?_
    refine W.widen (k := 1) (n := 6) (Nat.le_of_ble_eq_true rfl) (Nat.le_of_ble_eq_true rfl) ?_
    exact W.iret (v := hct) hx hb hr (QRs_.mk hS (by rw [hM]) (by rw [hM])) hS.2.2 dX10_account_145
  rw [if_neg c_12] at hM
  by_cases c_13 : a1 = 10
  · rw [if_pos c_13] at hM
    refine lv_tableIn (tgt := 146) (off := 145) hx hb dX10_account_1 (by rw [c_13]; decide +kernel) (by rw [c_13]; decide +kernel) (by rw [c_13]; decide +kernel) (by decide) ?_
    refine lv_aload_n hx hb dX10_account_146 rfl (lv_at hl 0 rfl) ?_
    refine va_get (D := D) (ci := 13) (v := .ref h_T) (own := RX10) (C := RX10) (T := TX10) (N := 10) hx hb hts hi_X10 hown hK hP 9 rfl rfl 5 (by decide) (hts (.fieldLink RX10 19 "CanalMaps" "text" "LCanalMaps$CommandText;") (List.mem_of_getElem? (i := 5) (by decide +kernel))) (fun _ h9 => h9) rfl dX10_account_147 ?_
    refine va_getN (D := D) (ci := 6) (v := .int ln) (own := RX10) (C := RX3) (T := TX3) (N := 5) hx hb hts hi_X3 hown hK hP 8 rfl rfl 1 (by decide) (fxn_ hF (RX10, 277, "CanalMaps$CommandText", "length", "I")) (fun _ h9 => h9) rfl dX10_account_150 ?_
    refine vx_ret ?_
    refine W.widen (k := 1) (n := 6) (Nat.le_of_ble_eq_true rfl) (Nat.le_of_ble_eq_true rfl) ?_
    exact W.iret (v := ln) hx hb hr (QRs_.mk hS (by rw [hM]) (by rw [hM])) hS.2.2 dX10_account_153
  rw [if_neg c_13] at hM
  refine lv_tableOut (tgt := 154) hx hb dX10_account_1 (by have y0 := f_neq c_1; have y1 := f_neq c_2; have y2 := f_neq c_3; have y3 := f_neq c_5; have y4 := f_neq c_6; have y5 := f_neq c_7; have y6 := f_neq c_8; have y7 := f_neq c_9; have y8 := f_neq c_10; have y9 := f_neq c_12; have y10 := f_neq c_13; have z0 := hy0; have z1 := hy1; have z2 := hy2; have z3 := hy4; have e_0 : (0 : Int32).toInt = 0 := (by decide +kernel); have e_1 : (1 : Int32).toInt = 1 := (by decide +kernel); have e_2 : (2 : Int32).toInt = 2 := (by decide +kernel); have e_3 : (3 : Int32).toInt = 3 := (by decide +kernel); have e_4 : (4 : Int32).toInt = 4 := (by decide +kernel); have e_5 : (5 : Int32).toInt = 5 := (by decide +kernel); have e_6 : (6 : Int32).toInt = 6 := (by decide +kernel); have e_7 : (7 : Int32).toInt = 7 := (by decide +kernel); have e_8 : (8 : Int32).toInt = 8 := (by decide +kernel); have e_9 : (9 : Int32).toInt = 9 := (by decide +kernel); have e_10 : (10 : Int32).toInt = 10 := (by decide +kernel); have q_len := hlen; have q_pos := hpos; have q_big := hbig; have q_n := nI_toInt (n := PP.length) (by omega); omega) (by decide) ?_
  obtain ⟨sa9, hstr⟩ := fxs_ hF RX10 382 "what is not from 0 to 10"
  exact vx_throwSW (own := RX10) (cls := "java/lang/IllegalArgumentException") (names := ["java/lang/RuntimeException", "java/lang/Exception"]) hx hb hl0 hown (by decide +kernel) (by decide +kernel) (hts (.classLink RX10 149 "java/lang/IllegalArgumentException") (List.mem_of_getElem? (i := 1) (by decide +kernel))) (hts (.initialized "java/lang/IllegalArgumentException") (List.mem_of_getElem? (i := 2) (by decide +kernel))) hstr (fxw_ hts (by decide +kernel) (by decide +kernel) (fxb_ hF "java/lang/IllegalArgumentException")) (by decide +kernel) hF.2.2.2.2.1 hF.2.2.2.2.2.1 hS (by rw [hml]; exact hl.1) dX10_account_154 dX10_account_157 dX10_account_158 dX10_account_161 dX10_account_164 (fun x9 hx9 => (htab x9 hx9).elim) (Nat.le_of_ble_eq_true rfl) (Nat.le_of_ble_eq_true rfl) (Nat.le_of_ble_eq_true rfl) (Nat.le_of_ble_eq_true rfl) hlocks (fun t9 _ hz9 hq9 => ⟨⟨rfl, (by rw [hM])⟩, xt_ hS hz9 hq9⟩) hS.2.2 (Nat.le_of_ble_eq_true rfl) (Nat.le_of_ble_eq_true rfl)
def F_X10_faultPosition (lf : Int32) : Int32 := lf
set_option maxHeartbeats 4000000 in
set_option maxRecDepth 100000 in
theorem c_X10_faultPosition (l : Launch) (hl0 : l.stackTraces = false) (D : va_G) (ad : Nat → Nat) (sz : Nat) (h_M : Nat) (h_M_0 : Value) (h_M_1 : Value) (h_M_2 : Value) (h_M_3 : Value) (h_M_4 : Value) (h_M_5 : Value) (h_M_6 : Value) (h_M_7 : Value) (h_M_9 : Value) (lf : Int32) : Met l yX10_faultPosition wsX10_faultPosition ({ frames := 0, cells := 0, slots := 0, locals := 0 }) (PR_ D ad [(h_M, .inr (13, [h_M_0, h_M_1, h_M_2, h_M_3, h_M_4, h_M_5, h_M_6, h_M_7, .int lf, h_M_9]))] [] sz [.ref h_M]) (QR_ (.int (F_X10_faultPosition lf)) (va_A [] sz)) 0 0 (va_A [] sz) := by
  refine Met.ofW (cc := cX10_faultPosition) (maxL := 1) (ret := (some .int)) (by decide) rfl ?_
  intro p e s m args below meth c s₁ B hml hv
  obtain ⟨rfl, hsz, hP, hK, hF⟩ := hv
  have hx := B.exec
  have hb := B.bytes
  have hr := B.returns
  have hts := atoms_spec (ws := wsX10_faultPosition) B.pre
  have hown : s.vm.findClass RX10 = some m.cls := findClass_of_methodNamed B.named
  have hlocks := B.notSynchronized
  subst hsz
  generalize hAe : va_A [] s.heap.size = A at hF ⊢
  have hA : ∀ q : Nat, s.heap.size ≤ q → A q := fun q h => by rw [← hAe]; exact Or.inr h
  obtain ⟨H, hHe⟩ : ∃ H : Heap, H = s.heap := ⟨_, rfl⟩
  have hS : va_S A s.heap H [] := by rw [hHe]; exact va_S.rf
  have hP : va_P D vwCl [(h_M, .inr (13, [h_M_0, h_M_1, h_M_2, h_M_3, h_M_4, h_M_5, h_M_6, h_M_7, .int lf, h_M_9]))] H := by rw [hHe]; exact hP
  rw [← hHe]
  have hi_X10 : ∀ w ∈ wsX100, w ∈ wsX10_faultPosition := by decide +kernel
  have hl := lv_entry [.ref h_M] (n := 1) (Nat.le_of_ble_eq_true rfl)
  rw [lg_entry_eq]
  generalize (lg_sl [.ref h_M] ++ List.replicate (1 - (lg_sl [.ref h_M]).length) Slot.unset).toArray = ls at hl ⊢
  have hl : lv_has ls 1 [(0, .ref h_M)] := hl
  have hM : F_X10_faultPosition lf = lf := rfl
  refine lv_aload_n hx hb dX10_faultPosition_0 rfl (lv_at hl 0 rfl) ?_
  refine va_get (D := D) (ci := 13) (v := .int lf) (own := RX10) (C := RX10) (T := TX10) (N := 10) hx hb hts hi_X10 hown hK hP 0 rfl rfl 8 (by decide) (hts (.fieldLink RX10 34 "CanalMaps" "latestFault" "I") (List.mem_of_getElem? (i := 1) (by decide +kernel))) (fun _ h9 => h9) rfl dX10_faultPosition_1 ?_
  refine W.widen (k := 0) (n := 0) (Nat.le_of_ble_eq_true rfl) (Nat.le_of_ble_eq_true rfl) ?_
  exact W.iret (v := lf) hx hb hr (QR_.mk hS (by rw [hM])) hS.2.2 dX10_faultPosition_4
