def F_X10_meanCost (cs : Nat → Int32) (n : Int32) : Nat × UInt64 := (if (F_X8_countCanals cs n) = 0 then (6, 0) else (0, (FP.ddiv (FP.i2d (F_X8_sumOfCosts cs n)) (FP.i2d (F_X8_countCanals cs n)))))
set_option maxHeartbeats 4000000 in
set_option maxRecDepth 100000 in
theorem c_X10_meanCost (l : Launch) (hl0 : l.stackTraces = false) (D : va_G) (ad : Nat → Nat) (sz : Nat) (h_cs : Nat) (h_S : Nat) (h_M : Nat) (k_cs : ClassId) (h_S_0 : Value) (h_S_1 : Value) (h_S_3 : Value) (h_S_4 : Value) (h_S_6 : Value) (h_S_7 : Value) (h_S_8 : Value) (h_S_9 : Value) (h_M_1 : Value) (h_M_2 : Value) (h_M_3 : Value) (h_M_4 : Value) (h_M_5 : Value) (h_M_6 : Value) (h_M_7 : Value) (h_M_8 : Value) (h_M_9 : Value) (cs : Nat → Int32) (n : Int32) (hy0 : n.toInt ≤ 6) : vx_Met l yX10_meanCost wsX10_meanCost ({ frames := 6, cells := 1, slots := 6, locals := 100 }) (PR_ D ad [(h_cs, .inl (k_cs, 36, .inl cs)), (h_S, .inr (11, [h_S_0, h_S_1, .ref h_cs, h_S_3, h_S_4, .int n, h_S_6, h_S_7, h_S_8, h_S_9])), (h_M, .inr (13, [.ref h_S, h_M_1, h_M_2, h_M_3, h_M_4, h_M_5, h_M_6, h_M_7, h_M_8, h_M_9]))] [(k_cs, .int)] sz [.ref h_M]) (QRs_ ((F_X10_meanCost cs n).1 = 0) (some (.double (F_X10_meanCost cs n).2)) (va_A [] sz)) (XR_ (fun E9 => (E9 = "java/lang/ArithmeticException" ∧ (F_X10_meanCost cs n).1 = 6)) (va_A [] sz)) 1 6 (va_A [] sz) := by
  refine vx_ofW (cc := cX10_meanCost) (maxL := 2) (ret := (some .double)) (by decide) rfl ?_
  intro p e s m args below meth c s₁ B hml htab hv
  obtain ⟨rfl, hsz, hP, hK, hF⟩ := hv
  have hx := B.exec
  have hb := B.bytes
  have hr := B.returns
  have hts := atoms_spec (ws := wsX10_meanCost) B.pre
  have hown : s.vm.findClass RX10 = some m.cls := findClass_of_methodNamed B.named
  have hlocks := B.notSynchronized
  subst hsz
  generalize hAe : va_A [] s.heap.size = A at hF ⊢
  have hA : ∀ q : Nat, s.heap.size ≤ q → A q := fun q h => by rw [← hAe]; exact Or.inr h
  obtain ⟨H, hHe⟩ : ∃ H : Heap, H = s.heap := ⟨_, rfl⟩
  have hS : va_S A s.heap H [] := by rw [hHe]; exact va_S.rf
  have hP : va_P D vwCl [(h_cs, .inl (k_cs, 36, .inl cs)), (h_S, .inr (11, [h_S_0, h_S_1, .ref h_cs, h_S_3, h_S_4, .int n, h_S_6, h_S_7, h_S_8, h_S_9])), (h_M, .inr (13, [.ref h_S, h_M_1, h_M_2, h_M_3, h_M_4, h_M_5, h_M_6, h_M_7, h_M_8, h_M_9]))] H := by rw [hHe]; exact hP
  rw [← hHe]
  have hi_X10 : ∀ w ∈ wsX100, w ∈ wsX10_meanCost := by decide +kernel
  have hl := lv_entry [.ref h_M] (n := 2) (Nat.le_of_ble_eq_true rfl)
  rw [lg_entry_eq]
  generalize (lg_sl [.ref h_M] ++ List.replicate (2 - (lg_sl [.ref h_M]).length) Slot.unset).toArray = ls at hl ⊢
  have hl : lv_has ls 2 [(0, .ref h_M)] := hl
  have hM : F_X10_meanCost cs n = (if (F_X8_countCanals cs n) = 0 then (6, 0) else (0, (FP.ddiv (FP.i2d (F_X8_sumOfCosts cs n)) (FP.i2d (F_X8_countCanals cs n))))) := rfl
  refine lv_aload_n hx hb dX10_meanCost_0 rfl (lv_at hl 0 rfl) ?_
  refine va_get (D := D) (ci := 13) (v := .ref h_S) (own := RX10) (C := RX10) (T := TX10) (N := 10) hx hb hts hi_X10 hown hK hP 2 rfl rfl 0 (by decide) (hts (.fieldLink RX10 50 "CanalMaps" "now" "LCanalMaps$Survey;") (List.mem_of_getElem? (i := 3) (by decide +kernel))) (fun _ h9 => h9) rfl dX10_meanCost_1 ?_
  obtain ⟨y9, hy9⟩ : ∃ y9, (F_X8_countCanals cs n) = y9 := ⟨_, rfl⟩
  have hcon := (c_X8_countCanals l hl0 D ad H.size h_cs h_S k_cs (h_S_0) (h_S_1) (h_S_3) (h_S_4) (h_S_6) (h_S_7) (h_S_8) (h_S_9) cs n (by have z0 := hy0; omega))
  rw [hy9] at hcon
  refine kr_ (va_runV (As := []) (rest := []) ⟨hx, hb, hml, hown, hts⟩ hcon (cwV 0 hts gX10_meanCost_X8_countCanals rfl rfl rfl (by decide +kernel) ⟨Nat.le_of_ble_eq_true rfl, Nat.le_of_ble_eq_true rfl⟩) ⟨PR_.blind, va_recv hK hP (ci := 11) (q0 := 1) rfl rfl, PR_.pre hF hK (hP.sub [0, 1] rfl) hS hA [0] rfl⟩ rfl rfl hl.1 rfl (lv_room (Nat.le_of_ble_eq_true rfl)) dX10_meanCost_4 ⟨(Nat.le_of_ble_eq_true rfl), (Nat.le_of_ble_eq_true rfl)⟩) hP hS hA (fun H locs hP hS => ?_)
  subst hy9
  refine W.eq (g2 := F0 m 7 ls [.int (F_X8_countCanals cs n)]) rfl ?_
  refine lv_istore_n (lv' := [(1, .int (F_X8_countCanals cs n)), (0, .ref h_M)]) hx hb dX10_meanCost_7 rfl hl (by decide) rfl (fun ls hl => ?_)
  refine lv_iload_n hx hb dX10_meanCost_8 rfl (lv_at hl 0 rfl) ?_
  refine lv_if_ne (tgt := 23) hx hb dX10_meanCost_9 (by decide) (fun c_2 => ?_) (fun c_2 => ?_)
  · rw [if_neg c_2] at hM
    refine lv_aload_n hx hb dX10_meanCost_23 rfl (lv_at hl 1 rfl) ?_
    refine va_get (D := D) (ci := 13) (v := .ref h_S) (own := RX10) (C := RX10) (T := TX10) (N := 10) hx hb hts hi_X10 hown hK hP 2 rfl rfl 0 (by decide) (hts (.fieldLink RX10 50 "CanalMaps" "now" "LCanalMaps$Survey;") (List.mem_of_getElem? (i := 3) (by decide +kernel))) (fun _ h9 => h9) rfl dX10_meanCost_24 ?_
    obtain ⟨y9, hy9⟩ : ∃ y9, (F_X8_sumOfCosts cs n) = y9 := ⟨_, rfl⟩
    have hcon := (c_X8_sumOfCosts l hl0 D ad H.size h_cs h_S k_cs (h_S_0) (h_S_1) (h_S_3) (h_S_4) (h_S_6) (h_S_7) (h_S_8) (h_S_9) cs n (by have y0 := f_neq c_2; have z0 := hy0; have e_0 : (0 : Int32).toInt = 0 := (by decide +kernel); omega))
    rw [hy9] at hcon
    refine kr_ (va_runV (As := []) (rest := []) ⟨hx, hb, hml, hown, hts⟩ hcon (cwV 0 hts gX10_meanCost_X8_sumOfCosts rfl rfl rfl (by decide +kernel) ⟨Nat.le_of_ble_eq_true rfl, Nat.le_of_ble_eq_true rfl⟩) ⟨PR_.blind, va_recv hK hP (ci := 11) (q0 := 1) rfl rfl, PR_.pre hF hK (hP.sub [0, 1] rfl) hS hA [0] rfl⟩ rfl rfl hl.1 rfl (lv_room (Nat.le_of_ble_eq_true rfl)) dX10_meanCost_27 ⟨(Nat.le_of_ble_eq_true rfl), (Nat.le_of_ble_eq_true rfl)⟩) hP hS hA (fun H locs hP hS => ?_)
    subst hy9
    refine W.eq (g2 := F0 m 30 ls [.int (F_X8_sumOfCosts cs n)]) rfl ?_
    refine lv_i2d hx hb dX10_meanCost_30 ?_
    refine lv_iload_n hx hb dX10_meanCost_31 rfl (lv_at hl 0 rfl) ?_
    refine lv_i2d hx hb dX10_meanCost_32 ?_
    refine lv_ddiv hx hb dX10_meanCost_33 (ddiv_nn _ (F_X8_countCanals cs n) (by have y0 := f_neq c_2; have z0 := hy0; have e_0 : (0 : Int32).toInt = 0 := (by decide +kernel); have b4 := Int32.toInt_lt (F_X8_countCanals cs n); have d4 := Int32.le_toInt (F_X8_countCanals cs n); omega)) ?_
    refine vx_ret ?_
    refine W.widen (k := 1) (n := 6) (Nat.le_of_ble_eq_true rfl) (Nat.le_of_ble_eq_true rfl) ?_
    exact W.dret (v := (FP.ddiv (FP.i2d (F_X8_sumOfCosts cs n)) (FP.i2d (F_X8_countCanals cs n)))) hx hb hr (QRs_.mk hS (by rw [hM]) (by rw [hM])) hS.2.2 dX10_meanCost_34
  · rw [if_pos c_2] at hM
    obtain ⟨sa9, hstr⟩ := fxs_ hF RX10 355 "there are no canals"
    exact vx_throwSW (own := RX10) (cls := "java/lang/ArithmeticException") (names := ["java/lang/RuntimeException", "java/lang/Exception"]) hx hb hl0 hown (by decide +kernel) (by decide +kernel) (hts (.classLink RX10 353 "java/lang/ArithmeticException") (List.mem_of_getElem? (i := 1) (by decide +kernel))) (hts (.initialized "java/lang/ArithmeticException") (List.mem_of_getElem? (i := 2) (by decide +kernel))) hstr (fxw_ hts (by decide +kernel) (by decide +kernel) (fxb_ hF "java/lang/ArithmeticException")) (by decide +kernel) hF.2.2.2.2.1 hF.2.2.2.2.2.1 hS (by rw [hml]; exact hl.1) dX10_meanCost_12 dX10_meanCost_15 dX10_meanCost_16 dX10_meanCost_19 dX10_meanCost_22 (fun x9 hx9 => (htab x9 hx9).elim) (Nat.le_of_ble_eq_true rfl) (Nat.le_of_ble_eq_true rfl) (Nat.le_of_ble_eq_true rfl) (Nat.le_of_ble_eq_true rfl) hlocks (fun t9 _ hz9 hq9 => ⟨⟨rfl, (by rw [hM])⟩, xt_ hS hz9 hq9⟩) hS.2.2 (Nat.le_of_ble_eq_true rfl) (Nat.le_of_ble_eq_true rfl)
def F_X10_lostShare (sn : Int32) (lo : Int32) : Nat × UInt32 := (if sn = 0 then (6, 0) else (0, (FP.fdiv (FP.i2f lo) (FP.i2f sn))))
set_option maxHeartbeats 4000000 in
set_option maxRecDepth 100000 in
theorem c_X10_lostShare (l : Launch) (hl0 : l.stackTraces = false) (D : va_G) (ad : Nat → Nat) (sz : Nat) (h_L : Nat) (h_S : Nat) (h_M : Nat) (h_L_0 : Value) (h_L_1 : Value) (h_S_0 : Value) (h_S_1 : Value) (h_S_2 : Value) (h_S_3 : Value) (h_S_5 : Value) (h_S_6 : Value) (h_S_7 : Value) (h_S_9 : Value) (h_M_1 : Value) (h_M_2 : Value) (h_M_3 : Value) (h_M_4 : Value) (h_M_5 : Value) (h_M_6 : Value) (h_M_7 : Value) (h_M_8 : Value) (h_M_9 : Value) (sn : Int32) (lo : Int32) : vx_Met l yX10_lostShare wsX10_lostShare ({ frames := 6, cells := 1, slots := 6, locals := 100 }) (PR_ D ad [(h_L, .inr (8, [h_L_0, h_L_1, .int sn])), (h_S, .inr (11, [h_S_0, h_S_1, h_S_2, h_S_3, .ref h_L, h_S_5, h_S_6, h_S_7, .int lo, h_S_9])), (h_M, .inr (13, [.ref h_S, h_M_1, h_M_2, h_M_3, h_M_4, h_M_5, h_M_6, h_M_7, h_M_8, h_M_9]))] [] sz [.ref h_M]) (QRs_ ((F_X10_lostShare sn lo).1 = 0) (some (.float (F_X10_lostShare sn lo).2)) (va_A [] sz)) (XR_ (fun E9 => (E9 = "java/lang/ArithmeticException" ∧ (F_X10_lostShare sn lo).1 = 6)) (va_A [] sz)) 1 6 (va_A [] sz) := by
  refine vx_ofW (cc := cX10_lostShare) (maxL := 1) (ret := (some .float)) (by decide) rfl ?_
  intro p e s m args below meth c s₁ B hml htab hv
  obtain ⟨rfl, hsz, hP, hK, hF⟩ := hv
  have hx := B.exec
  have hb := B.bytes
  have hr := B.returns
  have hts := atoms_spec (ws := wsX10_lostShare) B.pre
  have hown : s.vm.findClass RX10 = some m.cls := findClass_of_methodNamed B.named
  have hlocks := B.notSynchronized
  subst hsz
  generalize hAe : va_A [] s.heap.size = A at hF ⊢
  have hA : ∀ q : Nat, s.heap.size ≤ q → A q := fun q h => by rw [← hAe]; exact Or.inr h
  obtain ⟨H, hHe⟩ : ∃ H : Heap, H = s.heap := ⟨_, rfl⟩
  have hS : va_S A s.heap H [] := by rw [hHe]; exact va_S.rf
  have hP : va_P D vwCl [(h_L, .inr (8, [h_L_0, h_L_1, .int sn])), (h_S, .inr (11, [h_S_0, h_S_1, h_S_2, h_S_3, .ref h_L, h_S_5, h_S_6, h_S_7, .int lo, h_S_9])), (h_M, .inr (13, [.ref h_S, h_M_1, h_M_2, h_M_3, h_M_4, h_M_5, h_M_6, h_M_7, h_M_8, h_M_9]))] H := by rw [hHe]; exact hP
  rw [← hHe]
  have hi_X10 : ∀ w ∈ wsX100, w ∈ wsX10_lostShare := by decide +kernel
  have hi_X5 : ∀ w ∈ wsX50, w ∈ wsX10_lostShare := by decide +kernel
  have hi_X8 : ∀ w ∈ wsX80, w ∈ wsX10_lostShare := by decide +kernel
  have hl := lv_entry [.ref h_M] (n := 1) (Nat.le_of_ble_eq_true rfl)
  rw [lg_entry_eq]
  generalize (lg_sl [.ref h_M] ++ List.replicate (1 - (lg_sl [.ref h_M]).length) Slot.unset).toArray = ls at hl ⊢
  have hl : lv_has ls 1 [(0, .ref h_M)] := hl
  have hM : F_X10_lostShare sn lo = (if sn = 0 then (6, 0) else (0, (FP.fdiv (FP.i2f lo) (FP.i2f sn)))) := rfl
  refine lv_aload_n hx hb dX10_lostShare_0 rfl (lv_at hl 0 rfl) ?_
  refine va_get (D := D) (ci := 13) (v := .ref h_S) (own := RX10) (C := RX10) (T := TX10) (N := 10) hx hb hts hi_X10 hown hK hP 2 rfl rfl 0 (by decide) (hts (.fieldLink RX10 50 "CanalMaps" "now" "LCanalMaps$Survey;") (List.mem_of_getElem? (i := 3) (by decide +kernel))) (fun _ h9 => h9) rfl dX10_lostShare_1 ?_
  refine va_getN (D := D) (ci := 11) (v := .ref h_L) (own := RX10) (C := RX8) (T := TX8) (N := 10) hx hb hts hi_X8 hown hK hP 1 rfl rfl 4 (by decide) (fxn_ hF (RX10, 140, "CanalMaps$Survey", "letters", "LCanalMaps$Letters;")) (fun _ h9 => h9) rfl dX10_lostShare_4 ?_
  refine va_getN (D := D) (ci := 8) (v := .int sn) (own := RX10) (C := RX5) (T := TX5) (N := 3) hx hb hts hi_X5 hown hK hP 0 rfl rfl 2 (by decide) (fxn_ hF (RX10, 361, "CanalMaps$Letters", "sent", "I")) (fun _ h9 => h9) rfl dX10_lostShare_7 ?_
  refine lv_if_ne (tgt := 24) hx hb dX10_lostShare_10 (by decide) (fun c_1 => ?_) (fun c_1 => ?_)
  · rw [if_neg c_1] at hM
    refine lv_aload_n hx hb dX10_lostShare_24 rfl (lv_at hl 0 rfl) ?_
    refine va_get (D := D) (ci := 13) (v := .ref h_S) (own := RX10) (C := RX10) (T := TX10) (N := 10) hx hb hts hi_X10 hown hK hP 2 rfl rfl 0 (by decide) (hts (.fieldLink RX10 50 "CanalMaps" "now" "LCanalMaps$Survey;") (List.mem_of_getElem? (i := 3) (by decide +kernel))) (fun _ h9 => h9) rfl dX10_lostShare_25 ?_
    refine va_getN (D := D) (ci := 11) (v := .int lo) (own := RX10) (C := RX8) (T := TX8) (N := 10) hx hb hts hi_X8 hown hK hP 1 rfl rfl 8 (by decide) (fxn_ hF (RX10, 366, "CanalMaps$Survey", "lost", "I")) (fun _ h9 => h9) rfl dX10_lostShare_28 ?_
    refine lv_i2f hx hb dX10_lostShare_31 ?_
    refine lv_aload_n hx hb dX10_lostShare_32 rfl (lv_at hl 0 rfl) ?_
    refine va_get (D := D) (ci := 13) (v := .ref h_S) (own := RX10) (C := RX10) (T := TX10) (N := 10) hx hb hts hi_X10 hown hK hP 2 rfl rfl 0 (by decide) (hts (.fieldLink RX10 50 "CanalMaps" "now" "LCanalMaps$Survey;") (List.mem_of_getElem? (i := 3) (by decide +kernel))) (fun _ h9 => h9) rfl dX10_lostShare_33 ?_
    refine va_getN (D := D) (ci := 11) (v := .ref h_L) (own := RX10) (C := RX8) (T := TX8) (N := 10) hx hb hts hi_X8 hown hK hP 1 rfl rfl 4 (by decide) (fxn_ hF (RX10, 140, "CanalMaps$Survey", "letters", "LCanalMaps$Letters;")) (fun _ h9 => h9) rfl dX10_lostShare_36 ?_
    refine va_getN (D := D) (ci := 8) (v := .int sn) (own := RX10) (C := RX5) (T := TX5) (N := 3) hx hb hts hi_X5 hown hK hP 0 rfl rfl 2 (by decide) (fxn_ hF (RX10, 361, "CanalMaps$Letters", "sent", "I")) (fun _ h9 => h9) rfl dX10_lostShare_39 ?_
    refine lv_i2f hx hb dX10_lostShare_42 ?_
    refine lv_fdiv hx hb dX10_lostShare_43 (fdiv_nn _ sn (by have y0 := f_neq c_1; have e_0 : (0 : Int32).toInt = 0 := (by decide +kernel); have b4 := Int32.toInt_lt (sn); have d4 := Int32.le_toInt (sn); omega)) ?_
    refine vx_ret ?_
    refine W.widen (k := 1) (n := 6) (Nat.le_of_ble_eq_true rfl) (Nat.le_of_ble_eq_true rfl) ?_
    exact W.fret (v := (FP.fdiv (FP.i2f lo) (FP.i2f sn))) hx hb hr (QRs_.mk hS (by rw [hM]) (by rw [hM])) hS.2.2 dX10_lostShare_44
  · rw [if_pos c_1] at hM
    obtain ⟨sa9, hstr⟩ := fxs_ hF RX10 364 "no letter was sent"
    exact vx_throwSW (own := RX10) (cls := "java/lang/ArithmeticException") (names := ["java/lang/RuntimeException", "java/lang/Exception"]) hx hb hl0 hown (by decide +kernel) (by decide +kernel) (hts (.classLink RX10 353 "java/lang/ArithmeticException") (List.mem_of_getElem? (i := 1) (by decide +kernel))) (hts (.initialized "java/lang/ArithmeticException") (List.mem_of_getElem? (i := 2) (by decide +kernel))) hstr (fxw_ hts (by decide +kernel) (by decide +kernel) (fxb_ hF "java/lang/ArithmeticException")) (by decide +kernel) hF.2.2.2.2.1 hF.2.2.2.2.2.1 hS (by rw [hml]; exact hl.1) dX10_lostShare_13 dX10_lostShare_16 dX10_lostShare_17 dX10_lostShare_20 dX10_lostShare_23 (fun x9 hx9 => (htab x9 hx9).elim) (Nat.le_of_ble_eq_true rfl) (Nat.le_of_ble_eq_true rfl) (Nat.le_of_ble_eq_true rfl) (Nat.le_of_ble_eq_true rfl) hlocks (fun t9 _ hz9 hq9 => ⟨⟨rfl, (by rw [hM])⟩, xt_ hS hz9 hq9⟩) hS.2.2 (Nat.le_of_ble_eq_true rfl) (Nat.le_of_ble_eq_true rfl)
