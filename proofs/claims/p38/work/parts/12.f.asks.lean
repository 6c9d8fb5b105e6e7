def F_Jxe99ae_isNaN_b9ae7 (a1 : UInt64) : Int32 := (if (Op.cmpValue (FP.dcmp a1 a1) .l) = 0 then 0 else 1)
set_option maxHeartbeats 4000000 in
set_option maxRecDepth 100000 in
theorem c_Jxe99ae_isNaN_b9ae7 (l : Launch) (hl0 : l.stackTraces = false) (D : va_G) (ad : Nat → Nat) (sz : Nat) (a1 : UInt64) : Met l yJxe99ae_isNaN_b9ae7 wsJxe99ae_isNaN_b9ae7 ({ frames := 0, cells := 0, slots := 0, locals := 0 }) (PR_ D ad [] [] sz [.double a1]) (QR_ (.int (F_Jxe99ae_isNaN_b9ae7 a1)) (va_A [] sz)) 0 0 (va_A [] sz) := by
  refine Met.ofW (cc := cJxe99ae_isNaN_b9ae7) (maxL := 2) (ret := (some .boolean)) (by decide) rfl ?_
  intro p e s m args below meth c s₁ B hml hv
  obtain ⟨rfl, hsz, hP, hK, hF⟩ := hv
  have hx := B.exec
  have hb := B.bytes
  have hr := B.returns
  have hts := atoms_spec (ws := wsJxe99ae_isNaN_b9ae7) B.pre
  have hown : s.vm.findClass RJxe99ae = some m.cls := findClass_of_methodNamed B.named
  have hlocks := B.notSynchronized
  subst hsz
  generalize hAe : va_A [] s.heap.size = A at hF ⊢
  have hA : ∀ q : Nat, s.heap.size ≤ q → A q := fun q h => by rw [← hAe]; exact Or.inr h
  obtain ⟨H, hHe⟩ : ∃ H : Heap, H = s.heap := ⟨_, rfl⟩
  have hS : va_S A s.heap H [] := by rw [hHe]; exact va_S.rf
  have hP : va_P D vwCl [] H := by rw [hHe]; exact hP
  rw [← hHe]
  have hl := lv_entry [.double a1] (n := 2) (Nat.le_of_ble_eq_true rfl)
  rw [lg_entry_eq]
  generalize (lg_sl [.double a1] ++ List.replicate (2 - (lg_sl [.double a1]).length) Slot.unset).toArray = ls at hl ⊢
  have hl : lv_has ls 2 [(0, .double a1)] := hl
  have hM : F_Jxe99ae_isNaN_b9ae7 a1 = (if (Op.cmpValue (FP.dcmp a1 a1) .l) = 0 then 0 else 1) := rfl
  refine lv_dload_n hx hb dJxe99ae_isNaN_b9ae7_0 rfl (lv_at hl 0 rfl) ?_
  refine lv_dload_n hx hb dJxe99ae_isNaN_b9ae7_1 rfl (lv_at hl 0 rfl) ?_
  refine lv_dcmp (x := a1) (y := a1) hx hb dJxe99ae_isNaN_b9ae7_2 ?_
  refine lv_if_eq (tgt := 10) hx hb dJxe99ae_isNaN_b9ae7_3 (by decide) (fun c_1 => ?_) (fun c_1 => ?_)
  · rw [if_pos c_1] at hM
    refine lv_iconst (v := 0) hx hb dJxe99ae_isNaN_b9ae7_10 (by decide) ?_
    refine W.widen (k := 0) (n := 0) (Nat.le_of_ble_eq_true rfl) (Nat.le_of_ble_eq_true rfl) ?_
    exact W.zret (v := 0) hx hb hr rfl (QR_.mk hS (by rw [hM])) hS.2.2 dJxe99ae_isNaN_b9ae7_11
  · rw [if_neg c_1] at hM
    refine lv_iconst (v := 1) hx hb dJxe99ae_isNaN_b9ae7_6 (by decide) ?_
    refine lv_goto (tgt := 11) hx hb dJxe99ae_isNaN_b9ae7_7 (by decide) ?_
    refine W.widen (k := 0) (n := 0) (Nat.le_of_ble_eq_true rfl) (Nat.le_of_ble_eq_true rfl) ?_
    exact W.zret (v := 1) hx hb hr rfl (QR_.mk hS (by rw [hM])) hS.2.2 dJxe99ae_isNaN_b9ae7_11
def F_Jxe99ae_doubleToLongBits_ccdee (a1 : UInt64) : Int64 := (if (F_Jxe99ae_isNaN_b9ae7 a1) = 0 then (UInt64.toInt64 a1) else (9221120237041090560 : Int64))
set_option maxHeartbeats 4000000 in
set_option maxRecDepth 100000 in
theorem c_Jxe99ae_doubleToLongBits_ccdee (l : Launch) (hl0 : l.stackTraces = false) (D : va_G) (ad : Nat → Nat) (sz : Nat) (a1 : UInt64) : Met l yJxe99ae_doubleToLongBits_ccdee wsJxe99ae_doubleToLongBits_ccdee ({ frames := 1, cells := 0, slots := 0, locals := 40 }) (PR_ D ad [] [] sz [.double a1]) (QR_ (.long (F_Jxe99ae_doubleToLongBits_ccdee a1)) (va_A [] sz)) 0 0 (va_A [] sz) := by
  refine Met.ofW (cc := cJxe99ae_doubleToLongBits_ccdee) (maxL := 2) (ret := (some .long)) (by decide) rfl ?_
  intro p e s m args below meth c s₁ B hml hv
  obtain ⟨rfl, hsz, hP, hK, hF⟩ := hv
  have hx := B.exec
  have hb := B.bytes
  have hr := B.returns
  have hts := atoms_spec (ws := wsJxe99ae_doubleToLongBits_ccdee) B.pre
  have hown : s.vm.findClass RJxe99ae = some m.cls := findClass_of_methodNamed B.named
  have hlocks := B.notSynchronized
  subst hsz
  generalize hAe : va_A [] s.heap.size = A at hF ⊢
  have hA : ∀ q : Nat, s.heap.size ≤ q → A q := fun q h => by rw [← hAe]; exact Or.inr h
  obtain ⟨H, hHe⟩ : ∃ H : Heap, H = s.heap := ⟨_, rfl⟩
  have hS : va_S A s.heap H [] := by rw [hHe]; exact va_S.rf
  have hP : va_P D vwCl [] H := by rw [hHe]; exact hP
  rw [← hHe]
  have hl := lv_entry [.double a1] (n := 2) (Nat.le_of_ble_eq_true rfl)
  rw [lg_entry_eq]
  generalize (lg_sl [.double a1] ++ List.replicate (2 - (lg_sl [.double a1]).length) Slot.unset).toArray = ls at hl ⊢
  have hl : lv_has ls 2 [(0, .double a1)] := hl
  have hM : F_Jxe99ae_doubleToLongBits_ccdee a1 = (if (F_Jxe99ae_isNaN_b9ae7 a1) = 0 then (UInt64.toInt64 a1) else (9221120237041090560 : Int64)) := rfl
  refine lv_dload_n hx hb dJxe99ae_doubleToLongBits_ccdee_0 rfl (lv_at hl 0 rfl) ?_
  obtain ⟨y9, hy9⟩ : ∃ y9, (F_Jxe99ae_isNaN_b9ae7 a1) = y9 := ⟨_, rfl⟩
  have hcon := (c_Jxe99ae_isNaN_b9ae7 l hl0 D ad H.size a1)
  rw [hy9] at hcon
  refine kr_ (va_runS (As := [.double a1]) (rest := []) ⟨hx, hb, hml, hown, hts⟩ hcon (va_cwS 1 hts gJxe99ae_doubleToLongBits_ccdee_Jxe99ae_isNaN_b9ae7 rfl rfl rfl (by decide +kernel) ⟨Nat.le_of_ble_eq_true rfl, Nat.le_of_ble_eq_true rfl⟩) ⟨PR_.blind, PR_.pre hF hK (hP.sub [] rfl) hS hA [] rfl⟩ rfl rfl hl.1 rfl (lv_room (Nat.le_of_ble_eq_true rfl)) dJxe99ae_doubleToLongBits_ccdee_1 ⟨(Nat.le_of_ble_eq_true rfl), (Nat.le_of_ble_eq_true rfl)⟩) hP hS hA (fun H locs hP hS => ?_)
  subst hy9
  refine W.eq (g2 := F0 m 4 ls [.int (F_Jxe99ae_isNaN_b9ae7 a1)]) rfl ?_
  refine lv_if_ne (tgt := 12) hx hb dJxe99ae_doubleToLongBits_ccdee_4 (by decide) (fun c_2 => ?_) (fun c_2 => ?_)
  · rw [if_neg c_2] at hM
    refine lv_ldc2 (own := RJxe99ae) hx hb hown (hts (.constantLong RJxe99ae 137 (9221120237041090560)) (List.mem_of_getElem? (i := 5) (by decide +kernel))) dJxe99ae_doubleToLongBits_ccdee_12 ?_
    refine W.widen (k := 0) (n := 0) (Nat.le_of_ble_eq_true rfl) (Nat.le_of_ble_eq_true rfl) ?_
    exact W.lret (v := (9221120237041090560 : Int64)) hx hb hr (QR_.mk hS (by rw [hM])) hS.2.2 dJxe99ae_doubleToLongBits_ccdee_15
  · rw [if_pos c_2] at hM
    refine lv_dload_n hx hb dJxe99ae_doubleToLongBits_ccdee_7 rfl (lv_at hl 0 rfl) ?_
    refine vn_d2l (own := RJxe99ae) hx hb (by rw [hml]; exact hl.1.symm) hown (hts (.methodLink RJxe99ae 134 ⟨"java/lang/Double", "doubleToRawLongBits", "(D)J"⟩) (List.mem_of_getElem? (i := 1) (by decide +kernel))) (hts (.native ⟨"java/lang/Double", "doubleToRawLongBits", "(D)J"⟩) (List.mem_of_getElem? (i := 2) (by decide +kernel))) (hts (.static ⟨"java/lang/Double", "doubleToRawLongBits", "(D)J"⟩) (List.mem_of_getElem? (i := 3) (by decide +kernel))) (hts (.initialized "java/lang/Double") (List.mem_of_getElem? (i := 4) (by decide +kernel))) (Nat.le_of_ble_eq_true rfl) (Nat.le_of_ble_eq_true rfl) dJxe99ae_doubleToLongBits_ccdee_8 ?_
    refine W.widen (k := 0) (n := 0) (Nat.le_of_ble_eq_true rfl) (Nat.le_of_ble_eq_true rfl) ?_
    exact W.lret (v := (UInt64.toInt64 a1)) hx hb hr (QR_.mk hS (by rw [hM])) hS.2.2 dJxe99ae_doubleToLongBits_ccdee_11
def F_Jxf58ca_isNaN_12338 (a1 : UInt32) : Int32 := (if (Op.cmpValue (FP.fcmp a1 a1) .l) = 0 then 0 else 1)
set_option maxHeartbeats 4000000 in
set_option maxRecDepth 100000 in
theorem c_Jxf58ca_isNaN_12338 (l : Launch) (hl0 : l.stackTraces = false) (D : va_G) (ad : Nat → Nat) (sz : Nat) (a1 : UInt32) : Met l yJxf58ca_isNaN_12338 wsJxf58ca_isNaN_12338 ({ frames := 0, cells := 0, slots := 0, locals := 0 }) (PR_ D ad [] [] sz [.float a1]) (QR_ (.int (F_Jxf58ca_isNaN_12338 a1)) (va_A [] sz)) 0 0 (va_A [] sz) := by
  refine ofWF_ (cc := cJxf58ca_isNaN_12338) (maxL := 1) (ret := (some .boolean)) (by decide +kernel) rfl ?_
  intro p e s m args below meth c s₁ B hml hv
  obtain ⟨rfl, hsz, hP, hK, hF⟩ := hv
  have hx := B.exec
  have hb := B.bytes
  have hr := B.returns
  have hts := atoms_spec (ws := wsJxf58ca_isNaN_12338) B.pre
  have hown : s.vm.findClass RJxf58ca = some m.cls := findClass_of_methodNamed B.named
  have hlocks := B.notSynchronized
  subst hsz
  generalize hAe : va_A [] s.heap.size = A at hF ⊢
  have hA : ∀ q : Nat, s.heap.size ≤ q → A q := fun q h => by rw [← hAe]; exact Or.inr h
  obtain ⟨H, hHe⟩ : ∃ H : Heap, H = s.heap := ⟨_, rfl⟩
  have hS : va_S A s.heap H [] := by rw [hHe]; exact va_S.rf
  have hP : va_P D vwCl [] H := by rw [hHe]; exact hP
  rw [← hHe]
  have hl := lv_entry [.float a1] (n := 1) (Nat.le_of_ble_eq_true rfl)
  rw [lg_entry_eq]
  generalize (lg_sl [.float a1] ++ List.replicate (1 - (lg_sl [.float a1]).length) Slot.unset).toArray = ls at hl ⊢
  have hl : lv_has ls 1 [(0, .float a1)] := hl
  have hM : F_Jxf58ca_isNaN_12338 a1 = (if (Op.cmpValue (FP.fcmp a1 a1) .l) = 0 then 0 else 1) := rfl
  refine lv_fload_n hx hb dJxf58ca_isNaN_12338_0 rfl (lv_at hl 0 rfl) ?_
  refine lv_fload_n hx hb dJxf58ca_isNaN_12338_1 rfl (lv_at hl 0 rfl) ?_
  refine lv_fcmp (x := a1) (y := a1) hx hb dJxf58ca_isNaN_12338_2 ?_
  refine lv_if_eq (tgt := 10) hx hb dJxf58ca_isNaN_12338_3 (by decide) (fun c_1 => ?_) (fun c_1 => ?_)
  · rw [if_pos c_1] at hM
    refine lv_iconst (v := 0) hx hb dJxf58ca_isNaN_12338_10 (by decide) ?_
    refine W.widen (k := 0) (n := 0) (Nat.le_of_ble_eq_true rfl) (Nat.le_of_ble_eq_true rfl) ?_
    exact W.zret (v := 0) hx hb hr rfl (QR_.mk hS (by rw [hM])) hS.2.2 dJxf58ca_isNaN_12338_11
  · rw [if_neg c_1] at hM
    refine lv_iconst (v := 1) hx hb dJxf58ca_isNaN_12338_6 (by decide) ?_
    refine lv_goto (tgt := 11) hx hb dJxf58ca_isNaN_12338_7 (by decide) ?_
    refine W.widen (k := 0) (n := 0) (Nat.le_of_ble_eq_true rfl) (Nat.le_of_ble_eq_true rfl) ?_
    exact W.zret (v := 1) hx hb hr rfl (QR_.mk hS (by rw [hM])) hS.2.2 dJxf58ca_isNaN_12338_11
def F_Jxf58ca_floatToIntBits_5c35a (a1 : UInt32) : Int32 := (if (F_Jxf58ca_isNaN_12338 a1) = 0 then (UInt32.toInt32 a1) else 2143289344)
set_option maxHeartbeats 4000000 in
set_option maxRecDepth 100000 in
theorem c_Jxf58ca_floatToIntBits_5c35a (l : Launch) (hl0 : l.stackTraces = false) (D : va_G) (ad : Nat → Nat) (sz : Nat) (a1 : UInt32) : Met l yJxf58ca_floatToIntBits_5c35a wsJxf58ca_floatToIntBits_5c35a ({ frames := 1, cells := 0, slots := 0, locals := 40 }) (PR_ D ad [] [] sz [.float a1]) (QR_ (.int (F_Jxf58ca_floatToIntBits_5c35a a1)) (va_A [] sz)) 0 0 (va_A [] sz) := by
  refine ofWF_ (cc := cJxf58ca_floatToIntBits_5c35a) (maxL := 1) (ret := (some .int)) (by decide +kernel) rfl ?_
  intro p e s m args below meth c s₁ B hml hv
  obtain ⟨rfl, hsz, hP, hK, hF⟩ := hv
  have hx := B.exec
  have hb := B.bytes
  have hr := B.returns
  have hts := atoms_spec (ws := wsJxf58ca_floatToIntBits_5c35a) B.pre
  have hown : s.vm.findClass RJxf58ca = some m.cls := findClass_of_methodNamed B.named
  have hlocks := B.notSynchronized
  subst hsz
  generalize hAe : va_A [] s.heap.size = A at hF ⊢
  have hA : ∀ q : Nat, s.heap.size ≤ q → A q := fun q h => by rw [← hAe]; exact Or.inr h
  obtain ⟨H, hHe⟩ : ∃ H : Heap, H = s.heap := ⟨_, rfl⟩
  have hS : va_S A s.heap H [] := by rw [hHe]; exact va_S.rf
  have hP : va_P D vwCl [] H := by rw [hHe]; exact hP
  rw [← hHe]
  have hl := lv_entry [.float a1] (n := 1) (Nat.le_of_ble_eq_true rfl)
  rw [lg_entry_eq]
  generalize (lg_sl [.float a1] ++ List.replicate (1 - (lg_sl [.float a1]).length) Slot.unset).toArray = ls at hl ⊢
  have hl : lv_has ls 1 [(0, .float a1)] := hl
  have hM : F_Jxf58ca_floatToIntBits_5c35a a1 = (if (F_Jxf58ca_isNaN_12338 a1) = 0 then (UInt32.toInt32 a1) else 2143289344) := rfl
  refine lv_fload_n hx hb dJxf58ca_floatToIntBits_5c35a_0 rfl (lv_at hl 0 rfl) ?_
  obtain ⟨y9, hy9⟩ : ∃ y9, (F_Jxf58ca_isNaN_12338 a1) = y9 := ⟨_, rfl⟩
  have hcon := (c_Jxf58ca_isNaN_12338 l hl0 D ad H.size a1)
  rw [hy9] at hcon
  refine kr_ (va_runS (As := [.float a1]) (rest := []) ⟨hx, hb, hml, hown, hts⟩ hcon (va_cwS 1 hts gJxf58ca_floatToIntBits_5c35a_Jxf58ca_isNaN_12338 rfl rfl rfl (by decide +kernel) ⟨Nat.le_of_ble_eq_true rfl, Nat.le_of_ble_eq_true rfl⟩) ⟨PR_.blind, PR_.pre hF hK (hP.sub [] rfl) hS hA [] rfl⟩ rfl rfl hl.1 rfl (lv_room (Nat.le_of_ble_eq_true rfl)) dJxf58ca_floatToIntBits_5c35a_1 ⟨(Nat.le_of_ble_eq_true rfl), (Nat.le_of_ble_eq_true rfl)⟩) hP hS hA (fun H locs hP hS => ?_)
  subst hy9
  refine W.eq (g2 := F0 m 4 ls [.int (F_Jxf58ca_isNaN_12338 a1)]) rfl ?_
  refine lv_if_ne (tgt := 12) hx hb dJxf58ca_floatToIntBits_5c35a_4 (by decide) (fun c_2 => ?_) (fun c_2 => ?_)
  · rw [if_neg c_2] at hM
    refine lv_ldc (own := RJxf58ca) hx hb hown (hts (.constant RJxf58ca 77 (2143289344)) (List.mem_of_getElem? (i := 5) (by decide +kernel))) dJxf58ca_floatToIntBits_5c35a_12 ?_
    refine W.widen (k := 0) (n := 0) (Nat.le_of_ble_eq_true rfl) (Nat.le_of_ble_eq_true rfl) ?_
    exact W.iret (v := 2143289344) hx hb hr (QR_.mk hS (by rw [hM])) hS.2.2 dJxf58ca_floatToIntBits_5c35a_14
  · rw [if_pos c_2] at hM
    refine lv_fload_n hx hb dJxf58ca_floatToIntBits_5c35a_7 rfl (lv_at hl 0 rfl) ?_
    refine vn_f2i (own := RJxf58ca) hx hb (by rw [hml]; exact hl.1.symm) hown (hts (.methodLink RJxf58ca 74 ⟨"java/lang/Float", "floatToRawIntBits", "(F)I"⟩) (List.mem_of_getElem? (i := 1) (by decide +kernel))) (hts (.native ⟨"java/lang/Float", "floatToRawIntBits", "(F)I"⟩) (List.mem_of_getElem? (i := 2) (by decide +kernel))) (hts (.static ⟨"java/lang/Float", "floatToRawIntBits", "(F)I"⟩) (List.mem_of_getElem? (i := 3) (by decide +kernel))) (hts (.initialized "java/lang/Float") (List.mem_of_getElem? (i := 4) (by decide +kernel))) (Nat.le_of_ble_eq_true rfl) (Nat.le_of_ble_eq_true rfl) dJxf58ca_floatToIntBits_5c35a_8 ?_
    refine W.widen (k := 0) (n := 0) (Nat.le_of_ble_eq_true rfl) (Nat.le_of_ble_eq_true rfl) ?_
    exact W.iret (v := (UInt32.toInt32 a1)) hx hb hr (QR_.mk hS (by rw [hM])) hS.2.2 dJxf58ca_floatToIntBits_5c35a_11
def K_L_asks_458 (x402_1 : Int64) : (Int32 × MS × Nat × Nat) → (Int64 × MS × Nat × Nat)
  | (y458_0, y458_1, y458_2, y458_3) => (adc y458_2 y458_3 ((((31 : Int64) * x402_1) + (Int32.toInt64 y458_0)), y458_1, 0, 0))
def K_L_asks_440 (x402_1 : Int64) (x402_4 : Int32) (rc_402 : Int64 → Int32 → MS → (Int64 × MS × Nat × Nat)) (y422_0 : Int32) (y431_0 : Int32) : (Int32 × MS × Nat × Nat) → (Int64 × MS × Nat × Nat)
  | (y440_0, y440_1, y440_2, y440_3) => (adc y440_2 y440_3 (rc_402 (((31 : Int64) * (((31 : Int64) * (((31 : Int64) * x402_1) + (Int32.toInt64 y422_0))) + (Int32.toInt64 y431_0))) + (Int32.toInt64 y440_0)) (x402_4 + 1) y440_1))
def K_L_asks_431 (x402_1 : Int64) (x402_4 : Int32) (rc_402 : Int64 → Int32 → MS → (Int64 × MS × Nat × Nat)) (y422_0 : Int32) : (Int32 × MS × Nat × Nat) → (Int64 × MS × Nat × Nat)
  | (y431_0, y431_1, y431_2, y431_3) => (adc y431_2 y431_3 (K_L_asks_440 x402_1 x402_4 rc_402 y422_0 y431_0 (F_L_members y431_1 x402_4)))
def K_L_asks_422 (x402_1 : Int64) (x402_4 : Int32) (rc_402 : Int64 → Int32 → MS → (Int64 × MS × Nat × Nat)) : (Int32 × MS × Nat × Nat) → (Int64 × MS × Nat × Nat)
  | (y422_0, y422_1, y422_2, y422_3) => (adc y422_2 y422_3 (K_L_asks_431 x402_1 x402_4 rc_402 y422_0 (F_L_agreeAgain y422_1 x402_4)))
def B_L_asks_402  (rc_402 : Int64 → Int32 → MS → (Int64 × MS × Nat × Nat)) (x402_1 : Int64) (x402_4 : Int32) (x402_t : MS) : Int64 × MS × Nat × Nat := (if 3 ≤ x402_4 then (K_L_asks_458 x402_1 (F_L_settledIn x402_t)) else (K_L_asks_422 x402_1 x402_4 rc_402 (F_L_agree x402_t x402_4)))
def L_L_asks_402  : Nat → Int64 → Int32 → MS → (Int64 × MS × Nat × Nat)
  | 0 => fun _ _ x402_t => (0, x402_t, 0, 0)
  | k + 1 => B_L_asks_402  (L_L_asks_402  k)
def K_L_asks_381 (x365_1 : Int64) (x365_5 : Int32) (rc_365 : Int64 → Int32 → MS → (Int64 × MS × Nat × Nat)) : (Int32 × MS × Nat × Nat) → (Int64 × MS × Nat × Nat)
  | (y381_0, y381_1, y381_2, y381_3) => (adc y381_2 y381_3 (rc_365 (((31 : Int64) * x365_1) + (Int32.toInt64 y381_0)) (x365_5 + 1) y381_1))
def B_L_asks_365 (x347_4 : Int32) (rc_347 : Int64 → Int32 → MS → (Int64 × MS × Nat × Nat)) (rc_365 : Int64 → Int32 → MS → (Int64 × MS × Nat × Nat)) (x365_1 : Int64) (x365_5 : Int32) (x365_t : MS) : Int64 × MS × Nat × Nat := (if 4 ≤ x365_5 then (rc_347 x365_1 (x347_4 + 1) x365_t) else (K_L_asks_381 x365_1 x365_5 rc_365 (F_L_letter x365_t x347_4 x365_5)))
def L_L_asks_365 (x347_4 : Int32) (rc_347 : Int64 → Int32 → MS → (Int64 × MS × Nat × Nat)) : Nat → Int64 → Int32 → MS → (Int64 × MS × Nat × Nat)
  | 0 => fun _ _ x365_t => (0, x365_t, 0, 0)
  | k + 1 => B_L_asks_365 x347_4 rc_347 (L_L_asks_365 x347_4 rc_347 k)
def K_L_asks_353 (x347_1 : Int64) (x347_4 : Int32) (rc_347 : Int64 → Int32 → MS → (Int64 × MS × Nat × Nat)) : (Int32 × MS × Nat × Nat) → (Int64 × MS × Nat × Nat)
  | (y353_0, y353_1, y353_2, y353_3) => (adc y353_2 y353_3 (if (inI 30 y353_0) ≤ x347_4 then (L_L_asks_402 (((3 : Int32).toInt - (0 : Int32).toInt).toNat + 1) x347_1 0 y353_1) else (L_L_asks_365 x347_4 rc_347 (((4 : Int32).toInt - (0 : Int32).toInt).toNat + 1) x347_1 0 y353_1)))
def B_L_asks_347  (rc_347 : Int64 → Int32 → MS → (Int64 × MS × Nat × Nat)) (x347_1 : Int64) (x347_4 : Int32) (x347_t : MS) : Int64 × MS × Nat × Nat := (K_L_asks_353 x347_1 x347_4 rc_347 (F_L_account x347_t 3))
def L_L_asks_347  : Nat → Int64 → Int32 → MS → (Int64 × MS × Nat × Nat)
  | 0 => fun _ _ x347_t => (0, x347_t, 0, 0)
  | k + 1 => B_L_asks_347  (L_L_asks_347  k)
def K_L_asks_326 (x311_1 : Int64) (x311_6 : Int32) (rc_311 : Int64 → Int32 → MS → (Int64 × MS × Nat × Nat)) : (Int32 × MS × Nat × Nat) → (Int64 × MS × Nat × Nat)
  | (y326_0, y326_1, y326_2, y326_3) => (adc y326_2 y326_3 (rc_311 (((31 : Int64) * x311_1) + (Int32.toInt64 y326_0)) (x311_6 + 1) y326_1))
def B_L_asks_311 (x57_4 : Int32) (rc_57 : Int64 → Int32 → MS → (Int64 × MS × Nat × Nat)) (y303_0 : Int32) (rc_311 : Int64 → Int32 → MS → (Int64 × MS × Nat × Nat)) (x311_1 : Int64) (x311_6 : Int32) (x311_t : MS) : Int64 × MS × Nat × Nat := (if y303_0 ≤ x311_6 then (rc_57 x311_1 (x57_4 + 1) x311_t) else (K_L_asks_326 x311_1 x311_6 rc_311 (F_L_character x311_t x311_6)))
def L_L_asks_311 (x57_4 : Int32) (rc_57 : Int64 → Int32 → MS → (Int64 × MS × Nat × Nat)) (y303_0 : Int32) : Nat → Int64 → Int32 → MS → (Int64 × MS × Nat × Nat)
  | 0 => fun _ _ x311_t => (0, x311_t, 0, 0)
  | k + 1 => B_L_asks_311 x57_4 rc_57 y303_0 (L_L_asks_311 x57_4 rc_57 y303_0 k)
def K_L_asks_303 (x57_4 : Int32) (rc_57 : Int64 → Int32 → MS → (Int64 × MS × Nat × Nat)) (x98_1 : Int64) (y276_0 : Int32) (y285_0 : Int32) (y294_0 : Int32) : (Int32 × MS × Nat × Nat) → (Int64 × MS × Nat × Nat)
  | (y303_0, y303_1, y303_2, y303_3) => (adc y303_2 y303_3 (L_L_asks_311 x57_4 rc_57 y303_0 (((y303_0 : Int32).toInt - (0 : Int32).toInt).toNat + 1) (((31 : Int64) * (((31 : Int64) * (((31 : Int64) * x98_1) + (Int32.toInt64 y276_0))) + (Int32.toInt64 y285_0))) + (Int32.toInt64 y294_0)) 0 y303_1))
def K_L_asks_294 (x57_4 : Int32) (rc_57 : Int64 → Int32 → MS → (Int64 × MS × Nat × Nat)) (x98_1 : Int64) (y276_0 : Int32) (y285_0 : Int32) : (Int32 × MS × Nat × Nat) → (Int64 × MS × Nat × Nat)
  | (y294_0, y294_1, y294_2, y294_3) => (adc y294_2 y294_3 (K_L_asks_303 x57_4 rc_57 x98_1 y276_0 y285_0 y294_0 (F_L_line y294_1 x57_4)))
def K_L_asks_285 (x57_4 : Int32) (rc_57 : Int64 → Int32 → MS → (Int64 × MS × Nat × Nat)) (x98_1 : Int64) (y276_0 : Int32) : (Int32 × MS × Nat × Nat) → (Int64 × MS × Nat × Nat)
  | (y285_0, y285_1, y285_2, y285_3) => (adc y285_2 y285_3 (K_L_asks_294 x57_4 rc_57 x98_1 y276_0 y285_0 (F_L_busiest y285_1 x57_4)))
def K_L_asks_276 (x57_4 : Int32) (rc_57 : Int64 → Int32 → MS → (Int64 × MS × Nat × Nat)) (x98_1 : Int64) : (Int32 × MS × Nat × Nat) → (Int64 × MS × Nat × Nat)
  | (y276_0, y276_1, y276_2, y276_3) => (adc y276_2 y276_3 (K_L_asks_285 x57_4 rc_57 x98_1 y276_0 (F_L_right y276_1 x57_4)))
def K_L_asks_244 (x226_1 : Int64) (x226_6 : Int32) (rc_226 : Int64 → Int32 → MS → (Int64 × MS × Nat × Nat)) : (Int32 × MS × Nat × Nat) → (Int64 × MS × Nat × Nat)
  | (y244_0, y244_1, y244_2, y244_3) => (adc y244_2 y244_3 (rc_226 (((31 : Int64) * x226_1) + (Int32.toInt64 y244_0)) (x226_6 + 1) y244_1))
def B_L_asks_226 (y50_0 : Int32) (x57_4 : Int32) (x98_5 : Int32) (rc_98 : Int64 → Int32 → MS → (Int64 × MS × Nat × Nat)) (rc_226 : Int64 → Int32 → MS → (Int64 × MS × Nat × Nat)) (x226_1 : Int64) (x226_6 : Int32) (x226_t : MS) : Int64 × MS × Nat × Nat := (if y50_0 ≤ x226_6 then (rc_98 x226_1 (x98_5 + 1) x226_t) else (K_L_asks_244 x226_1 x226_6 rc_226 (F_L_told x226_t x57_4 x98_5 x226_6)))
def L_L_asks_226 (y50_0 : Int32) (x57_4 : Int32) (x98_5 : Int32) (rc_98 : Int64 → Int32 → MS → (Int64 × MS × Nat × Nat)) : Nat → Int64 → Int32 → MS → (Int64 × MS × Nat × Nat)
  | 0 => fun _ _ x226_t => (0, x226_t, 0, 0)
  | k + 1 => B_L_asks_226 y50_0 x57_4 x98_5 rc_98 (L_L_asks_226 y50_0 x57_4 x98_5 rc_98 k)
def K_L_asks_211 (x193_1 : Int64) (x193_6 : Int32) (rc_193 : Int64 → Int32 → MS → (Int64 × MS × Nat × Nat)) : (Int32 × MS × Nat × Nat) → (Int64 × MS × Nat × Nat)
  | (y211_0, y211_1, y211_2, y211_3) => (adc y211_2 y211_3 (rc_193 (((31 : Int64) * x193_1) + (Int32.toInt64 y211_0)) (x193_6 + 1) y211_1))
def B_L_asks_193 (y50_0 : Int32) (x57_4 : Int32) (x98_5 : Int32) (rc_98 : Int64 → Int32 → MS → (Int64 × MS × Nat × Nat)) (rc_193 : Int64 → Int32 → MS → (Int64 × MS × Nat × Nat)) (x193_1 : Int64) (x193_6 : Int32) (x193_t : MS) : Int64 × MS × Nat × Nat := (if 3 ≤ x193_6 then (L_L_asks_226 y50_0 x57_4 x98_5 rc_98 (((y50_0 : Int32).toInt - (0 : Int32).toInt).toNat + 1) x193_1 0 x193_t) else (K_L_asks_211 x193_1 x193_6 rc_193 (F_L_page x193_t x57_4 x98_5 x193_6)))
def L_L_asks_193 (y50_0 : Int32) (x57_4 : Int32) (x98_5 : Int32) (rc_98 : Int64 → Int32 → MS → (Int64 × MS × Nat × Nat)) : Nat → Int64 → Int32 → MS → (Int64 × MS × Nat × Nat)
  | 0 => fun _ _ x193_t => (0, x193_t, 0, 0)
  | k + 1 => B_L_asks_193 y50_0 x57_4 x98_5 rc_98 (L_L_asks_193 y50_0 x57_4 x98_5 rc_98 k)
def K_L_asks_184 (y50_0 : Int32) (x57_4 : Int32) (x98_1 : Int64) (x98_5 : Int32) (rc_98 : Int64 → Int32 → MS → (Int64 × MS × Nat × Nat)) (y129_0 : Int32) (y140_0 : Int32) (y151_0 : Int32) (y162_0 : Int32) (y173_0 : Int32) : (Int32 × MS × Nat × Nat) → (Int64 × MS × Nat × Nat)
  | (y184_0, y184_1, y184_2, y184_3) => (adc y184_2 y184_3 (L_L_asks_193 y50_0 x57_4 x98_5 rc_98 (((3 : Int32).toInt - (0 : Int32).toInt).toNat + 1) (((31 : Int64) * (((31 : Int64) * (((31 : Int64) * (((31 : Int64) * (((31 : Int64) * (((31 : Int64) * x98_1) + (Int32.toInt64 y129_0))) + (Int32.toInt64 y140_0))) + (Int32.toInt64 y151_0))) + (Int32.toInt64 y162_0))) + (Int32.toInt64 y173_0))) + (Int32.toInt64 y184_0)) 0 y184_1))
def K_L_asks_173 (y50_0 : Int32) (x57_4 : Int32) (x98_1 : Int64) (x98_5 : Int32) (rc_98 : Int64 → Int32 → MS → (Int64 × MS × Nat × Nat)) (y129_0 : Int32) (y140_0 : Int32) (y151_0 : Int32) (y162_0 : Int32) : (Int32 × MS × Nat × Nat) → (Int64 × MS × Nat × Nat)
  | (y173_0, y173_1, y173_2, y173_3) => (adc y173_2 y173_3 (K_L_asks_184 y50_0 x57_4 x98_1 x98_5 rc_98 y129_0 y140_0 y151_0 y162_0 y173_0 (F_L_real y173_1 x57_4 x98_5)))
def K_L_asks_162 (y50_0 : Int32) (x57_4 : Int32) (x98_1 : Int64) (x98_5 : Int32) (rc_98 : Int64 → Int32 → MS → (Int64 × MS × Nat × Nat)) (y129_0 : Int32) (y140_0 : Int32) (y151_0 : Int32) : (Int32 × MS × Nat × Nat) → (Int64 × MS × Nat × Nat)
  | (y162_0, y162_1, y162_2, y162_3) => (adc y162_2 y162_3 (K_L_asks_173 y50_0 x57_4 x98_1 x98_5 rc_98 y129_0 y140_0 y151_0 y162_0 (F_L_follow y162_1 x57_4 x98_5)))
def K_L_asks_151 (y50_0 : Int32) (x57_4 : Int32) (x98_1 : Int64) (x98_5 : Int32) (rc_98 : Int64 → Int32 → MS → (Int64 × MS × Nat × Nat)) (y129_0 : Int32) (y140_0 : Int32) : (Int32 × MS × Nat × Nat) → (Int64 × MS × Nat × Nat)
  | (y151_0, y151_1, y151_2, y151_3) => (adc y151_2 y151_3 (K_L_asks_162 y50_0 x57_4 x98_1 x98_5 rc_98 y129_0 y140_0 y151_0 (F_L_next y151_1 x57_4 x98_5)))
def K_L_asks_140 (y50_0 : Int32) (x57_4 : Int32) (x98_1 : Int64) (x98_5 : Int32) (rc_98 : Int64 → Int32 → MS → (Int64 × MS × Nat × Nat)) (y129_0 : Int32) : (Int32 × MS × Nat × Nat) → (Int64 × MS × Nat × Nat)
  | (y140_0, y140_1, y140_2, y140_3) => (adc y140_2 y140_3 (K_L_asks_151 y50_0 x57_4 x98_1 x98_5 rc_98 y129_0 y140_0 (F_L_distanceAgain y140_1 x57_4 x98_5)))
def K_L_asks_129 (y50_0 : Int32) (x57_4 : Int32) (x98_1 : Int64) (x98_5 : Int32) (rc_98 : Int64 → Int32 → MS → (Int64 × MS × Nat × Nat)) : (Int32 × MS × Nat × Nat) → (Int64 × MS × Nat × Nat)
  | (y129_0, y129_1, y129_2, y129_3) => (adc y129_2 y129_3 (K_L_asks_140 y50_0 x57_4 x98_1 x98_5 rc_98 y129_0 (F_L_distance y129_1 x57_4 x98_5)))
def B_L_asks_98 (y50_0 : Int32) (x57_4 : Int32) (rc_57 : Int64 → Int32 → MS → (Int64 × MS × Nat × Nat)) (rc_98 : Int64 → Int32 → MS → (Int64 × MS × Nat × Nat)) (x98_1 : Int64) (x98_5 : Int32) (x98_t : MS) : Int64 × MS × Nat × Nat := (if y50_0 ≤ x98_5 then (K_L_asks_276 x57_4 rc_57 x98_1 (F_L_reached x98_t x57_4)) else (K_L_asks_129 y50_0 x57_4 x98_1 x98_5 rc_98 (F_L_cost x98_t x57_4 x98_5)))
def L_L_asks_98 (y50_0 : Int32) (x57_4 : Int32) (rc_57 : Int64 → Int32 → MS → (Int64 × MS × Nat × Nat)) : Nat → Int64 → Int32 → MS → (Int64 × MS × Nat × Nat)
  | 0 => fun _ _ x98_t => (0, x98_t, 0, 0)
  | k + 1 => B_L_asks_98 y50_0 x57_4 rc_57 (L_L_asks_98 y50_0 x57_4 rc_57 k)
def K_L_asks_83 (x66_1 : Int64) (x66_5 : Int32) (rc_66 : Int64 → Int32 → MS → (Int64 × MS × Nat × Nat)) : (Int32 × MS × Nat × Nat) → (Int64 × MS × Nat × Nat)
  | (y83_0, y83_1, y83_2, y83_3) => (adc y83_2 y83_3 (rc_66 (((31 : Int64) * x66_1) + (Int32.toInt64 y83_0)) (x66_5 + 1) y83_1))
def B_L_asks_66 (y50_0 : Int32) (x57_4 : Int32) (rc_57 : Int64 → Int32 → MS → (Int64 × MS × Nat × Nat)) (rc_66 : Int64 → Int32 → MS → (Int64 × MS × Nat × Nat)) (x66_1 : Int64) (x66_5 : Int32) (x66_t : MS) : Int64 × MS × Nat × Nat := (if 6 ≤ x66_5 then (L_L_asks_98 y50_0 x57_4 rc_57 (((y50_0 : Int32).toInt - (0 : Int32).toInt).toNat + 1) x66_1 0 x66_t) else (K_L_asks_83 x66_1 x66_5 rc_66 (F_L_surveyorOf x66_t x57_4 x66_5)))
def L_L_asks_66 (y50_0 : Int32) (x57_4 : Int32) (rc_57 : Int64 → Int32 → MS → (Int64 × MS × Nat × Nat)) : Nat → Int64 → Int32 → MS → (Int64 × MS × Nat × Nat)
  | 0 => fun _ _ x66_t => (0, x66_t, 0, 0)
  | k + 1 => B_L_asks_66 y50_0 x57_4 rc_57 (L_L_asks_66 y50_0 x57_4 rc_57 k)
def B_L_asks_57 (y50_0 : Int32) (rc_57 : Int64 → Int32 → MS → (Int64 × MS × Nat × Nat)) (x57_1 : Int64) (x57_4 : Int32) (x57_t : MS) : Int64 × MS × Nat × Nat := (if y50_0 ≤ x57_4 then (L_L_asks_347 (((30 : Int32).toInt - (0 : Int32).toInt).toNat + 1) x57_1 0 x57_t) else (L_L_asks_66 y50_0 x57_4 rc_57 (((6 : Int32).toInt - (0 : Int32).toInt).toNat + 1) x57_1 0 x57_t))
def L_L_asks_57 (y50_0 : Int32) : Nat → Int64 → Int32 → MS → (Int64 × MS × Nat × Nat)
  | 0 => fun _ _ x57_t => (0, x57_t, 0, 0)
  | k + 1 => B_L_asks_57 y50_0 (L_L_asks_57 y50_0 k)
def K_L_asks_50 (x23_1 : Int64) : (Int32 × MS × Nat × Nat) → (Int64 × MS × Nat × Nat)
  | (y50_0, y50_1, y50_2, y50_3) => (adc y50_2 y50_3 (L_L_asks_57 y50_0 (((y50_0 : Int32).toInt - (0 : Int32).toInt).toNat + 1) x23_1 0 y50_1))
def K_L_asks_36 (x23_1 : Int64) (x23_3 : Int32) (rc_23 : Int64 → Int32 → MS → (Int64 × MS × Nat × Nat)) : (Int32 × MS × Nat × Nat) → (Int64 × MS × Nat × Nat)
  | (y36_0, y36_1, y36_2, y36_3) => (adc y36_2 y36_3 (rc_23 (((31 : Int64) * x23_1) + (Int32.toInt64 y36_0)) (x23_3 + 1) y36_1))
def B_L_asks_23  (rc_23 : Int64 → Int32 → MS → (Int64 × MS × Nat × Nat)) (x23_1 : Int64) (x23_3 : Int32) (x23_t : MS) : Int64 × MS × Nat × Nat := (if 9 ≤ x23_3 then (K_L_asks_50 x23_1 (F_L_account x23_t 1)) else (K_L_asks_36 x23_1 x23_3 rc_23 (F_L_account x23_t x23_3)))
def L_L_asks_23  : Nat → Int64 → Int32 → MS → (Int64 × MS × Nat × Nat)
  | 0 => fun _ _ x23_t => (0, x23_t, 0, 0)
  | k + 1 => B_L_asks_23  (L_L_asks_23  k)
def K_L_asks_12 (y4_0 : UInt64) : (UInt32 × MS × Nat × Nat) → (Int64 × MS × Nat × Nat)
  | (y12_0, y12_1, y12_2, y12_3) => (adc y12_2 y12_3 (L_L_asks_23 (((9 : Int32).toInt - (0 : Int32).toInt).toNat + 1) (((31 : Int64) * (F_Jxe99ae_doubleToLongBits_ccdee y4_0)) + (Int32.toInt64 (F_Jxf58ca_floatToIntBits_5c35a y12_0))) 0 y12_1))
def K_L_asks_4  : (UInt64 × MS × Nat × Nat) → (Int64 × MS × Nat × Nat)
  | (y4_0, y4_1, y4_2, y4_3) => (adc y4_2 y4_3 (K_L_asks_12 y4_0 (F_L_lostShare y4_1)))
def F_L_asks (M : MS) : Int64 × MS × Nat × Nat := (K_L_asks_4 (F_L_meanCost M))
set_option maxHeartbeats 4000000 in
set_option maxRecDepth 100000 in
theorem bl_L_asks (l : Launch) (hl0 : l.stackTraces = false) (D : va_G) (ad : Nat → Nat) (sz : Nat) (b : BX) (hBL : BL_ b) (a0 : Nat) (hb9 : b.1 79 = a0) (M : MS) (hM9 : b.2.2.2 = M) (Bd : Nat) (hXI : XI Bd M) (hBd : Bd + 600 ≤ 900000) : Met l yL_asks wsL_asks ({ frames := 12, cells := (F_L_asks M).2.2.1, slots := (F_L_asks M).2.2.2, locals := 322 }) (PC_ D ad (BWW ad b) (BWT b) sz [.ref a0]) (QB_ D (fun _ : BX => some (.long (F_L_asks M).1)) (fun b' => b'.2.2.2 = (F_L_asks M).2.1 ∧ b'.1 79 = a0 ∧ BL_ b' ∧ XI (Bd + 600) (F_L_asks M).2.1) (BWW ad) BWT (va_A (BWW ad b) sz)) (F_L_asks M).2.2.1 (F_L_asks M).2.2.2 (va_A (BWW ad b) sz) := by
  refine Met.ofW (cc := cL_asks) (maxL := 7) (ret := (some .long)) (by decide) rfl ?_
  intro p e s m args below meth c s₁ B hml hv
  obtain ⟨rfl, hsz, hP, hK, hD0, hF⟩ := hv
  have hx := B.exec
  have hb := B.bytes
  have hr := B.returns
  have hts := atoms_spec (ws := wsL_asks) B.pre
  have hown : s.vm.findClass RL = some m.cls := findClass_of_methodNamed B.named
  have hlocks := B.notSynchronized
  subst hsz
  have hD := hD0.self (sz := s.heap.size)
  generalize hAe : va_A (BWW ad b) s.heap.size = A at hD hF ⊢
  have hA : ∀ q : Nat, s.heap.size ≤ q → A q := fun q h => by rw [← hAe]; exact Or.inr h
  obtain ⟨H, hHe⟩ : ∃ H : Heap, H = s.heap := ⟨_, rfl⟩
  have hS : va_S A s.heap H [] := by rw [hHe]; exact va_S.rf
  have hP : va_P D vwCl ([] ++ BWW ad b) H := by rw [hHe]; exact hP
  have hD : va_D A ([] ++ BWW ad b) := hD
  have hK : va_K D vwCl ([] ++ BWT b) s := hK
  rw [← hHe]
  have hl := lv_entry [.ref a0] (n := 7) (Nat.le_of_ble_eq_true rfl)
  rw [lg_entry_eq]
  generalize (lg_sl [.ref a0] ++ List.replicate (7 - (lg_sl [.ref a0]).length) Slot.unset).toArray = ls at hl ⊢
  have hl : lv_has ls 7 [(0, .ref a0)] := hl
  generalize hF9 : F_L_asks M = FF9
  have hM : FF9 = (adc 0 0 (K_L_asks_4 (F_L_meanCost M))) := hF9.symm.trans (adc_0 _).symm
  refine lv_ldc2 (own := RL) hx hb hown (hts (.constantLong RL 174 (31)) (List.mem_of_getElem? (i := 1) (by decide +kernel))) dL_asks_0 ?_
  refine lv_aload_n hx hb dL_asks_3 rfl (lv_at hl 0 rfl) ?_
  have hcon := (bl_L_meanCost l hl0 D ad H.size b hBL a0 hb9 M hM9 Bd hXI (show Bd ≤ 900000 from (by have z0 := hBd; omega)))
  generalize hy_1 : (F_L_meanCost M) = y9 at hcon hM
  obtain ⟨y4_0, y4_1, y4_2, y4_3⟩ := y9
  have hM : FF9 = (adc 0 0 (adc y4_2 y4_3 (K_L_asks_12 y4_0 (F_L_lostShare y4_1)))) := hM
  refine kwb_ [] [] (vx_runSW (As := [.ref a0]) (rest := [.long (31 : Int64)]) ⟨hx, hb, hml, hown, hts⟩ hcon (vx_cwSW 1 hts gL_asks_L_meanCost rfl rfl rfl (by decide +kernel) ⟨Nat.le_of_ble_eq_true rfl, Nat.le_of_ble_eq_true rfl⟩) ⟨PC_.blind, lw_pre (X := []) (Y := []) hF hK hP hD hS hA⟩ rfl rfl hl.1 rfl (lv_room (Nat.le_of_ble_eq_true rfl)) dL_asks_4 ⟨(adc_r1 hM), (adc_s1 hM)⟩) hK hP hD hS hA (fun b_1 H locs hpo hP hD hK hS => ?_)
  have hM : FF9 = (adc (0 + y4_2) (0 + y4_3) (K_L_asks_12 y4_0 (F_L_lostShare y4_1))) := hM.trans (adc_adc _ _ _ _ _)
  obtain ⟨hM9_1, hb9_1, hBL_1, hXI_1⟩ := hpo
  have hM9_1 : b_1.2.2.2 = y4_1 := hM9_1
  have hXI_1 : XI Bd y4_1 := hXI_1
  have hP : va_P D vwCl ([] ++ BWW ad b_1) H := hP
  have hD : va_D A ([] ++ BWW ad b_1) := hD
  have hK : va_K D vwCl ([] ++ BWT b_1) s := hK
  refine W.eq (g2 := F0 m 7 ls [.double y4_0, .long (31 : Int64)]) rfl ?_
  obtain ⟨y9, hy9⟩ : ∃ y9, (F_Jxe99ae_doubleToLongBits_ccdee y4_0) = y9 := ⟨_, rfl⟩
  have hcon := (c_Jxe99ae_doubleToLongBits_ccdee l hl0 D ad H.size y4_0)
  rw [hy9] at hcon
  refine kr_ (va_runS (As := [.double y4_0]) (rest := [.long (31 : Int64)]) ⟨hx, hb, hml, hown, hts⟩ hcon (va_cwS 1 hts gL_asks_Jxe99ae_doubleToLongBits_ccdee rfl rfl rfl (by decide +kernel) ⟨Nat.le_of_ble_eq_true rfl, Nat.le_of_ble_eq_true rfl⟩) ⟨PR_.blind, PR_.pre hF hK (hP.sub [] rfl) hS hA [] rfl⟩ rfl rfl hl.1 rfl (lv_room (Nat.le_of_ble_eq_true rfl)) dL_asks_7 ⟨(adc_r0 hM), (adc_s0 hM)⟩) hP hS hA (fun H locs hP hS => ?_)
  subst hy9
  refine W.eq (g2 := F0 m 10 ls [.long (F_Jxe99ae_doubleToLongBits_ccdee y4_0), .long (31 : Int64)]) rfl ?_
  refine lv_lmul hx hb dL_asks_10 ?_
  refine lv_aload_n hx hb dL_asks_11 rfl (lv_at hl 0 rfl) ?_
  have hcon := (bl_L_lostShare l hl0 D ad H.size b_1 hBL_1 a0 hb9_1 y4_1 hM9_1 Bd hXI_1 (show Bd ≤ 900000 from (by have z0 := hBd; omega)))
  generalize hy_3 : (F_L_lostShare y4_1) = y9 at hcon hM
  obtain ⟨y12_0, y12_1, y12_2, y12_3⟩ := y9
  have hM : FF9 = (adc (0 + y4_2) (0 + y4_3) (adc y12_2 y12_3 (L_L_asks_23 (((9 : Int32).toInt - (0 : Int32).toInt).toNat + 1) (((31 : Int64) * (F_Jxe99ae_doubleToLongBits_ccdee y4_0)) + (Int32.toInt64 (F_Jxf58ca_floatToIntBits_5c35a y12_0))) 0 y12_1))) := hM
  refine kwb_ [] [] (vx_runSW (As := [.ref a0]) (rest := [.long ((31 : Int64) * (F_Jxe99ae_doubleToLongBits_ccdee y4_0))]) ⟨hx, hb, hml, hown, hts⟩ hcon (vx_cwSW 1 hts gL_asks_L_lostShare rfl rfl rfl (by decide +kernel) ⟨Nat.le_of_ble_eq_true rfl, Nat.le_of_ble_eq_true rfl⟩) ⟨PC_.blind, lw_pre (X := []) (Y := []) hF hK hP hD hS hA⟩ rfl rfl hl.1 rfl (lv_room (Nat.le_of_ble_eq_true rfl)) dL_asks_12 ⟨(adc_r1 hM), (adc_s1 hM)⟩) hK hP hD hS hA (fun b_3 H locs hpo hP hD hK hS => ?_)
  have hM : FF9 = (adc ((0 + y4_2) + y12_2) ((0 + y4_3) + y12_3) (L_L_asks_23 (((9 : Int32).toInt - (0 : Int32).toInt).toNat + 1) (((31 : Int64) * (F_Jxe99ae_doubleToLongBits_ccdee y4_0)) + (Int32.toInt64 (F_Jxf58ca_floatToIntBits_5c35a y12_0))) 0 y12_1)) := hM.trans (adc_adc _ _ _ _ _)
  obtain ⟨hM9_3, hb9_3, hBL_3, hXI_3⟩ := hpo
  have hM9_3 : b_3.2.2.2 = y12_1 := hM9_3
  have hXI_3 : XI Bd y12_1 := hXI_3
  have hP : va_P D vwCl ([] ++ BWW ad b_3) H := hP
  have hD : va_D A ([] ++ BWW ad b_3) := hD
  have hK : va_K D vwCl ([] ++ BWT b_3) s := hK
  refine W.eq (g2 := F0 m 15 ls [.float y12_0, .long ((31 : Int64) * (F_Jxe99ae_doubleToLongBits_ccdee y4_0))]) rfl ?_
  obtain ⟨y9, hy9⟩ : ∃ y9, (F_Jxf58ca_floatToIntBits_5c35a y12_0) = y9 := ⟨_, rfl⟩
  have hcon := (c_Jxf58ca_floatToIntBits_5c35a l hl0 D ad H.size y12_0)
  rw [hy9] at hcon
  refine kr_ (va_runS (As := [.float y12_0]) (rest := [.long ((31 : Int64) * (F_Jxe99ae_doubleToLongBits_ccdee y4_0))]) ⟨hx, hb, hml, hown, hts⟩ hcon (va_cwS 1 hts gL_asks_Jxf58ca_floatToIntBits_5c35a rfl rfl rfl (by decide +kernel) ⟨Nat.le_of_ble_eq_true rfl, Nat.le_of_ble_eq_true rfl⟩) ⟨PR_.blind, PR_.pre hF hK (hP.sub [] rfl) hS hA [] rfl⟩ rfl rfl hl.1 rfl (lv_room (Nat.le_of_ble_eq_true rfl)) dL_asks_15 ⟨(adc_r0 hM), (adc_s0 hM)⟩) hP hS hA (fun H locs hP hS => ?_)
  subst hy9
  refine W.eq (g2 := F0 m 18 ls [.int (F_Jxf58ca_floatToIntBits_5c35a y12_0), .long ((31 : Int64) * (F_Jxe99ae_doubleToLongBits_ccdee y4_0))]) rfl ?_
  refine lv_i2l (v := (Int32.toInt64 (F_Jxf58ca_floatToIntBits_5c35a y12_0))) hx hb dL_asks_18 rfl ?_
  refine lv_ladd hx hb dL_asks_19 ?_
  refine lv_lstore_n (lv' := [(1, .long (((31 : Int64) * (F_Jxe99ae_doubleToLongBits_ccdee y4_0)) + (Int32.toInt64 (F_Jxf58ca_floatToIntBits_5c35a y12_0)))), (0, .ref a0)]) hx hb dL_asks_20 rfl hl (by decide) rfl (fun ls hl => ?_)
  refine lv_iconst (v := 0) hx hb dL_asks_21 (by decide) ?_
  refine lv_istore_n (lv' := [(3, .int 0), (1, .long (((31 : Int64) * (F_Jxe99ae_doubleToLongBits_ccdee y4_0)) + (Int32.toInt64 (F_Jxf58ca_floatToIntBits_5c35a y12_0)))), (0, .ref a0)]) hx hb dL_asks_22 rfl hl (by decide) rfl (fun ls hl => ?_)
  refine lpW (τ := Int64 × Int32 × MS) (fun k t H locs ls c9 s9 => ∃ (b23 : BX), ((9 : Int32).toInt - (t.2.1 : Int32).toInt).toNat < k ∧ 0 ≤ (t.2.1 : Int32).toInt ∧ b23.2.2.2 = t.2.2 ∧ b23.1 79 = a0 ∧ BL_ b23 ∧ XI Bd (t.2.2) ∧ va_K D vwCl ([] ++ BWT b23) s ∧ va_P D vwCl ([] ++ BWW ad b23) H ∧ va_D A ([] ++ BWW ad b23) ∧ va_S A s.heap H locs ∧ lv_has ls 7 [(3, .int t.2.1), (1, .long t.1), (0, .ref a0)] ∧ FF9 = adc c9 s9 (L_L_asks_23 k t.1 t.2.1 t.2.2)) (fun t H locs ls c9 s9 h9 => (by obtain ⟨_, h8, _⟩ := h9; exact absurd h8 (Nat.not_lt_zero _))) (fun k_5 ih t H locs ls c_5 s_5 hI => ?_) (((9 : Int32).toInt - (0 : Int32).toInt).toNat + 1) ((((31 : Int64) * (F_Jxe99ae_doubleToLongBits_ccdee y4_0)) + (Int32.toInt64 (F_Jxf58ca_floatToIntBits_5c35a y12_0))), 0, y12_1) ⟨b_3, Nat.lt_succ_self _, (show 0 ≤ (0 : Int32).toInt from (by decide +kernel)), hM9_3, hb9_3, hBL_3, XI.mono hXI_3 (show Bd ≤ Bd from (by have z0 := hBd; omega)), hK, hP, hD, hS, (by exact hl), hM⟩
  obtain ⟨x23_1, x23_3, x23_t⟩ := t
  obtain ⟨b23, hk_5, hz_5, hM9_23, hb9_23, hBL_23, hXI_23, hK, hP, hD, hS, hl, hM⟩ := hI
  have hK : va_K D vwCl ([] ++ BWT b23) s := hK
  have hM9_23 : b23.2.2.2 = x23_t := hM9_23
  have hXI_23 : XI Bd x23_t := hXI_23
  have hP : va_P D vwCl ([] ++ BWW ad b23) H := hP
  have hD : va_D A ([] ++ BWW ad b23) := hD
  have hl : lv_has ls 7 [(3, .int x23_3), (1, .long x23_1), (0, .ref a0)] := hl
  have hz_5 : 0 ≤ (x23_3 : Int32).toInt := hz_5
  have hk_5 : ((9 : Int32).toInt - (x23_3 : Int32).toInt).toNat < k_5 + 1 := hk_5
  have hM : FF9 = (adc c_5 s_5 (if 9 ≤ x23_3 then (K_L_asks_50 x23_1 (F_L_account x23_t 1)) else (K_L_asks_36 x23_1 x23_3 (L_L_asks_23 k_5) (F_L_account x23_t x23_3)))) := hM
  have ih_5 := ih
  refine lv_iload_n hx hb dL_asks_23 rfl (lv_at hl 0 rfl) ?_
  refine lv_bipush (v := 9) hx hb dL_asks_24 (by decide) ?_
  refine lv_icmp_ge (tgt := 48) hx hb dL_asks_26 (by decide) (fun c_6 => ?_) (fun c_6 => ?_)
  · rw [if_pos c_6] at hM
    refine lv_aload_n hx hb dL_asks_48 rfl (lv_at hl 2 rfl) ?_
    refine lv_iconst (v := 1) hx hb dL_asks_49 (by decide) ?_
    have hcon := (bl_L_account l hl0 D ad H.size b23 hBL_23 a0 hb9_23 x23_t hM9_23 Bd hXI_23 (show Bd ≤ 900000 from (by have y0 := f_le c_6; have z0 := hBd; have z1 := hz_5; have e_9 : (9 : Int32).toInt = 9 := (by decide +kernel); omega)) 1)
    generalize hy_7 : (F_L_account x23_t 1) = y9 at hcon hM
    obtain ⟨y50_0, y50_1, y50_2, y50_3⟩ := y9
    have hM : FF9 = (adc c_5 s_5 (adc y50_2 y50_3 (L_L_asks_57 y50_0 (((y50_0 : Int32).toInt - (0 : Int32).toInt).toNat + 1) x23_1 0 y50_1))) := hM
    refine kwb_ [] [] (vx_runSW (As := [.ref a0, .int 1]) (rest := []) ⟨hx, hb, hml, hown, hts⟩ hcon (vx_cwSW 2 hts gL_asks_L_account rfl rfl rfl (by decide +kernel) ⟨Nat.le_of_ble_eq_true rfl, Nat.le_of_ble_eq_true rfl⟩) ⟨PC_.blind, lw_pre (X := []) (Y := []) hF hK hP hD hS hA⟩ rfl rfl hl.1 rfl (lv_room (Nat.le_of_ble_eq_true rfl)) dL_asks_50 ⟨(adc_r1 hM), (adc_s1 hM)⟩) hK hP hD hS hA (fun b_7 H locs hpo hP hD hK hS => ?_)
    have hM : FF9 = (adc (c_5 + y50_2) (s_5 + y50_3) (L_L_asks_57 y50_0 (((y50_0 : Int32).toInt - (0 : Int32).toInt).toNat + 1) x23_1 0 y50_1)) := hM.trans (adc_adc _ _ _ _ _)
    obtain ⟨hM9_7, hb9_7, hBL_7, hXI_7⟩ := hpo
    have hM9_7 : b_7.2.2.2 = y50_1 := hM9_7
    have hXI_7 : XI Bd y50_1 := hXI_7
    have hP : va_P D vwCl ([] ++ BWW ad b_7) H := hP
    have hD : va_D A ([] ++ BWW ad b_7) := hD
    have hK : va_K D vwCl ([] ++ BWT b_7) s := hK
    refine W.eq (g2 := F0 m 53 ls [.int y50_0]) rfl ?_
    refine lv_istore_n (lv' := [(3, .int y50_0), (1, .long x23_1), (0, .ref a0)]) hx hb dL_asks_53 rfl hl (by decide) rfl (fun ls hl => ?_)
    refine lv_iconst (v := 0) hx hb dL_asks_54 (by decide) ?_
    refine lv_istore (lv' := [(4, .int 0), (3, .int y50_0), (1, .long x23_1), (0, .ref a0)]) hx hb dL_asks_55 hl (by decide) rfl (fun ls hl => ?_)
    refine lpW (τ := Int64 × Int32 × MS) (fun k t H locs ls c9 s9 => ∃ (b57 : BX), ((y50_0 : Int32).toInt - (t.2.1 : Int32).toInt).toNat < k ∧ 0 ≤ (t.2.1 : Int32).toInt ∧ b57.2.2.2 = t.2.2 ∧ b57.1 79 = a0 ∧ BL_ b57 ∧ XI Bd (t.2.2) ∧ va_K D vwCl ([] ++ BWT b57) s ∧ va_P D vwCl ([] ++ BWW ad b57) H ∧ va_D A ([] ++ BWW ad b57) ∧ va_S A s.heap H locs ∧ lv_has ls 7 [(4, .int t.2.1), (3, .int y50_0), (1, .long t.1), (0, .ref a0)] ∧ FF9 = adc c9 s9 (L_L_asks_57 y50_0 k t.1 t.2.1 t.2.2)) (fun t H locs ls c9 s9 h9 => (by obtain ⟨_, h8, _⟩ := h9; exact absurd h8 (Nat.not_lt_zero _))) (fun k_8 ih t H locs ls c_8 s_8 hI => ?_) (((y50_0 : Int32).toInt - (0 : Int32).toInt).toNat + 1) (x23_1, 0, y50_1) ⟨b_7, Nat.lt_succ_self _, (show 0 ≤ (0 : Int32).toInt from (by decide +kernel)), hM9_7, hb9_7, hBL_7, XI.mono hXI_7 (show Bd ≤ Bd from (by have y0 := f_le c_6; have z0 := hBd; have z1 := hz_5; have e_9 : (9 : Int32).toInt = 9 := (by decide +kernel); omega)), hK, hP, hD, hS, (by exact hl), hM⟩
    obtain ⟨x57_1, x57_4, x57_t⟩ := t
    obtain ⟨b57, hk_8, hz_8, hM9_57, hb9_57, hBL_57, hXI_57, hK, hP, hD, hS, hl, hM⟩ := hI
    have hK : va_K D vwCl ([] ++ BWT b57) s := hK
    have hM9_57 : b57.2.2.2 = x57_t := hM9_57
    have hXI_57 : XI Bd x57_t := hXI_57
    have hP : va_P D vwCl ([] ++ BWW ad b57) H := hP
    have hD : va_D A ([] ++ BWW ad b57) := hD
    have hl : lv_has ls 7 [(4, .int x57_4), (3, .int y50_0), (1, .long x57_1), (0, .ref a0)] := hl
    have hz_8 : 0 ≤ (x57_4 : Int32).toInt := hz_8
    have hk_8 : ((y50_0 : Int32).toInt - (x57_4 : Int32).toInt).toNat < k_8 + 1 := hk_8
    have hM : FF9 = (adc c_8 s_8 (if y50_0 ≤ x57_4 then (L_L_asks_347 (((30 : Int32).toInt - (0 : Int32).toInt).toNat + 1) x57_1 0 x57_t) else (L_L_asks_66 y50_0 x57_4 (L_L_asks_57 y50_0 k_8) (((6 : Int32).toInt - (0 : Int32).toInt).toNat + 1) x57_1 0 x57_t))) := hM
    have ih_8 := ih
    refine lv_iload hx hb dL_asks_57 (lv_at hl 0 rfl) ?_
    refine lv_iload_n hx hb dL_asks_59 rfl (lv_at hl 1 rfl) ?_
    refine lv_icmp_ge (tgt := 344) hx hb dL_asks_60 (by decide) (fun c_9 => ?_) (fun c_9 => ?_)
    · rw [if_pos c_9] at hM
      refine lv_iconst (v := 0) hx hb dL_asks_344 (by decide) ?_
      refine lv_istore (lv' := [(4, .int 0), (3, .int y50_0), (1, .long x57_1), (0, .ref a0)]) hx hb dL_asks_345 hl (by decide) rfl (fun ls hl => ?_)
      refine lpW (τ := Int64 × Int32 × MS) (fun k t H locs ls c9 s9 => ∃ (b347 : BX), ((30 : Int32).toInt - (t.2.1 : Int32).toInt).toNat < k ∧ 0 ≤ (t.2.1 : Int32).toInt ∧ b347.2.2.2 = t.2.2 ∧ b347.1 79 = a0 ∧ BL_ b347 ∧ XI Bd (t.2.2) ∧ va_K D vwCl ([] ++ BWT b347) s ∧ va_P D vwCl ([] ++ BWW ad b347) H ∧ va_D A ([] ++ BWW ad b347) ∧ va_S A s.heap H locs ∧ lv_has ls 7 [(4, .int t.2.1), (3, .int y50_0), (1, .long t.1), (0, .ref a0)] ∧ FF9 = adc c9 s9 (L_L_asks_347 k t.1 t.2.1 t.2.2)) (fun t H locs ls c9 s9 h9 => (by obtain ⟨_, h8, _⟩ := h9; exact absurd h8 (Nat.not_lt_zero _))) (fun k_10 ih t H locs ls c_10 s_10 hI => ?_) (((30 : Int32).toInt - (0 : Int32).toInt).toNat + 1) (x57_1, 0, x57_t) ⟨b57, Nat.lt_succ_self _, (show 0 ≤ (0 : Int32).toInt from (by decide +kernel)), hM9_57, hb9_57, hBL_57, XI.mono hXI_57 (show Bd ≤ Bd from (by have y0 := f_le c_6; have y1 := f_le c_9; have z0 := hBd; have z1 := hz_5; have z2 := hz_8; have e_9 : (9 : Int32).toInt = 9 := (by decide +kernel); omega)), hK, hP, hD, hS, (by exact hl), hM⟩
      obtain ⟨x347_1, x347_4, x347_t⟩ := t
      obtain ⟨b347, hk_10, hz_10, hM9_347, hb9_347, hBL_347, hXI_347, hK, hP, hD, hS, hl, hM⟩ := hI
      have hK : va_K D vwCl ([] ++ BWT b347) s := hK
      have hM9_347 : b347.2.2.2 = x347_t := hM9_347
      have hXI_347 : XI Bd x347_t := hXI_347
      have hP : va_P D vwCl ([] ++ BWW ad b347) H := hP
      have hD : va_D A ([] ++ BWW ad b347) := hD
      have hl : lv_has ls 7 [(4, .int x347_4), (3, .int y50_0), (1, .long x347_1), (0, .ref a0)] := hl
      have hz_10 : 0 ≤ (x347_4 : Int32).toInt := hz_10
      have hk_10 : ((30 : Int32).toInt - (x347_4 : Int32).toInt).toNat < k_10 + 1 := hk_10
      have hM : FF9 = (adc c_10 s_10 (K_L_asks_353 x347_1 x347_4 (L_L_asks_347 k_10) (F_L_account x347_t 3))) := hM
      have ih_10 := ih
      refine lv_iload hx hb dL_asks_347 (lv_at hl 0 rfl) ?_
      refine lv_bipush (v := 30) hx hb dL_asks_349 (by decide) ?_
      refine lv_aload_n hx hb dL_asks_351 rfl (lv_at hl 3 rfl) ?_
      refine lv_iconst (v := 3) hx hb dL_asks_352 (by decide) ?_
      have hcon := (bl_L_account l hl0 D ad H.size b347 hBL_347 a0 hb9_347 x347_t hM9_347 Bd hXI_347 (show Bd ≤ 900000 from (by have y0 := f_le c_6; have y1 := f_le c_9; have z0 := hBd; have z1 := hz_5; have z2 := hz_8; have z3 := hz_10; have e_9 : (9 : Int32).toInt = 9 := (by decide +kernel); omega)) 3)
      generalize hy_11 : (F_L_account x347_t 3) = y9 at hcon hM
      obtain ⟨y353_0, y353_1, y353_2, y353_3⟩ := y9
      have hM : FF9 = (adc c_10 s_10 (adc y353_2 y353_3 (if (inI 30 y353_0) ≤ x347_4 then (L_L_asks_402 (((3 : Int32).toInt - (0 : Int32).toInt).toNat + 1) x347_1 0 y353_1) else (L_L_asks_365 x347_4 (L_L_asks_347 k_10) (((4 : Int32).toInt - (0 : Int32).toInt).toNat + 1) x347_1 0 y353_1)))) := hM
      refine kwb_ [] [] (vx_runSW (As := [.ref a0, .int 3]) (rest := [.int 30, .int x347_4]) ⟨hx, hb, hml, hown, hts⟩ hcon (vx_cwSW 2 hts gL_asks_L_account rfl rfl rfl (by decide +kernel) ⟨Nat.le_of_ble_eq_true rfl, Nat.le_of_ble_eq_true rfl⟩) ⟨PC_.blind, lw_pre (X := []) (Y := []) hF hK hP hD hS hA⟩ rfl rfl hl.1 rfl (lv_room (Nat.le_of_ble_eq_true rfl)) dL_asks_353 ⟨(adc_r1 hM), (adc_s1 hM)⟩) hK hP hD hS hA (fun b_11 H locs hpo hP hD hK hS => ?_)
      have hM : FF9 = (adc (c_10 + y353_2) (s_10 + y353_3) (if (inI 30 y353_0) ≤ x347_4 then (L_L_asks_402 (((3 : Int32).toInt - (0 : Int32).toInt).toNat + 1) x347_1 0 y353_1) else (L_L_asks_365 x347_4 (L_L_asks_347 k_10) (((4 : Int32).toInt - (0 : Int32).toInt).toNat + 1) x347_1 0 y353_1))) := hM.trans (adc_adc _ _ _ _ _)
      obtain ⟨hM9_11, hb9_11, hBL_11, hXI_11⟩ := hpo
      have hM9_11 : b_11.2.2.2 = y353_1 := hM9_11
      have hXI_11 : XI Bd y353_1 := hXI_11
      have hP : va_P D vwCl ([] ++ BWW ad b_11) H := hP
      have hD : va_D A ([] ++ BWW ad b_11) := hD
      have hK : va_K D vwCl ([] ++ BWT b_11) s := hK
      refine W.eq (g2 := F0 m 356 ls [.int y353_0, .int 30, .int x347_4]) rfl ?_
      refine va_mmin (own := RL) hx hb (by rw [hml]; exact hl.1.symm) hown (hts (.methodLink RL 221 Lib.Math.min.name) (List.mem_of_getElem? (i := 2) (by decide +kernel))) (hts (.static Lib.Math.min.name) (List.mem_of_getElem? (i := 3) (by decide +kernel))) (hts (.initialized "java/lang/Math") (List.mem_of_getElem? (i := 4) (by decide +kernel))) (hts (.code Lib.Math.min.name Lib.Math.min.code 2 (some .int)) (List.mem_of_getElem? (i := 5) (by decide +kernel))) (Nat.le_of_ble_eq_true rfl) (Nat.le_of_ble_eq_true rfl) (adc_r0 hM) (adc_s0 hM) dL_asks_356 ?_
      refine kt_ (v := (inI 30 y353_0)) rfl ?_
      refine lv_icmp_ge (tgt := 399) hx hb dL_asks_359 (by decide) (fun c_12 => ?_) (fun c_12 => ?_)
      · rw [if_pos c_12] at hM
        refine lv_iconst (v := 0) hx hb dL_asks_399 (by decide) ?_
        refine lv_istore (lv' := [(4, .int 0), (3, .int y50_0), (1, .long x347_1), (0, .ref a0)]) hx hb dL_asks_400 hl (by decide) rfl (fun ls hl => ?_)
        refine lpW (τ := Int64 × Int32 × MS) (fun k t H locs ls c9 s9 => ∃ (b402 : BX), ((3 : Int32).toInt - (t.2.1 : Int32).toInt).toNat < k ∧ 0 ≤ (t.2.1 : Int32).toInt ∧ b402.2.2.2 = t.2.2 ∧ b402.1 79 = a0 ∧ BL_ b402 ∧ XI Bd (t.2.2) ∧ va_K D vwCl ([] ++ BWT b402) s ∧ va_P D vwCl ([] ++ BWW ad b402) H ∧ va_D A ([] ++ BWW ad b402) ∧ va_S A s.heap H locs ∧ lv_has ls 7 [(4, .int t.2.1), (3, .int y50_0), (1, .long t.1), (0, .ref a0)] ∧ FF9 = adc c9 s9 (L_L_asks_402 k t.1 t.2.1 t.2.2)) (fun t H locs ls c9 s9 h9 => (by obtain ⟨_, h8, _⟩ := h9; exact absurd h8 (Nat.not_lt_zero _))) (fun k_13 ih t H locs ls c_13 s_13 hI => ?_) (((3 : Int32).toInt - (0 : Int32).toInt).toNat + 1) (x347_1, 0, y353_1) ⟨b_11, Nat.lt_succ_self _, (show 0 ≤ (0 : Int32).toInt from (by decide +kernel)), hM9_11, hb9_11, hBL_11, XI.mono hXI_11 (show Bd ≤ Bd from (by have y0 := f_le c_6; have y1 := f_le c_9; have y2 := f_le c_12; have z0 := hBd; have z1 := hz_5; have z2 := hz_8; have z3 := hz_10; have e_9 : (9 : Int32).toInt = 9 := (by decide +kernel); have l1 : (30 : Int32).toInt = 30 := (by decide +kernel); have rin := inI_r 30 y353_0; omega)), hK, hP, hD, hS, (by exact hl), hM⟩
        obtain ⟨x402_1, x402_4, x402_t⟩ := t
        obtain ⟨b402, hk_13, hz_13, hM9_402, hb9_402, hBL_402, hXI_402, hK, hP, hD, hS, hl, hM⟩ := hI
        have hK : va_K D vwCl ([] ++ BWT b402) s := hK
        have hM9_402 : b402.2.2.2 = x402_t := hM9_402
        have hXI_402 : XI Bd x402_t := hXI_402
        have hP : va_P D vwCl ([] ++ BWW ad b402) H := hP
        have hD : va_D A ([] ++ BWW ad b402) := hD
        have hl : lv_has ls 7 [(4, .int x402_4), (3, .int y50_0), (1, .long x402_1), (0, .ref a0)] := hl
        have hz_13 : 0 ≤ (x402_4 : Int32).toInt := hz_13
        have hk_13 : ((3 : Int32).toInt - (x402_4 : Int32).toInt).toNat < k_13 + 1 := hk_13
        have hM : FF9 = (adc c_13 s_13 (if 3 ≤ x402_4 then (K_L_asks_458 x402_1 (F_L_settledIn x402_t)) else (K_L_asks_422 x402_1 x402_4 (L_L_asks_402 k_13) (F_L_agree x402_t x402_4)))) := hM
        have ih_13 := ih
        refine lv_iload hx hb dL_asks_402 (lv_at hl 0 rfl) ?_
        refine lv_iconst (v := 3) hx hb dL_asks_404 (by decide) ?_
        refine lv_icmp_ge (tgt := 452) hx hb dL_asks_405 (by decide) (fun c_14 => ?_) (fun c_14 => ?_)
        · rw [if_pos c_14] at hM
          refine lv_ldc2 (own := RL) hx hb hown (hts (.constantLong RL 174 (31)) (List.mem_of_getElem? (i := 1) (by decide +kernel))) dL_asks_452 ?_
          refine lv_lload_n hx hb dL_asks_455 rfl (lv_at hl 2 rfl) ?_
          refine lv_lmul hx hb dL_asks_456 ?_
          refine lv_aload_n hx hb dL_asks_457 rfl (lv_at hl 3 rfl) ?_
          have hcon := (bl_L_settledIn l hl0 D ad H.size b402 hBL_402 a0 hb9_402 x402_t hM9_402 Bd hXI_402 (show (Bd + 600) ≤ 900000 from (by have y0 := f_le c_6; have y1 := f_le c_9; have y2 := f_le c_12; have y3 := f_le c_14; have z0 := hBd; have z1 := hz_5; have z2 := hz_8; have z3 := hz_10; have z4 := hz_13; have e_3 : (3 : Int32).toInt = 3 := (by decide +kernel); have e_9 : (9 : Int32).toInt = 9 := (by decide +kernel); have l2 : (30 : Int32).toInt = 30 := (by decide +kernel); have rin := inI_r 30 y353_0; omega)))
          generalize hy_15 : (F_L_settledIn x402_t) = y9 at hcon hM
          obtain ⟨y458_0, y458_1, y458_2, y458_3⟩ := y9
          have hM : FF9 = (adc c_13 s_13 (adc y458_2 y458_3 ((((31 : Int64) * x402_1) + (Int32.toInt64 y458_0)), y458_1, 0, 0))) := hM
          refine kwb_ [] [] (vx_runSW (As := [.ref a0]) (rest := [.long ((31 : Int64) * x402_1)]) ⟨hx, hb, hml, hown, hts⟩ hcon (vx_cwSW 1 hts gL_asks_L_settledIn rfl rfl rfl (by decide +kernel) ⟨Nat.le_of_ble_eq_true rfl, Nat.le_of_ble_eq_true rfl⟩) ⟨PC_.blind, lw_pre (X := []) (Y := []) hF hK hP hD hS hA⟩ rfl rfl hl.1 rfl (lv_room (Nat.le_of_ble_eq_true rfl)) dL_asks_458 ⟨(adc_r1 hM), (adc_s1 hM)⟩) hK hP hD hS hA (fun b_15 H locs hpo hP hD hK hS => ?_)
          have hM : FF9 = (adc (c_13 + y458_2) (s_13 + y458_3) ((((31 : Int64) * x402_1) + (Int32.toInt64 y458_0)), y458_1, 0, 0)) := hM.trans (adc_adc _ _ _ _ _)
          obtain ⟨hM9_15, hb9_15, hBL_15, hXI_15⟩ := hpo
          have hM9_15 : b_15.2.2.2 = y458_1 := hM9_15
          have hXI_15 : XI (Bd + 600) y458_1 := hXI_15
          have hP : va_P D vwCl ([] ++ BWW ad b_15) H := hP
          have hD : va_D A ([] ++ BWW ad b_15) := hD
          have hK : va_K D vwCl ([] ++ BWT b_15) s := hK
          refine W.eq (g2 := F0 m 461 ls [.int y458_0, .long ((31 : Int64) * x402_1)]) rfl ?_
          refine lv_i2l (v := (Int32.toInt64 y458_0)) hx hb dL_asks_461 rfl ?_
          refine lv_ladd hx hb dL_asks_462 ?_
          refine W.widen (k := (FF9).2.2.1) (n := (FF9).2.2.2) (Nat.le_of_eq (by rw [hM]; first | done | rfl)) (Nat.le_of_eq (by rw [hM]; first | done | rfl)) ?_
          exact W.lret (v := (((31 : Int64) * x402_1) + (Int32.toInt64 y458_0))) hx hb hr (lw_ret (X := []) (Y := []) b_15 hP hD hK hS (by rw [hM]; first | done | rfl) ⟨(by rw [hM]; exact hM9_15), hb9_15, hBL_15, (by rw [hM]; exact XI.mono hXI_15 (show (Bd + 600) ≤ Bd + 600 from (by have y0 := f_le c_6; have y1 := f_le c_9; have y2 := f_le c_12; have y3 := f_le c_14; have z0 := hBd; have z1 := hz_5; have z2 := hz_8; have z3 := hz_10; have z4 := hz_13; have e_3 : (3 : Int32).toInt = 3 := (by decide +kernel); have e_9 : (9 : Int32).toInt = 9 := (by decide +kernel); have l3 : (30 : Int32).toInt = 30 := (by decide +kernel); have rin := inI_r 30 y353_0; omega)))⟩) hS.2.2 dL_asks_463
        · rw [if_neg c_14] at hM
          refine lv_ldc2 (own := RL) hx hb hown (hts (.constantLong RL 174 (31)) (List.mem_of_getElem? (i := 1) (by decide +kernel))) dL_asks_408 ?_
          refine lv_ldc2 (own := RL) hx hb hown (hts (.constantLong RL 174 (31)) (List.mem_of_getElem? (i := 1) (by decide +kernel))) dL_asks_411 ?_
          refine lv_ldc2 (own := RL) hx hb hown (hts (.constantLong RL 174 (31)) (List.mem_of_getElem? (i := 1) (by decide +kernel))) dL_asks_414 ?_
          refine lv_lload_n hx hb dL_asks_417 rfl (lv_at hl 2 rfl) ?_
          refine lv_lmul hx hb dL_asks_418 ?_
          refine lv_aload_n hx hb dL_asks_419 rfl (lv_at hl 3 rfl) ?_
          refine lv_iload hx hb dL_asks_420 (lv_at hl 0 rfl) ?_
          have hcon := (bl_L_agree l hl0 D ad H.size b402 hBL_402 a0 hb9_402 x402_t hM9_402 Bd hXI_402 (show Bd ≤ 900000 from (by have y0 := f_le c_6; have y1 := f_le c_9; have y2 := f_le c_12; have y3 := f_nle c_14; have z0 := hBd; have z1 := hz_5; have z2 := hz_8; have z3 := hz_10; have z4 := hz_13; have e_3 : (3 : Int32).toInt = 3 := (by decide +kernel); have e_9 : (9 : Int32).toInt = 9 := (by decide +kernel); have l4 : (30 : Int32).toInt = 30 := (by decide +kernel); have rin := inI_r 30 y353_0; omega)) x402_4)
          generalize hy_16 : (F_L_agree x402_t x402_4) = y9 at hcon hM
          obtain ⟨y422_0, y422_1, y422_2, y422_3⟩ := y9
          have hM : FF9 = (adc c_13 s_13 (adc y422_2 y422_3 (K_L_asks_431 x402_1 x402_4 (L_L_asks_402 k_13) y422_0 (F_L_agreeAgain y422_1 x402_4)))) := hM
          refine kwb_ [] [] (vx_runSW (As := [.ref a0, .int x402_4]) (rest := [.long ((31 : Int64) * x402_1), .long (31 : Int64), .long (31 : Int64)]) ⟨hx, hb, hml, hown, hts⟩ hcon (vx_cwSW 2 hts gL_asks_L_agree rfl rfl rfl (by decide +kernel) ⟨Nat.le_of_ble_eq_true rfl, Nat.le_of_ble_eq_true rfl⟩) ⟨PC_.blind, lw_pre (X := []) (Y := []) hF hK hP hD hS hA⟩ rfl rfl hl.1 rfl (lv_room (Nat.le_of_ble_eq_true rfl)) dL_asks_422 ⟨(adc_r1 hM), (adc_s1 hM)⟩) hK hP hD hS hA (fun b_16 H locs hpo hP hD hK hS => ?_)
          have hM : FF9 = (adc (c_13 + y422_2) (s_13 + y422_3) (K_L_asks_431 x402_1 x402_4 (L_L_asks_402 k_13) y422_0 (F_L_agreeAgain y422_1 x402_4))) := hM.trans (adc_adc _ _ _ _ _)
          obtain ⟨hM9_16, hb9_16, hBL_16, hXI_16⟩ := hpo
          have hM9_16 : b_16.2.2.2 = y422_1 := hM9_16
          have hXI_16 : XI Bd y422_1 := hXI_16
          have hP : va_P D vwCl ([] ++ BWW ad b_16) H := hP
          have hD : va_D A ([] ++ BWW ad b_16) := hD
          have hK : va_K D vwCl ([] ++ BWT b_16) s := hK
          refine W.eq (g2 := F0 m 425 ls [.int y422_0, .long ((31 : Int64) * x402_1), .long (31 : Int64), .long (31 : Int64)]) rfl ?_
          refine lv_i2l (v := (Int32.toInt64 y422_0)) hx hb dL_asks_425 rfl ?_
          refine lv_ladd hx hb dL_asks_426 ?_
          refine lv_lmul hx hb dL_asks_427 ?_
          refine lv_aload_n hx hb dL_asks_428 rfl (lv_at hl 3 rfl) ?_
          refine lv_iload hx hb dL_asks_429 (lv_at hl 0 rfl) ?_
          have hcon := (bl_L_agreeAgain l hl0 D ad H.size b_16 hBL_16 a0 hb9_16 y422_1 hM9_16 Bd hXI_16 (show Bd ≤ 900000 from (by have y0 := f_le c_6; have y1 := f_le c_9; have y2 := f_le c_12; have y3 := f_nle c_14; have z0 := hBd; have z1 := hz_5; have z2 := hz_8; have z3 := hz_10; have z4 := hz_13; have e_3 : (3 : Int32).toInt = 3 := (by decide +kernel); have e_9 : (9 : Int32).toInt = 9 := (by decide +kernel); have l5 : (30 : Int32).toInt = 30 := (by decide +kernel); have rin := inI_r 30 y353_0; omega)) x402_4)
          generalize hy_17 : (F_L_agreeAgain y422_1 x402_4) = y9 at hcon hM
          obtain ⟨y431_0, y431_1, y431_2, y431_3⟩ := y9
          have hM : FF9 = (adc (c_13 + y422_2) (s_13 + y422_3) (adc y431_2 y431_3 (K_L_asks_440 x402_1 x402_4 (L_L_asks_402 k_13) y422_0 y431_0 (F_L_members y431_1 x402_4)))) := hM
          refine kwb_ [] [] (vx_runSW (As := [.ref a0, .int x402_4]) (rest := [.long ((31 : Int64) * (((31 : Int64) * x402_1) + (Int32.toInt64 y422_0))), .long (31 : Int64)]) ⟨hx, hb, hml, hown, hts⟩ hcon (vx_cwSW 2 hts gL_asks_L_agreeAgain rfl rfl rfl (by decide +kernel) ⟨Nat.le_of_ble_eq_true rfl, Nat.le_of_ble_eq_true rfl⟩) ⟨PC_.blind, lw_pre (X := []) (Y := []) hF hK hP hD hS hA⟩ rfl rfl hl.1 rfl (lv_room (Nat.le_of_ble_eq_true rfl)) dL_asks_431 ⟨(adc_r1 hM), (adc_s1 hM)⟩) hK hP hD hS hA (fun b_17 H locs hpo hP hD hK hS => ?_)
          have hM : FF9 = (adc ((c_13 + y422_2) + y431_2) ((s_13 + y422_3) + y431_3) (K_L_asks_440 x402_1 x402_4 (L_L_asks_402 k_13) y422_0 y431_0 (F_L_members y431_1 x402_4))) := hM.trans (adc_adc _ _ _ _ _)
          obtain ⟨hM9_17, hb9_17, hBL_17, hXI_17⟩ := hpo
          have hM9_17 : b_17.2.2.2 = y431_1 := hM9_17
          have hXI_17 : XI Bd y431_1 := hXI_17
          have hP : va_P D vwCl ([] ++ BWW ad b_17) H := hP
          have hD : va_D A ([] ++ BWW ad b_17) := hD
          have hK : va_K D vwCl ([] ++ BWT b_17) s := hK
          refine W.eq (g2 := F0 m 434 ls [.int y431_0, .long ((31 : Int64) * (((31 : Int64) * x402_1) + (Int32.toInt64 y422_0))), .long (31 : Int64)]) rfl ?_
          refine lv_i2l (v := (Int32.toInt64 y431_0)) hx hb dL_asks_434 rfl ?_
          refine lv_ladd hx hb dL_asks_435 ?_
          refine lv_lmul hx hb dL_asks_436 ?_
          refine lv_aload_n hx hb dL_asks_437 rfl (lv_at hl 3 rfl) ?_
          refine lv_iload hx hb dL_asks_438 (lv_at hl 0 rfl) ?_
          have hcon := (bl_L_members l hl0 D ad H.size b_17 hBL_17 a0 hb9_17 y431_1 hM9_17 Bd hXI_17 (show Bd ≤ 900000 from (by have y0 := f_le c_6; have y1 := f_le c_9; have y2 := f_le c_12; have y3 := f_nle c_14; have z0 := hBd; have z1 := hz_5; have z2 := hz_8; have z3 := hz_10; have z4 := hz_13; have e_3 : (3 : Int32).toInt = 3 := (by decide +kernel); have e_9 : (9 : Int32).toInt = 9 := (by decide +kernel); have l6 : (30 : Int32).toInt = 30 := (by decide +kernel); have rin := inI_r 30 y353_0; omega)) x402_4)
          generalize hy_18 : (F_L_members y431_1 x402_4) = y9 at hcon hM
          obtain ⟨y440_0, y440_1, y440_2, y440_3⟩ := y9
          have hM : FF9 = (adc ((c_13 + y422_2) + y431_2) ((s_13 + y422_3) + y431_3) (adc y440_2 y440_3 ((L_L_asks_402 k_13) (((31 : Int64) * (((31 : Int64) * (((31 : Int64) * x402_1) + (Int32.toInt64 y422_0))) + (Int32.toInt64 y431_0))) + (Int32.toInt64 y440_0)) (x402_4 + 1) y440_1))) := hM
          refine kwb_ [] [] (vx_runSW (As := [.ref a0, .int x402_4]) (rest := [.long ((31 : Int64) * (((31 : Int64) * (((31 : Int64) * x402_1) + (Int32.toInt64 y422_0))) + (Int32.toInt64 y431_0)))]) ⟨hx, hb, hml, hown, hts⟩ hcon (vx_cwSW 2 hts gL_asks_L_members rfl rfl rfl (by decide +kernel) ⟨Nat.le_of_ble_eq_true rfl, Nat.le_of_ble_eq_true rfl⟩) ⟨PC_.blind, lw_pre (X := []) (Y := []) hF hK hP hD hS hA⟩ rfl rfl hl.1 rfl (lv_room (Nat.le_of_ble_eq_true rfl)) dL_asks_440 ⟨(adc_r1 hM), (adc_s1 hM)⟩) hK hP hD hS hA (fun b_18 H locs hpo hP hD hK hS => ?_)
          have hM : FF9 = (adc (((c_13 + y422_2) + y431_2) + y440_2) (((s_13 + y422_3) + y431_3) + y440_3) ((L_L_asks_402 k_13) (((31 : Int64) * (((31 : Int64) * (((31 : Int64) * x402_1) + (Int32.toInt64 y422_0))) + (Int32.toInt64 y431_0))) + (Int32.toInt64 y440_0)) (x402_4 + 1) y440_1)) := hM.trans (adc_adc _ _ _ _ _)
          obtain ⟨hM9_18, hb9_18, hBL_18, hXI_18⟩ := hpo
          have hM9_18 : b_18.2.2.2 = y440_1 := hM9_18
          have hXI_18 : XI Bd y440_1 := hXI_18
          have hP : va_P D vwCl ([] ++ BWW ad b_18) H := hP
          have hD : va_D A ([] ++ BWW ad b_18) := hD
          have hK : va_K D vwCl ([] ++ BWT b_18) s := hK
          refine W.eq (g2 := F0 m 443 ls [.int y440_0, .long ((31 : Int64) * (((31 : Int64) * (((31 : Int64) * x402_1) + (Int32.toInt64 y422_0))) + (Int32.toInt64 y431_0)))]) rfl ?_
          refine lv_i2l (v := (Int32.toInt64 y440_0)) hx hb dL_asks_443 rfl ?_
          refine lv_ladd hx hb dL_asks_444 ?_
          refine lv_lstore_n (lv' := [(1, .long (((31 : Int64) * (((31 : Int64) * (((31 : Int64) * x402_1) + (Int32.toInt64 y422_0))) + (Int32.toInt64 y431_0))) + (Int32.toInt64 y440_0))), (4, .int x402_4), (3, .int y50_0), (0, .ref a0)]) hx hb dL_asks_445 rfl hl (by decide) rfl (fun ls hl => ?_)
          refine lv_iinc (v := (x402_4 + 1)) (lv' := [(4, .int (x402_4 + 1)), (1, .long (((31 : Int64) * (((31 : Int64) * (((31 : Int64) * x402_1) + (Int32.toInt64 y422_0))) + (Int32.toInt64 y431_0))) + (Int32.toInt64 y440_0))), (3, .int y50_0), (0, .ref a0)]) hx hb dL_asks_446 hl (k := 1) rfl rfl (by decide) rfl (fun ls hl => ?_)
          refine lv_goto (tgt := 402) hx hb dL_asks_449 (by decide) ?_
          exact ih_13 ((((31 : Int64) * (((31 : Int64) * (((31 : Int64) * x402_1) + (Int32.toInt64 y422_0))) + (Int32.toInt64 y431_0))) + (Int32.toInt64 y440_0)), (x402_4 + 1), y440_1) _ _ _ _ _ ⟨b_18, lp_up hk_13 c_14, lp_up0 hz_13 c_14, hM9_18, hb9_18, hBL_18, XI.mono hXI_18 (show Bd ≤ Bd from (by have y0 := f_le c_6; have y1 := f_le c_9; have y2 := f_le c_12; have y3 := f_nle c_14; have z0 := hBd; have z1 := hz_5; have z2 := hz_8; have z3 := hz_10; have z4 := hz_13; have e_3 : (3 : Int32).toInt = 3 := (by decide +kernel); have e_9 : (9 : Int32).toInt = 9 := (by decide +kernel); have l7 : (30 : Int32).toInt = 30 := (by decide +kernel); have rin := inI_r 30 y353_0; omega)), hK, hP, hD, hS, lv_sub hl [0, 2, 1, 3] rfl, hM⟩
      · rw [if_neg c_12] at hM
        refine lv_iconst (v := 0) hx hb dL_asks_362 (by decide) ?_
        refine lv_istore (lv' := [(5, .int 0), (4, .int x347_4), (3, .int y50_0), (1, .long x347_1), (0, .ref a0)]) hx hb dL_asks_363 hl (by decide) rfl (fun ls hl => ?_)
        refine lpW (τ := Int64 × Int32 × MS) (fun k t H locs ls c9 s9 => ∃ (b365 : BX), ((4 : Int32).toInt - (t.2.1 : Int32).toInt).toNat < k ∧ 0 ≤ (t.2.1 : Int32).toInt ∧ b365.2.2.2 = t.2.2 ∧ b365.1 79 = a0 ∧ BL_ b365 ∧ XI Bd (t.2.2) ∧ va_K D vwCl ([] ++ BWT b365) s ∧ va_P D vwCl ([] ++ BWW ad b365) H ∧ va_D A ([] ++ BWW ad b365) ∧ va_S A s.heap H locs ∧ lv_has ls 7 [(5, .int t.2.1), (4, .int x347_4), (3, .int y50_0), (1, .long t.1), (0, .ref a0)] ∧ FF9 = adc c9 s9 (L_L_asks_365 x347_4 (L_L_asks_347 k_10) k t.1 t.2.1 t.2.2)) (fun t H locs ls c9 s9 h9 => (by obtain ⟨_, h8, _⟩ := h9; exact absurd h8 (Nat.not_lt_zero _))) (fun k_19 ih t H locs ls c_19 s_19 hI => ?_) (((4 : Int32).toInt - (0 : Int32).toInt).toNat + 1) (x347_1, 0, y353_1) ⟨b_11, Nat.lt_succ_self _, (show 0 ≤ (0 : Int32).toInt from (by decide +kernel)), hM9_11, hb9_11, hBL_11, XI.mono hXI_11 (show Bd ≤ Bd from (by have y0 := f_le c_6; have y1 := f_le c_9; have y2 := f_nle c_12; have z0 := hBd; have z1 := hz_5; have z2 := hz_8; have z3 := hz_10; have e_9 : (9 : Int32).toInt = 9 := (by decide +kernel); have l8 : (30 : Int32).toInt = 30 := (by decide +kernel); have rin := inI_r 30 y353_0; omega)), hK, hP, hD, hS, (by exact hl), hM⟩
        obtain ⟨x365_1, x365_5, x365_t⟩ := t
        obtain ⟨b365, hk_19, hz_19, hM9_365, hb9_365, hBL_365, hXI_365, hK, hP, hD, hS, hl, hM⟩ := hI
        have hK : va_K D vwCl ([] ++ BWT b365) s := hK
        have hM9_365 : b365.2.2.2 = x365_t := hM9_365
        have hXI_365 : XI Bd x365_t := hXI_365
        have hP : va_P D vwCl ([] ++ BWW ad b365) H := hP
        have hD : va_D A ([] ++ BWW ad b365) := hD
        have hl : lv_has ls 7 [(5, .int x365_5), (4, .int x347_4), (3, .int y50_0), (1, .long x365_1), (0, .ref a0)] := hl
        have hz_19 : 0 ≤ (x365_5 : Int32).toInt := hz_19
        have hk_19 : ((4 : Int32).toInt - (x365_5 : Int32).toInt).toNat < k_19 + 1 := hk_19
        have hM : FF9 = (adc c_19 s_19 (if 4 ≤ x365_5 then ((L_L_asks_347 k_10) x365_1 (x347_4 + 1) x365_t) else (K_L_asks_381 x365_1 x365_5 (L_L_asks_365 x347_4 (L_L_asks_347 k_10) k_19) (F_L_letter x365_t x347_4 x365_5)))) := hM
        have ih_19 := ih
        refine lv_iload hx hb dL_asks_365 (lv_at hl 0 rfl) ?_
        refine lv_iconst (v := 4) hx hb dL_asks_367 (by decide) ?_
        refine lv_icmp_ge (tgt := 393) hx hb dL_asks_368 (by decide) (fun c_20 => ?_) (fun c_20 => ?_)
        · rw [if_pos c_20] at hM
          refine lv_iinc (v := (x347_4 + 1)) (lv' := [(4, .int (x347_4 + 1)), (5, .int x365_5), (3, .int y50_0), (1, .long x365_1), (0, .ref a0)]) hx hb dL_asks_393 hl (k := 1) rfl rfl (by decide) rfl (fun ls hl => ?_)
          refine lv_goto (tgt := 347) hx hb dL_asks_396 (by decide) ?_
          exact ih_10 (x365_1, (x347_4 + 1), x365_t) _ _ _ _ _ ⟨b365, lp_up hk_10 (show ¬ (30 : Int32) ≤ x347_4 from fun h9 => by have h8 := f_le h9; have e9b : (30 : Int32).toInt = 30 := (by decide +kernel); have y0 := f_le c_6; have y1 := f_le c_9; have y2 := f_nle c_12; have y3 := f_le c_20; have z0 := hBd; have z1 := hz_5; have z2 := hz_8; have z3 := hz_10; have z4 := hz_19; have e_4 : (4 : Int32).toInt = 4 := (by decide +kernel); have e_9 : (9 : Int32).toInt = 9 := (by decide +kernel); have l9 : (30 : Int32).toInt = 30 := (by decide +kernel); have rin := inI_r 30 y353_0; omega), lp_up0 hz_10 (show ¬ (30 : Int32) ≤ x347_4 from fun h9 => by have h8 := f_le h9; have e9b : (30 : Int32).toInt = 30 := (by decide +kernel); have y0 := f_le c_6; have y1 := f_le c_9; have y2 := f_nle c_12; have y3 := f_le c_20; have z0 := hBd; have z1 := hz_5; have z2 := hz_8; have z3 := hz_10; have z4 := hz_19; have e_4 : (4 : Int32).toInt = 4 := (by decide +kernel); have e_9 : (9 : Int32).toInt = 9 := (by decide +kernel); have l9 : (30 : Int32).toInt = 30 := (by decide +kernel); have rin := inI_r 30 y353_0; omega), hM9_365, hb9_365, hBL_365, XI.mono hXI_365 (show Bd ≤ Bd from (by have y0 := f_le c_6; have y1 := f_le c_9; have y2 := f_nle c_12; have y3 := f_le c_20; have z0 := hBd; have z1 := hz_5; have z2 := hz_8; have z3 := hz_10; have z4 := hz_19; have e_4 : (4 : Int32).toInt = 4 := (by decide +kernel); have e_9 : (9 : Int32).toInt = 9 := (by decide +kernel); have l10 : (30 : Int32).toInt = 30 := (by decide +kernel); have rin := inI_r 30 y353_0; omega)), hK, hP, hD, hS, lv_sub hl [0, 2, 3, 4] rfl, hM⟩
        · rw [if_neg c_20] at hM
          refine lv_ldc2 (own := RL) hx hb hown (hts (.constantLong RL 174 (31)) (List.mem_of_getElem? (i := 1) (by decide +kernel))) dL_asks_371 ?_
          refine lv_lload_n hx hb dL_asks_374 rfl (lv_at hl 3 rfl) ?_
          refine lv_lmul hx hb dL_asks_375 ?_
          refine lv_aload_n hx hb dL_asks_376 rfl (lv_at hl 4 rfl) ?_
          refine lv_iload hx hb dL_asks_377 (lv_at hl 1 rfl) ?_
          refine lv_iload hx hb dL_asks_379 (lv_at hl 0 rfl) ?_
          have hcon := (bl_L_letter l hl0 D ad H.size b365 hBL_365 a0 hb9_365 x365_t hM9_365 Bd hXI_365 (show Bd ≤ 900000 from (by have y0 := f_le c_6; have y1 := f_le c_9; have y2 := f_nle c_12; have y3 := f_nle c_20; have z0 := hBd; have z1 := hz_5; have z2 := hz_8; have z3 := hz_10; have z4 := hz_19; have e_4 : (4 : Int32).toInt = 4 := (by decide +kernel); have e_9 : (9 : Int32).toInt = 9 := (by decide +kernel); have l11 : (30 : Int32).toInt = 30 := (by decide +kernel); have rin := inI_r 30 y353_0; omega)) x347_4 x365_5)
          generalize hy_21 : (F_L_letter x365_t x347_4 x365_5) = y9 at hcon hM
          obtain ⟨y381_0, y381_1, y381_2, y381_3⟩ := y9
          have hM : FF9 = (adc c_19 s_19 (adc y381_2 y381_3 ((L_L_asks_365 x347_4 (L_L_asks_347 k_10) k_19) (((31 : Int64) * x365_1) + (Int32.toInt64 y381_0)) (x365_5 + 1) y381_1))) := hM
          refine kwb_ [] [] (vx_runSW (As := [.ref a0, .int x347_4, .int x365_5]) (rest := [.long ((31 : Int64) * x365_1)]) ⟨hx, hb, hml, hown, hts⟩ hcon (vx_cwSW 3 hts gL_asks_L_letter rfl rfl rfl (by decide +kernel) ⟨Nat.le_of_ble_eq_true rfl, Nat.le_of_ble_eq_true rfl⟩) ⟨PC_.blind, lw_pre (X := []) (Y := []) hF hK hP hD hS hA⟩ rfl rfl hl.1 rfl (lv_room (Nat.le_of_ble_eq_true rfl)) dL_asks_381 ⟨(adc_r1 hM), (adc_s1 hM)⟩) hK hP hD hS hA (fun b_21 H locs hpo hP hD hK hS => ?_)
          have hM : FF9 = (adc (c_19 + y381_2) (s_19 + y381_3) ((L_L_asks_365 x347_4 (L_L_asks_347 k_10) k_19) (((31 : Int64) * x365_1) + (Int32.toInt64 y381_0)) (x365_5 + 1) y381_1)) := hM.trans (adc_adc _ _ _ _ _)
          obtain ⟨hM9_21, hb9_21, hBL_21, hXI_21⟩ := hpo
          have hM9_21 : b_21.2.2.2 = y381_1 := hM9_21
          have hXI_21 : XI Bd y381_1 := hXI_21
          have hP : va_P D vwCl ([] ++ BWW ad b_21) H := hP
          have hD : va_D A ([] ++ BWW ad b_21) := hD
          have hK : va_K D vwCl ([] ++ BWT b_21) s := hK
          refine W.eq (g2 := F0 m 384 ls [.int y381_0, .long ((31 : Int64) * x365_1)]) rfl ?_
          refine lv_i2l (v := (Int32.toInt64 y381_0)) hx hb dL_asks_384 rfl ?_
          refine lv_ladd hx hb dL_asks_385 ?_
          refine lv_lstore_n (lv' := [(1, .long (((31 : Int64) * x365_1) + (Int32.toInt64 y381_0))), (5, .int x365_5), (4, .int x347_4), (3, .int y50_0), (0, .ref a0)]) hx hb dL_asks_386 rfl hl (by decide) rfl (fun ls hl => ?_)
          refine lv_iinc (v := (x365_5 + 1)) (lv' := [(5, .int (x365_5 + 1)), (1, .long (((31 : Int64) * x365_1) + (Int32.toInt64 y381_0))), (4, .int x347_4), (3, .int y50_0), (0, .ref a0)]) hx hb dL_asks_387 hl (k := 1) rfl rfl (by decide) rfl (fun ls hl => ?_)
          refine lv_goto (tgt := 365) hx hb dL_asks_390 (by decide) ?_
          exact ih_19 ((((31 : Int64) * x365_1) + (Int32.toInt64 y381_0)), (x365_5 + 1), y381_1) _ _ _ _ _ ⟨b_21, lp_up hk_19 c_20, lp_up0 hz_19 c_20, hM9_21, hb9_21, hBL_21, XI.mono hXI_21 (show Bd ≤ Bd from (by have y0 := f_le c_6; have y1 := f_le c_9; have y2 := f_nle c_12; have y3 := f_nle c_20; have z0 := hBd; have z1 := hz_5; have z2 := hz_8; have z3 := hz_10; have z4 := hz_19; have e_4 : (4 : Int32).toInt = 4 := (by decide +kernel); have e_9 : (9 : Int32).toInt = 9 := (by decide +kernel); have l12 : (30 : Int32).toInt = 30 := (by decide +kernel); have rin := inI_r 30 y353_0; omega)), hK, hP, hD, hS, lv_sub hl [0, 2, 3, 1, 4] rfl, hM⟩
    · rw [if_neg c_9] at hM
      refine lv_iconst (v := 0) hx hb dL_asks_63 (by decide) ?_
      refine lv_istore (lv' := [(5, .int 0), (4, .int x57_4), (3, .int y50_0), (1, .long x57_1), (0, .ref a0)]) hx hb dL_asks_64 hl (by decide) rfl (fun ls hl => ?_)
      refine lpW (τ := Int64 × Int32 × MS) (fun k t H locs ls c9 s9 => ∃ (b66 : BX), ((6 : Int32).toInt - (t.2.1 : Int32).toInt).toNat < k ∧ 0 ≤ (t.2.1 : Int32).toInt ∧ b66.2.2.2 = t.2.2 ∧ b66.1 79 = a0 ∧ BL_ b66 ∧ XI Bd (t.2.2) ∧ va_K D vwCl ([] ++ BWT b66) s ∧ va_P D vwCl ([] ++ BWW ad b66) H ∧ va_D A ([] ++ BWW ad b66) ∧ va_S A s.heap H locs ∧ lv_has ls 7 [(5, .int t.2.1), (4, .int x57_4), (3, .int y50_0), (1, .long t.1), (0, .ref a0)] ∧ FF9 = adc c9 s9 (L_L_asks_66 y50_0 x57_4 (L_L_asks_57 y50_0 k_8) k t.1 t.2.1 t.2.2)) (fun t H locs ls c9 s9 h9 => (by obtain ⟨_, h8, _⟩ := h9; exact absurd h8 (Nat.not_lt_zero _))) (fun k_22 ih t H locs ls c_22 s_22 hI => ?_) (((6 : Int32).toInt - (0 : Int32).toInt).toNat + 1) (x57_1, 0, x57_t) ⟨b57, Nat.lt_succ_self _, (show 0 ≤ (0 : Int32).toInt from (by decide +kernel)), hM9_57, hb9_57, hBL_57, XI.mono hXI_57 (show Bd ≤ Bd from (by have y0 := f_le c_6; have y1 := f_nle c_9; have z0 := hBd; have z1 := hz_5; have z2 := hz_8; have e_9 : (9 : Int32).toInt = 9 := (by decide +kernel); omega)), hK, hP, hD, hS, (by exact hl), hM⟩
      obtain ⟨x66_1, x66_5, x66_t⟩ := t
      obtain ⟨b66, hk_22, hz_22, hM9_66, hb9_66, hBL_66, hXI_66, hK, hP, hD, hS, hl, hM⟩ := hI
      have hK : va_K D vwCl ([] ++ BWT b66) s := hK
      have hM9_66 : b66.2.2.2 = x66_t := hM9_66
      have hXI_66 : XI Bd x66_t := hXI_66
      have hP : va_P D vwCl ([] ++ BWW ad b66) H := hP
      have hD : va_D A ([] ++ BWW ad b66) := hD
      have hl : lv_has ls 7 [(5, .int x66_5), (4, .int x57_4), (3, .int y50_0), (1, .long x66_1), (0, .ref a0)] := hl
      have hz_22 : 0 ≤ (x66_5 : Int32).toInt := hz_22
      have hk_22 : ((6 : Int32).toInt - (x66_5 : Int32).toInt).toNat < k_22 + 1 := hk_22
      have hM : FF9 = (adc c_22 s_22 (if 6 ≤ x66_5 then (L_L_asks_98 y50_0 x57_4 (L_L_asks_57 y50_0 k_8) (((y50_0 : Int32).toInt - (0 : Int32).toInt).toNat + 1) x66_1 0 x66_t) else (K_L_asks_83 x66_1 x66_5 (L_L_asks_66 y50_0 x57_4 (L_L_asks_57 y50_0 k_8) k_22) (F_L_surveyorOf x66_t x57_4 x66_5)))) := hM
      have ih_22 := ih
      refine lv_iload hx hb dL_asks_66 (lv_at hl 0 rfl) ?_
      refine lv_bipush (v := 6) hx hb dL_asks_68 (by decide) ?_
      refine lv_icmp_ge (tgt := 95) hx hb dL_asks_70 (by decide) (fun c_23 => ?_) (fun c_23 => ?_)
      · rw [if_pos c_23] at hM
        refine lv_iconst (v := 0) hx hb dL_asks_95 (by decide) ?_
        refine lv_istore (lv' := [(5, .int 0), (4, .int x57_4), (3, .int y50_0), (1, .long x66_1), (0, .ref a0)]) hx hb dL_asks_96 hl (by decide) rfl (fun ls hl => ?_)
        refine lpW (τ := Int64 × Int32 × MS) (fun k t H locs ls c9 s9 => ∃ (b98 : BX), ((y50_0 : Int32).toInt - (t.2.1 : Int32).toInt).toNat < k ∧ 0 ≤ (t.2.1 : Int32).toInt ∧ b98.2.2.2 = t.2.2 ∧ b98.1 79 = a0 ∧ BL_ b98 ∧ XI Bd (t.2.2) ∧ va_K D vwCl ([] ++ BWT b98) s ∧ va_P D vwCl ([] ++ BWW ad b98) H ∧ va_D A ([] ++ BWW ad b98) ∧ va_S A s.heap H locs ∧ lv_has ls 7 [(5, .int t.2.1), (4, .int x57_4), (3, .int y50_0), (1, .long t.1), (0, .ref a0)] ∧ FF9 = adc c9 s9 (L_L_asks_98 y50_0 x57_4 (L_L_asks_57 y50_0 k_8) k t.1 t.2.1 t.2.2)) (fun t H locs ls c9 s9 h9 => (by obtain ⟨_, h8, _⟩ := h9; exact absurd h8 (Nat.not_lt_zero _))) (fun k_24 ih t H locs ls c_24 s_24 hI => ?_) (((y50_0 : Int32).toInt - (0 : Int32).toInt).toNat + 1) (x66_1, 0, x66_t) ⟨b66, Nat.lt_succ_self _, (show 0 ≤ (0 : Int32).toInt from (by decide +kernel)), hM9_66, hb9_66, hBL_66, XI.mono hXI_66 (show Bd ≤ Bd from (by have y0 := f_le c_6; have y1 := f_nle c_9; have y2 := f_le c_23; have z0 := hBd; have z1 := hz_5; have z2 := hz_8; have z3 := hz_22; have e_6 : (6 : Int32).toInt = 6 := (by decide +kernel); have e_9 : (9 : Int32).toInt = 9 := (by decide +kernel); omega)), hK, hP, hD, hS, (by exact hl), hM⟩
        obtain ⟨x98_1, x98_5, x98_t⟩ := t
        obtain ⟨b98, hk_24, hz_24, hM9_98, hb9_98, hBL_98, hXI_98, hK, hP, hD, hS, hl, hM⟩ := hI
        have hK : va_K D vwCl ([] ++ BWT b98) s := hK
        have hM9_98 : b98.2.2.2 = x98_t := hM9_98
        have hXI_98 : XI Bd x98_t := hXI_98
        have hP : va_P D vwCl ([] ++ BWW ad b98) H := hP
        have hD : va_D A ([] ++ BWW ad b98) := hD
        have hl : lv_has ls 7 [(5, .int x98_5), (4, .int x57_4), (3, .int y50_0), (1, .long x98_1), (0, .ref a0)] := hl
        have hz_24 : 0 ≤ (x98_5 : Int32).toInt := hz_24
        have hk_24 : ((y50_0 : Int32).toInt - (x98_5 : Int32).toInt).toNat < k_24 + 1 := hk_24
        have hM : FF9 = (adc c_24 s_24 (if y50_0 ≤ x98_5 then (K_L_asks_276 x57_4 (L_L_asks_57 y50_0 k_8) x98_1 (F_L_reached x98_t x57_4)) else (K_L_asks_129 y50_0 x57_4 x98_1 x98_5 (L_L_asks_98 y50_0 x57_4 (L_L_asks_57 y50_0 k_8) k_24) (F_L_cost x98_t x57_4 x98_5)))) := hM
        have ih_24 := ih
        refine lv_iload hx hb dL_asks_98 (lv_at hl 0 rfl) ?_
        refine lv_iload_n hx hb dL_asks_100 rfl (lv_at hl 2 rfl) ?_
        refine lv_icmp_ge (tgt := 262) hx hb dL_asks_101 (by decide) (fun c_25 => ?_) (fun c_25 => ?_)
        · rw [if_pos c_25] at hM
          refine lv_ldc2 (own := RL) hx hb hown (hts (.constantLong RL 174 (31)) (List.mem_of_getElem? (i := 1) (by decide +kernel))) dL_asks_262 ?_
          refine lv_ldc2 (own := RL) hx hb hown (hts (.constantLong RL 174 (31)) (List.mem_of_getElem? (i := 1) (by decide +kernel))) dL_asks_265 ?_
          refine lv_ldc2 (own := RL) hx hb hown (hts (.constantLong RL 174 (31)) (List.mem_of_getElem? (i := 1) (by decide +kernel))) dL_asks_268 ?_
          refine lv_lload_n hx hb dL_asks_271 rfl (lv_at hl 3 rfl) ?_
          refine lv_lmul hx hb dL_asks_272 ?_
          refine lv_aload_n hx hb dL_asks_273 rfl (lv_at hl 4 rfl) ?_
          refine lv_iload hx hb dL_asks_274 (lv_at hl 1 rfl) ?_
          have hcon := (bl_L_reached l hl0 D ad H.size b98 hBL_98 a0 hb9_98 x98_t hM9_98 Bd hXI_98 (show Bd ≤ 900000 from (by have y0 := f_le c_6; have y1 := f_nle c_9; have y2 := f_le c_23; have y3 := f_le c_25; have z0 := hBd; have z1 := hz_5; have z2 := hz_8; have z3 := hz_22; have z4 := hz_24; have e_6 : (6 : Int32).toInt = 6 := (by decide +kernel); have e_9 : (9 : Int32).toInt = 9 := (by decide +kernel); omega)) x57_4)
          generalize hy_26 : (F_L_reached x98_t x57_4) = y9 at hcon hM
          obtain ⟨y276_0, y276_1, y276_2, y276_3⟩ := y9
          have hM : FF9 = (adc c_24 s_24 (adc y276_2 y276_3 (K_L_asks_285 x57_4 (L_L_asks_57 y50_0 k_8) x98_1 y276_0 (F_L_right y276_1 x57_4)))) := hM
          refine kwb_ [] [] (vx_runSW (As := [.ref a0, .int x57_4]) (rest := [.long ((31 : Int64) * x98_1), .long (31 : Int64), .long (31 : Int64)]) ⟨hx, hb, hml, hown, hts⟩ hcon (vx_cwSW 2 hts gL_asks_L_reached rfl rfl rfl (by decide +kernel) ⟨Nat.le_of_ble_eq_true rfl, Nat.le_of_ble_eq_true rfl⟩) ⟨PC_.blind, lw_pre (X := []) (Y := []) hF hK hP hD hS hA⟩ rfl rfl hl.1 rfl (lv_room (Nat.le_of_ble_eq_true rfl)) dL_asks_276 ⟨(adc_r1 hM), (adc_s1 hM)⟩) hK hP hD hS hA (fun b_26 H locs hpo hP hD hK hS => ?_)
          have hM : FF9 = (adc (c_24 + y276_2) (s_24 + y276_3) (K_L_asks_285 x57_4 (L_L_asks_57 y50_0 k_8) x98_1 y276_0 (F_L_right y276_1 x57_4))) := hM.trans (adc_adc _ _ _ _ _)
          obtain ⟨hM9_26, hb9_26, hBL_26, hXI_26⟩ := hpo
          have hM9_26 : b_26.2.2.2 = y276_1 := hM9_26
          have hXI_26 : XI Bd y276_1 := hXI_26
          have hP : va_P D vwCl ([] ++ BWW ad b_26) H := hP
          have hD : va_D A ([] ++ BWW ad b_26) := hD
          have hK : va_K D vwCl ([] ++ BWT b_26) s := hK
          refine W.eq (g2 := F0 m 279 ls [.int y276_0, .long ((31 : Int64) * x98_1), .long (31 : Int64), .long (31 : Int64)]) rfl ?_
          refine lv_i2l (v := (Int32.toInt64 y276_0)) hx hb dL_asks_279 rfl ?_
          refine lv_ladd hx hb dL_asks_280 ?_
          refine lv_lmul hx hb dL_asks_281 ?_
          refine lv_aload_n hx hb dL_asks_282 rfl (lv_at hl 4 rfl) ?_
          refine lv_iload hx hb dL_asks_283 (lv_at hl 1 rfl) ?_
          have hcon := (bl_L_right l hl0 D ad H.size b_26 hBL_26 a0 hb9_26 y276_1 hM9_26 Bd hXI_26 (show Bd ≤ 900000 from (by have y0 := f_le c_6; have y1 := f_nle c_9; have y2 := f_le c_23; have y3 := f_le c_25; have z0 := hBd; have z1 := hz_5; have z2 := hz_8; have z3 := hz_22; have z4 := hz_24; have e_6 : (6 : Int32).toInt = 6 := (by decide +kernel); have e_9 : (9 : Int32).toInt = 9 := (by decide +kernel); omega)) x57_4)
          generalize hy_27 : (F_L_right y276_1 x57_4) = y9 at hcon hM
          obtain ⟨y285_0, y285_1, y285_2, y285_3⟩ := y9
          have hM : FF9 = (adc (c_24 + y276_2) (s_24 + y276_3) (adc y285_2 y285_3 (K_L_asks_294 x57_4 (L_L_asks_57 y50_0 k_8) x98_1 y276_0 y285_0 (F_L_busiest y285_1 x57_4)))) := hM
          refine kwb_ [] [] (vx_runSW (As := [.ref a0, .int x57_4]) (rest := [.long ((31 : Int64) * (((31 : Int64) * x98_1) + (Int32.toInt64 y276_0))), .long (31 : Int64)]) ⟨hx, hb, hml, hown, hts⟩ hcon (vx_cwSW 2 hts gL_asks_L_right rfl rfl rfl (by decide +kernel) ⟨Nat.le_of_ble_eq_true rfl, Nat.le_of_ble_eq_true rfl⟩) ⟨PC_.blind, lw_pre (X := []) (Y := []) hF hK hP hD hS hA⟩ rfl rfl hl.1 rfl (lv_room (Nat.le_of_ble_eq_true rfl)) dL_asks_285 ⟨(adc_r1 hM), (adc_s1 hM)⟩) hK hP hD hS hA (fun b_27 H locs hpo hP hD hK hS => ?_)
          have hM : FF9 = (adc ((c_24 + y276_2) + y285_2) ((s_24 + y276_3) + y285_3) (K_L_asks_294 x57_4 (L_L_asks_57 y50_0 k_8) x98_1 y276_0 y285_0 (F_L_busiest y285_1 x57_4))) := hM.trans (adc_adc _ _ _ _ _)
          obtain ⟨hM9_27, hb9_27, hBL_27, hXI_27⟩ := hpo
          have hM9_27 : b_27.2.2.2 = y285_1 := hM9_27
          have hXI_27 : XI Bd y285_1 := hXI_27
          have hP : va_P D vwCl ([] ++ BWW ad b_27) H := hP
          have hD : va_D A ([] ++ BWW ad b_27) := hD
          have hK : va_K D vwCl ([] ++ BWT b_27) s := hK
          refine W.eq (g2 := F0 m 288 ls [.int y285_0, .long ((31 : Int64) * (((31 : Int64) * x98_1) + (Int32.toInt64 y276_0))), .long (31 : Int64)]) rfl ?_
          refine lv_i2l (v := (Int32.toInt64 y285_0)) hx hb dL_asks_288 rfl ?_
          refine lv_ladd hx hb dL_asks_289 ?_
          refine lv_lmul hx hb dL_asks_290 ?_
          refine lv_aload_n hx hb dL_asks_291 rfl (lv_at hl 4 rfl) ?_
          refine lv_iload hx hb dL_asks_292 (lv_at hl 1 rfl) ?_
          have hcon := (bl_L_busiest l hl0 D ad H.size b_27 hBL_27 a0 hb9_27 y285_1 hM9_27 Bd hXI_27 (show Bd ≤ 900000 from (by have y0 := f_le c_6; have y1 := f_nle c_9; have y2 := f_le c_23; have y3 := f_le c_25; have z0 := hBd; have z1 := hz_5; have z2 := hz_8; have z3 := hz_22; have z4 := hz_24; have e_6 : (6 : Int32).toInt = 6 := (by decide +kernel); have e_9 : (9 : Int32).toInt = 9 := (by decide +kernel); omega)) x57_4)
          generalize hy_28 : (F_L_busiest y285_1 x57_4) = y9 at hcon hM
          obtain ⟨y294_0, y294_1, y294_2, y294_3⟩ := y9
          have hM : FF9 = (adc ((c_24 + y276_2) + y285_2) ((s_24 + y276_3) + y285_3) (adc y294_2 y294_3 (K_L_asks_303 x57_4 (L_L_asks_57 y50_0 k_8) x98_1 y276_0 y285_0 y294_0 (F_L_line y294_1 x57_4)))) := hM
          refine kwb_ [] [] (vx_runSW (As := [.ref a0, .int x57_4]) (rest := [.long ((31 : Int64) * (((31 : Int64) * (((31 : Int64) * x98_1) + (Int32.toInt64 y276_0))) + (Int32.toInt64 y285_0)))]) ⟨hx, hb, hml, hown, hts⟩ hcon (vx_cwSW 2 hts gL_asks_L_busiest rfl rfl rfl (by decide +kernel) ⟨Nat.le_of_ble_eq_true rfl, Nat.le_of_ble_eq_true rfl⟩) ⟨PC_.blind, lw_pre (X := []) (Y := []) hF hK hP hD hS hA⟩ rfl rfl hl.1 rfl (lv_room (Nat.le_of_ble_eq_true rfl)) dL_asks_294 ⟨(adc_r1 hM), (adc_s1 hM)⟩) hK hP hD hS hA (fun b_28 H locs hpo hP hD hK hS => ?_)
          have hM : FF9 = (adc (((c_24 + y276_2) + y285_2) + y294_2) (((s_24 + y276_3) + y285_3) + y294_3) (K_L_asks_303 x57_4 (L_L_asks_57 y50_0 k_8) x98_1 y276_0 y285_0 y294_0 (F_L_line y294_1 x57_4))) := hM.trans (adc_adc _ _ _ _ _)
          obtain ⟨hM9_28, hb9_28, hBL_28, hXI_28⟩ := hpo
          have hM9_28 : b_28.2.2.2 = y294_1 := hM9_28
          have hXI_28 : XI Bd y294_1 := hXI_28
          have hP : va_P D vwCl ([] ++ BWW ad b_28) H := hP
          have hD : va_D A ([] ++ BWW ad b_28) := hD
          have hK : va_K D vwCl ([] ++ BWT b_28) s := hK
          refine W.eq (g2 := F0 m 297 ls [.int y294_0, .long ((31 : Int64) * (((31 : Int64) * (((31 : Int64) * x98_1) + (Int32.toInt64 y276_0))) + (Int32.toInt64 y285_0)))]) rfl ?_
          refine lv_i2l (v := (Int32.toInt64 y294_0)) hx hb dL_asks_297 rfl ?_
          refine lv_ladd hx hb dL_asks_298 ?_
          refine lv_lstore_n (lv' := [(1, .long (((31 : Int64) * (((31 : Int64) * (((31 : Int64) * x98_1) + (Int32.toInt64 y276_0))) + (Int32.toInt64 y285_0))) + (Int32.toInt64 y294_0))), (5, .int x98_5), (4, .int x57_4), (3, .int y50_0), (0, .ref a0)]) hx hb dL_asks_299 rfl hl (by decide) rfl (fun ls hl => ?_)
          refine lv_aload_n hx hb dL_asks_300 rfl (lv_at hl 4 rfl) ?_
          refine lv_iload hx hb dL_asks_301 (lv_at hl 2 rfl) ?_
          have hcon := (bl_L_line l hl0 D ad H.size b_28 hBL_28 a0 hb9_28 y294_1 hM9_28 Bd hXI_28 (show Bd ≤ 900000 from (by have y0 := f_le c_6; have y1 := f_nle c_9; have y2 := f_le c_23; have y3 := f_le c_25; have z0 := hBd; have z1 := hz_5; have z2 := hz_8; have z3 := hz_22; have z4 := hz_24; have e_6 : (6 : Int32).toInt = 6 := (by decide +kernel); have e_9 : (9 : Int32).toInt = 9 := (by decide +kernel); omega)) x57_4)
          generalize hy_29 : (F_L_line y294_1 x57_4) = y9 at hcon hM
          obtain ⟨y303_0, y303_1, y303_2, y303_3⟩ := y9
          have hM : FF9 = (adc (((c_24 + y276_2) + y285_2) + y294_2) (((s_24 + y276_3) + y285_3) + y294_3) (adc y303_2 y303_3 (L_L_asks_311 x57_4 (L_L_asks_57 y50_0 k_8) y303_0 (((y303_0 : Int32).toInt - (0 : Int32).toInt).toNat + 1) (((31 : Int64) * (((31 : Int64) * (((31 : Int64) * x98_1) + (Int32.toInt64 y276_0))) + (Int32.toInt64 y285_0))) + (Int32.toInt64 y294_0)) 0 y303_1))) := hM
          refine kwb_ [] [] (vx_runSW (As := [.ref a0, .int x57_4]) (rest := []) ⟨hx, hb, hml, hown, hts⟩ hcon (vx_cwSW 2 hts gL_asks_L_line rfl rfl rfl (by decide +kernel) ⟨Nat.le_of_ble_eq_true rfl, Nat.le_of_ble_eq_true rfl⟩) ⟨PC_.blind, lw_pre (X := []) (Y := []) hF hK hP hD hS hA⟩ rfl rfl hl.1 rfl (lv_room (Nat.le_of_ble_eq_true rfl)) dL_asks_303 ⟨(adc_r1 hM), (adc_s1 hM)⟩) hK hP hD hS hA (fun b_29 H locs hpo hP hD hK hS => ?_)
          have hM : FF9 = (adc ((((c_24 + y276_2) + y285_2) + y294_2) + y303_2) ((((s_24 + y276_3) + y285_3) + y294_3) + y303_3) (L_L_asks_311 x57_4 (L_L_asks_57 y50_0 k_8) y303_0 (((y303_0 : Int32).toInt - (0 : Int32).toInt).toNat + 1) (((31 : Int64) * (((31 : Int64) * (((31 : Int64) * x98_1) + (Int32.toInt64 y276_0))) + (Int32.toInt64 y285_0))) + (Int32.toInt64 y294_0)) 0 y303_1)) := hM.trans (adc_adc _ _ _ _ _)
          obtain ⟨hM9_29, hb9_29, hBL_29, hXI_29⟩ := hpo
          have hM9_29 : b_29.2.2.2 = y303_1 := hM9_29
          have hXI_29 : XI Bd y303_1 := hXI_29
          have hP : va_P D vwCl ([] ++ BWW ad b_29) H := hP
          have hD : va_D A ([] ++ BWW ad b_29) := hD
          have hK : va_K D vwCl ([] ++ BWT b_29) s := hK
          refine W.eq (g2 := F0 m 306 ls [.int y303_0]) rfl ?_
          refine lv_istore (lv' := [(5, .int y303_0), (1, .long (((31 : Int64) * (((31 : Int64) * (((31 : Int64) * x98_1) + (Int32.toInt64 y276_0))) + (Int32.toInt64 y285_0))) + (Int32.toInt64 y294_0))), (4, .int x57_4), (3, .int y50_0), (0, .ref a0)]) hx hb dL_asks_306 hl (by decide) rfl (fun ls hl => ?_)
          refine lv_iconst (v := 0) hx hb dL_asks_308 (by decide) ?_
          refine lv_istore (lv' := [(6, .int 0), (5, .int y303_0), (1, .long (((31 : Int64) * (((31 : Int64) * (((31 : Int64) * x98_1) + (Int32.toInt64 y276_0))) + (Int32.toInt64 y285_0))) + (Int32.toInt64 y294_0))), (4, .int x57_4), (3, .int y50_0), (0, .ref a0)]) hx hb dL_asks_309 hl (by decide) rfl (fun ls hl => ?_)
          refine lpW (τ := Int64 × Int32 × MS) (fun k t H locs ls c9 s9 => ∃ (b311 : BX), ((y303_0 : Int32).toInt - (t.2.1 : Int32).toInt).toNat < k ∧ 0 ≤ (t.2.1 : Int32).toInt ∧ b311.2.2.2 = t.2.2 ∧ b311.1 79 = a0 ∧ BL_ b311 ∧ XI Bd (t.2.2) ∧ va_K D vwCl ([] ++ BWT b311) s ∧ va_P D vwCl ([] ++ BWW ad b311) H ∧ va_D A ([] ++ BWW ad b311) ∧ va_S A s.heap H locs ∧ lv_has ls 7 [(6, .int t.2.1), (5, .int y303_0), (1, .long t.1), (4, .int x57_4), (3, .int y50_0), (0, .ref a0)] ∧ FF9 = adc c9 s9 (L_L_asks_311 x57_4 (L_L_asks_57 y50_0 k_8) y303_0 k t.1 t.2.1 t.2.2)) (fun t H locs ls c9 s9 h9 => (by obtain ⟨_, h8, _⟩ := h9; exact absurd h8 (Nat.not_lt_zero _))) (fun k_30 ih t H locs ls c_30 s_30 hI => ?_) (((y303_0 : Int32).toInt - (0 : Int32).toInt).toNat + 1) ((((31 : Int64) * (((31 : Int64) * (((31 : Int64) * x98_1) + (Int32.toInt64 y276_0))) + (Int32.toInt64 y285_0))) + (Int32.toInt64 y294_0)), 0, y303_1) ⟨b_29, Nat.lt_succ_self _, (show 0 ≤ (0 : Int32).toInt from (by decide +kernel)), hM9_29, hb9_29, hBL_29, XI.mono hXI_29 (show Bd ≤ Bd from (by have y0 := f_le c_6; have y1 := f_nle c_9; have y2 := f_le c_23; have y3 := f_le c_25; have z0 := hBd; have z1 := hz_5; have z2 := hz_8; have z3 := hz_22; have z4 := hz_24; have e_6 : (6 : Int32).toInt = 6 := (by decide +kernel); have e_9 : (9 : Int32).toInt = 9 := (by decide +kernel); omega)), hK, hP, hD, hS, (by exact hl), hM⟩
          obtain ⟨x311_1, x311_6, x311_t⟩ := t
          obtain ⟨b311, hk_30, hz_30, hM9_311, hb9_311, hBL_311, hXI_311, hK, hP, hD, hS, hl, hM⟩ := hI
          have hK : va_K D vwCl ([] ++ BWT b311) s := hK
          have hM9_311 : b311.2.2.2 = x311_t := hM9_311
          have hXI_311 : XI Bd x311_t := hXI_311
          have hP : va_P D vwCl ([] ++ BWW ad b311) H := hP
          have hD : va_D A ([] ++ BWW ad b311) := hD
          have hl : lv_has ls 7 [(6, .int x311_6), (5, .int y303_0), (1, .long x311_1), (4, .int x57_4), (3, .int y50_0), (0, .ref a0)] := hl
          have hz_30 : 0 ≤ (x311_6 : Int32).toInt := hz_30
          have hk_30 : ((y303_0 : Int32).toInt - (x311_6 : Int32).toInt).toNat < k_30 + 1 := hk_30
          have hM : FF9 = (adc c_30 s_30 (if y303_0 ≤ x311_6 then ((L_L_asks_57 y50_0 k_8) x311_1 (x57_4 + 1) x311_t) else (K_L_asks_326 x311_1 x311_6 (L_L_asks_311 x57_4 (L_L_asks_57 y50_0 k_8) y303_0 k_30) (F_L_character x311_t x311_6)))) := hM
          have ih_30 := ih
          refine lv_iload hx hb dL_asks_311 (lv_at hl 0 rfl) ?_
          refine lv_iload hx hb dL_asks_313 (lv_at hl 1 rfl) ?_
          refine lv_icmp_ge (tgt := 338) hx hb dL_asks_315 (by decide) (fun c_31 => ?_) (fun c_31 => ?_)
          · rw [if_pos c_31] at hM
            refine lv_iinc (v := (x57_4 + 1)) (lv' := [(4, .int (x57_4 + 1)), (6, .int x311_6), (5, .int y303_0), (1, .long x311_1), (3, .int y50_0), (0, .ref a0)]) hx hb dL_asks_338 hl (k := 3) rfl rfl (by decide) rfl (fun ls hl => ?_)
            refine lv_goto (tgt := 57) hx hb dL_asks_341 (by decide) ?_
            exact ih_8 (x311_1, (x57_4 + 1), x311_t) _ _ _ _ _ ⟨b311, lp_up hk_8 c_9, lp_up0 hz_8 c_9, hM9_311, hb9_311, hBL_311, XI.mono hXI_311 (show Bd ≤ Bd from (by have y0 := f_le c_6; have y1 := f_nle c_9; have y2 := f_le c_23; have y3 := f_le c_25; have y4 := f_le c_31; have z0 := hBd; have z1 := hz_5; have z2 := hz_8; have z3 := hz_22; have z4 := hz_24; have z5 := hz_30; have e_6 : (6 : Int32).toInt = 6 := (by decide +kernel); have e_9 : (9 : Int32).toInt = 9 := (by decide +kernel); omega)), hK, hP, hD, hS, lv_sub hl [0, 4, 3, 5] rfl, hM⟩
          · rw [if_neg c_31] at hM
            refine lv_ldc2 (own := RL) hx hb hown (hts (.constantLong RL 174 (31)) (List.mem_of_getElem? (i := 1) (by decide +kernel))) dL_asks_318 ?_
            refine lv_lload_n hx hb dL_asks_321 rfl (lv_at hl 2 rfl) ?_
            refine lv_lmul hx hb dL_asks_322 ?_
            refine lv_aload_n hx hb dL_asks_323 rfl (lv_at hl 5 rfl) ?_
            refine lv_iload hx hb dL_asks_324 (lv_at hl 0 rfl) ?_
            have hcon := (bl_L_character l hl0 D ad H.size b311 hBL_311 a0 hb9_311 x311_t hM9_311 Bd hXI_311 (show Bd ≤ 900000 from (by have y0 := f_le c_6; have y1 := f_nle c_9; have y2 := f_le c_23; have y3 := f_le c_25; have y4 := f_nle c_31; have z0 := hBd; have z1 := hz_5; have z2 := hz_8; have z3 := hz_22; have z4 := hz_24; have z5 := hz_30; have e_6 : (6 : Int32).toInt = 6 := (by decide +kernel); have e_9 : (9 : Int32).toInt = 9 := (by decide +kernel); omega)) x311_6)
            generalize hy_32 : (F_L_character x311_t x311_6) = y9 at hcon hM
            obtain ⟨y326_0, y326_1, y326_2, y326_3⟩ := y9
            have hM : FF9 = (adc c_30 s_30 (adc y326_2 y326_3 ((L_L_asks_311 x57_4 (L_L_asks_57 y50_0 k_8) y303_0 k_30) (((31 : Int64) * x311_1) + (Int32.toInt64 y326_0)) (x311_6 + 1) y326_1))) := hM
            refine kwb_ [] [] (vx_runSW (As := [.ref a0, .int x311_6]) (rest := [.long ((31 : Int64) * x311_1)]) ⟨hx, hb, hml, hown, hts⟩ hcon (vx_cwSW 2 hts gL_asks_L_character rfl rfl rfl (by decide +kernel) ⟨Nat.le_of_ble_eq_true rfl, Nat.le_of_ble_eq_true rfl⟩) ⟨PC_.blind, lw_pre (X := []) (Y := []) hF hK hP hD hS hA⟩ rfl rfl hl.1 rfl (lv_room (Nat.le_of_ble_eq_true rfl)) dL_asks_326 ⟨(adc_r1 hM), (adc_s1 hM)⟩) hK hP hD hS hA (fun b_32 H locs hpo hP hD hK hS => ?_)
            have hM : FF9 = (adc (c_30 + y326_2) (s_30 + y326_3) ((L_L_asks_311 x57_4 (L_L_asks_57 y50_0 k_8) y303_0 k_30) (((31 : Int64) * x311_1) + (Int32.toInt64 y326_0)) (x311_6 + 1) y326_1)) := hM.trans (adc_adc _ _ _ _ _)
            obtain ⟨hM9_32, hb9_32, hBL_32, hXI_32⟩ := hpo
            have hM9_32 : b_32.2.2.2 = y326_1 := hM9_32
            have hXI_32 : XI Bd y326_1 := hXI_32
            have hP : va_P D vwCl ([] ++ BWW ad b_32) H := hP
            have hD : va_D A ([] ++ BWW ad b_32) := hD
            have hK : va_K D vwCl ([] ++ BWT b_32) s := hK
            refine W.eq (g2 := F0 m 329 ls [.int y326_0, .long ((31 : Int64) * x311_1)]) rfl ?_
            refine lv_i2l (v := (Int32.toInt64 y326_0)) hx hb dL_asks_329 rfl ?_
            refine lv_ladd hx hb dL_asks_330 ?_
            refine lv_lstore_n (lv' := [(1, .long (((31 : Int64) * x311_1) + (Int32.toInt64 y326_0))), (6, .int x311_6), (5, .int y303_0), (4, .int x57_4), (3, .int y50_0), (0, .ref a0)]) hx hb dL_asks_331 rfl hl (by decide) rfl (fun ls hl => ?_)
            refine lv_iinc (v := (x311_6 + 1)) (lv' := [(6, .int (x311_6 + 1)), (1, .long (((31 : Int64) * x311_1) + (Int32.toInt64 y326_0))), (5, .int y303_0), (4, .int x57_4), (3, .int y50_0), (0, .ref a0)]) hx hb dL_asks_332 hl (k := 1) rfl rfl (by decide) rfl (fun ls hl => ?_)
            refine lv_goto (tgt := 311) hx hb dL_asks_335 (by decide) ?_
            exact ih_30 ((((31 : Int64) * x311_1) + (Int32.toInt64 y326_0)), (x311_6 + 1), y326_1) _ _ _ _ _ ⟨b_32, lp_up hk_30 c_31, lp_up0 hz_30 c_31, hM9_32, hb9_32, hBL_32, XI.mono hXI_32 (show Bd ≤ Bd from (by have y0 := f_le c_6; have y1 := f_nle c_9; have y2 := f_le c_23; have y3 := f_le c_25; have y4 := f_nle c_31; have z0 := hBd; have z1 := hz_5; have z2 := hz_8; have z3 := hz_22; have z4 := hz_24; have z5 := hz_30; have e_6 : (6 : Int32).toInt = 6 := (by decide +kernel); have e_9 : (9 : Int32).toInt = 9 := (by decide +kernel); omega)), hK, hP, hD, hS, lv_sub hl [0, 2, 1, 3, 4, 5] rfl, hM⟩
        · rw [if_neg c_25] at hM
          refine lv_ldc2 (own := RL) hx hb hown (hts (.constantLong RL 174 (31)) (List.mem_of_getElem? (i := 1) (by decide +kernel))) dL_asks_104 ?_
          refine lv_ldc2 (own := RL) hx hb hown (hts (.constantLong RL 174 (31)) (List.mem_of_getElem? (i := 1) (by decide +kernel))) dL_asks_107 ?_
          refine lv_ldc2 (own := RL) hx hb hown (hts (.constantLong RL 174 (31)) (List.mem_of_getElem? (i := 1) (by decide +kernel))) dL_asks_110 ?_
          refine lv_ldc2 (own := RL) hx hb hown (hts (.constantLong RL 174 (31)) (List.mem_of_getElem? (i := 1) (by decide +kernel))) dL_asks_113 ?_
          refine lv_ldc2 (own := RL) hx hb hown (hts (.constantLong RL 174 (31)) (List.mem_of_getElem? (i := 1) (by decide +kernel))) dL_asks_116 ?_
          refine lv_ldc2 (own := RL) hx hb hown (hts (.constantLong RL 174 (31)) (List.mem_of_getElem? (i := 1) (by decide +kernel))) dL_asks_119 ?_
          refine lv_lload_n hx hb dL_asks_122 rfl (lv_at hl 3 rfl) ?_
          refine lv_lmul hx hb dL_asks_123 ?_
          refine lv_aload_n hx hb dL_asks_124 rfl (lv_at hl 4 rfl) ?_
          refine lv_iload hx hb dL_asks_125 (lv_at hl 1 rfl) ?_
          refine lv_iload hx hb dL_asks_127 (lv_at hl 0 rfl) ?_
          have hcon := (bl_L_cost l hl0 D ad H.size b98 hBL_98 a0 hb9_98 x98_t hM9_98 Bd hXI_98 (show Bd ≤ 900000 from (by have y0 := f_le c_6; have y1 := f_nle c_9; have y2 := f_le c_23; have y3 := f_nle c_25; have z0 := hBd; have z1 := hz_5; have z2 := hz_8; have z3 := hz_22; have z4 := hz_24; have e_6 : (6 : Int32).toInt = 6 := (by decide +kernel); have e_9 : (9 : Int32).toInt = 9 := (by decide +kernel); omega)) x57_4 x98_5)
          generalize hy_33 : (F_L_cost x98_t x57_4 x98_5) = y9 at hcon hM
          obtain ⟨y129_0, y129_1, y129_2, y129_3⟩ := y9
          have hM : FF9 = (adc c_24 s_24 (adc y129_2 y129_3 (K_L_asks_140 y50_0 x57_4 x98_1 x98_5 (L_L_asks_98 y50_0 x57_4 (L_L_asks_57 y50_0 k_8) k_24) y129_0 (F_L_distance y129_1 x57_4 x98_5)))) := hM
          refine kwb_ [] [] (lw_runSW (As := [.ref a0, .int x57_4, .int x98_5]) (rest := [.long ((31 : Int64) * x98_1), .long (31 : Int64), .long (31 : Int64), .long (31 : Int64), .long (31 : Int64), .long (31 : Int64)]) ⟨hx, hb, hml, hown, hts⟩ hcon (vx_cwSW 3 hts gL_asks_L_cost rfl rfl rfl (by decide +kernel) ⟨Nat.le_of_ble_eq_true rfl, Nat.le_of_ble_eq_true rfl⟩) (Nat.le_of_ble_eq_true rfl) ⟨PC_.blind, lw_pre (X := []) (Y := []) hF hK hP hD hS hA⟩ rfl rfl hl.1 rfl (lw_room16 (Nat.le_of_ble_eq_true rfl)) dL_asks_129 ⟨(adc_r1 hM), (adc_s1 hM)⟩) hK hP hD hS hA (fun b_33 H locs hpo hP hD hK hS => ?_)
          have hM : FF9 = (adc (c_24 + y129_2) (s_24 + y129_3) (K_L_asks_140 y50_0 x57_4 x98_1 x98_5 (L_L_asks_98 y50_0 x57_4 (L_L_asks_57 y50_0 k_8) k_24) y129_0 (F_L_distance y129_1 x57_4 x98_5))) := hM.trans (adc_adc _ _ _ _ _)
          obtain ⟨hM9_33, hb9_33, hBL_33, hXI_33⟩ := hpo
          have hM9_33 : b_33.2.2.2 = y129_1 := hM9_33
          have hXI_33 : XI Bd y129_1 := hXI_33
          have hP : va_P D vwCl ([] ++ BWW ad b_33) H := hP
          have hD : va_D A ([] ++ BWW ad b_33) := hD
          have hK : va_K D vwCl ([] ++ BWT b_33) s := hK
          refine W.eq (g2 := F0 m 132 ls [.int y129_0, .long ((31 : Int64) * x98_1), .long (31 : Int64), .long (31 : Int64), .long (31 : Int64), .long (31 : Int64), .long (31 : Int64)]) rfl ?_
          refine lv_i2l (v := (Int32.toInt64 y129_0)) hx hb dL_asks_132 rfl ?_
          refine lv_ladd hx hb dL_asks_133 ?_
          refine lv_lmul hx hb dL_asks_134 ?_
          refine lv_aload_n hx hb dL_asks_135 rfl (lv_at hl 4 rfl) ?_
          refine lv_iload hx hb dL_asks_136 (lv_at hl 1 rfl) ?_
          refine lv_iload hx hb dL_asks_138 (lv_at hl 0 rfl) ?_
          have hcon := (bl_L_distance l hl0 D ad H.size b_33 hBL_33 a0 hb9_33 y129_1 hM9_33 Bd hXI_33 (show Bd ≤ 900000 from (by have y0 := f_le c_6; have y1 := f_nle c_9; have y2 := f_le c_23; have y3 := f_nle c_25; have z0 := hBd; have z1 := hz_5; have z2 := hz_8; have z3 := hz_22; have z4 := hz_24; have e_6 : (6 : Int32).toInt = 6 := (by decide +kernel); have e_9 : (9 : Int32).toInt = 9 := (by decide +kernel); omega)) x57_4 x98_5)
          generalize hy_34 : (F_L_distance y129_1 x57_4 x98_5) = y9 at hcon hM
          obtain ⟨y140_0, y140_1, y140_2, y140_3⟩ := y9
          have hM : FF9 = (adc (c_24 + y129_2) (s_24 + y129_3) (adc y140_2 y140_3 (K_L_asks_151 y50_0 x57_4 x98_1 x98_5 (L_L_asks_98 y50_0 x57_4 (L_L_asks_57 y50_0 k_8) k_24) y129_0 y140_0 (F_L_distanceAgain y140_1 x57_4 x98_5)))) := hM
          refine kwb_ [] [] (lw_runSW (As := [.ref a0, .int x57_4, .int x98_5]) (rest := [.long ((31 : Int64) * (((31 : Int64) * x98_1) + (Int32.toInt64 y129_0))), .long (31 : Int64), .long (31 : Int64), .long (31 : Int64), .long (31 : Int64)]) ⟨hx, hb, hml, hown, hts⟩ hcon (vx_cwSW 3 hts gL_asks_L_distance rfl rfl rfl (by decide +kernel) ⟨Nat.le_of_ble_eq_true rfl, Nat.le_of_ble_eq_true rfl⟩) (Nat.le_of_ble_eq_true rfl) ⟨PC_.blind, lw_pre (X := []) (Y := []) hF hK hP hD hS hA⟩ rfl rfl hl.1 rfl (lw_room16 (Nat.le_of_ble_eq_true rfl)) dL_asks_140 ⟨(adc_r1 hM), (adc_s1 hM)⟩) hK hP hD hS hA (fun b_34 H locs hpo hP hD hK hS => ?_)
          have hM : FF9 = (adc ((c_24 + y129_2) + y140_2) ((s_24 + y129_3) + y140_3) (K_L_asks_151 y50_0 x57_4 x98_1 x98_5 (L_L_asks_98 y50_0 x57_4 (L_L_asks_57 y50_0 k_8) k_24) y129_0 y140_0 (F_L_distanceAgain y140_1 x57_4 x98_5))) := hM.trans (adc_adc _ _ _ _ _)
          obtain ⟨hM9_34, hb9_34, hBL_34, hXI_34⟩ := hpo
          have hM9_34 : b_34.2.2.2 = y140_1 := hM9_34
          have hXI_34 : XI Bd y140_1 := hXI_34
          have hP : va_P D vwCl ([] ++ BWW ad b_34) H := hP
          have hD : va_D A ([] ++ BWW ad b_34) := hD
          have hK : va_K D vwCl ([] ++ BWT b_34) s := hK
          refine W.eq (g2 := F0 m 143 ls [.int y140_0, .long ((31 : Int64) * (((31 : Int64) * x98_1) + (Int32.toInt64 y129_0))), .long (31 : Int64), .long (31 : Int64), .long (31 : Int64), .long (31 : Int64)]) rfl ?_
          refine lv_i2l (v := (Int32.toInt64 y140_0)) hx hb dL_asks_143 rfl ?_
          refine lv_ladd hx hb dL_asks_144 ?_
          refine lv_lmul hx hb dL_asks_145 ?_
          refine lv_aload_n hx hb dL_asks_146 rfl (lv_at hl 4 rfl) ?_
          refine lv_iload hx hb dL_asks_147 (lv_at hl 1 rfl) ?_
          refine lv_iload hx hb dL_asks_149 (lv_at hl 0 rfl) ?_
          have hcon := (bl_L_distanceAgain l hl0 D ad H.size b_34 hBL_34 a0 hb9_34 y140_1 hM9_34 Bd hXI_34 (show Bd ≤ 900000 from (by have y0 := f_le c_6; have y1 := f_nle c_9; have y2 := f_le c_23; have y3 := f_nle c_25; have z0 := hBd; have z1 := hz_5; have z2 := hz_8; have z3 := hz_22; have z4 := hz_24; have e_6 : (6 : Int32).toInt = 6 := (by decide +kernel); have e_9 : (9 : Int32).toInt = 9 := (by decide +kernel); omega)) x57_4 x98_5)
          generalize hy_35 : (F_L_distanceAgain y140_1 x57_4 x98_5) = y9 at hcon hM
          obtain ⟨y151_0, y151_1, y151_2, y151_3⟩ := y9
          have hM : FF9 = (adc ((c_24 + y129_2) + y140_2) ((s_24 + y129_3) + y140_3) (adc y151_2 y151_3 (K_L_asks_162 y50_0 x57_4 x98_1 x98_5 (L_L_asks_98 y50_0 x57_4 (L_L_asks_57 y50_0 k_8) k_24) y129_0 y140_0 y151_0 (F_L_next y151_1 x57_4 x98_5)))) := hM
          refine kwb_ [] [] (vx_runSW (As := [.ref a0, .int x57_4, .int x98_5]) (rest := [.long ((31 : Int64) * (((31 : Int64) * (((31 : Int64) * x98_1) + (Int32.toInt64 y129_0))) + (Int32.toInt64 y140_0))), .long (31 : Int64), .long (31 : Int64), .long (31 : Int64)]) ⟨hx, hb, hml, hown, hts⟩ hcon (vx_cwSW 3 hts gL_asks_L_distanceAgain rfl rfl rfl (by decide +kernel) ⟨Nat.le_of_ble_eq_true rfl, Nat.le_of_ble_eq_true rfl⟩) ⟨PC_.blind, lw_pre (X := []) (Y := []) hF hK hP hD hS hA⟩ rfl rfl hl.1 rfl (lv_room (Nat.le_of_ble_eq_true rfl)) dL_asks_151 ⟨(adc_r1 hM), (adc_s1 hM)⟩) hK hP hD hS hA (fun b_35 H locs hpo hP hD hK hS => ?_)
          have hM : FF9 = (adc (((c_24 + y129_2) + y140_2) + y151_2) (((s_24 + y129_3) + y140_3) + y151_3) (K_L_asks_162 y50_0 x57_4 x98_1 x98_5 (L_L_asks_98 y50_0 x57_4 (L_L_asks_57 y50_0 k_8) k_24) y129_0 y140_0 y151_0 (F_L_next y151_1 x57_4 x98_5))) := hM.trans (adc_adc _ _ _ _ _)
          obtain ⟨hM9_35, hb9_35, hBL_35, hXI_35⟩ := hpo
          have hM9_35 : b_35.2.2.2 = y151_1 := hM9_35
          have hXI_35 : XI Bd y151_1 := hXI_35
          have hP : va_P D vwCl ([] ++ BWW ad b_35) H := hP
          have hD : va_D A ([] ++ BWW ad b_35) := hD
          have hK : va_K D vwCl ([] ++ BWT b_35) s := hK
          refine W.eq (g2 := F0 m 154 ls [.int y151_0, .long ((31 : Int64) * (((31 : Int64) * (((31 : Int64) * x98_1) + (Int32.toInt64 y129_0))) + (Int32.toInt64 y140_0))), .long (31 : Int64), .long (31 : Int64), .long (31 : Int64)]) rfl ?_
          refine lv_i2l (v := (Int32.toInt64 y151_0)) hx hb dL_asks_154 rfl ?_
          refine lv_ladd hx hb dL_asks_155 ?_
          refine lv_lmul hx hb dL_asks_156 ?_
          refine lv_aload_n hx hb dL_asks_157 rfl (lv_at hl 4 rfl) ?_
          refine lv_iload hx hb dL_asks_158 (lv_at hl 1 rfl) ?_
          refine lv_iload hx hb dL_asks_160 (lv_at hl 0 rfl) ?_
          have hcon := (bl_L_next l hl0 D ad H.size b_35 hBL_35 a0 hb9_35 y151_1 hM9_35 Bd hXI_35 (show Bd ≤ 900000 from (by have y0 := f_le c_6; have y1 := f_nle c_9; have y2 := f_le c_23; have y3 := f_nle c_25; have z0 := hBd; have z1 := hz_5; have z2 := hz_8; have z3 := hz_22; have z4 := hz_24; have e_6 : (6 : Int32).toInt = 6 := (by decide +kernel); have e_9 : (9 : Int32).toInt = 9 := (by decide +kernel); omega)) x57_4 x98_5)
          generalize hy_36 : (F_L_next y151_1 x57_4 x98_5) = y9 at hcon hM
          obtain ⟨y162_0, y162_1, y162_2, y162_3⟩ := y9
          have hM : FF9 = (adc (((c_24 + y129_2) + y140_2) + y151_2) (((s_24 + y129_3) + y140_3) + y151_3) (adc y162_2 y162_3 (K_L_asks_173 y50_0 x57_4 x98_1 x98_5 (L_L_asks_98 y50_0 x57_4 (L_L_asks_57 y50_0 k_8) k_24) y129_0 y140_0 y151_0 y162_0 (F_L_follow y162_1 x57_4 x98_5)))) := hM
          refine kwb_ [] [] (vx_runSW (As := [.ref a0, .int x57_4, .int x98_5]) (rest := [.long ((31 : Int64) * (((31 : Int64) * (((31 : Int64) * (((31 : Int64) * x98_1) + (Int32.toInt64 y129_0))) + (Int32.toInt64 y140_0))) + (Int32.toInt64 y151_0))), .long (31 : Int64), .long (31 : Int64)]) ⟨hx, hb, hml, hown, hts⟩ hcon (vx_cwSW 3 hts gL_asks_L_next rfl rfl rfl (by decide +kernel) ⟨Nat.le_of_ble_eq_true rfl, Nat.le_of_ble_eq_true rfl⟩) ⟨PC_.blind, lw_pre (X := []) (Y := []) hF hK hP hD hS hA⟩ rfl rfl hl.1 rfl (lv_room (Nat.le_of_ble_eq_true rfl)) dL_asks_162 ⟨(adc_r1 hM), (adc_s1 hM)⟩) hK hP hD hS hA (fun b_36 H locs hpo hP hD hK hS => ?_)
          have hM : FF9 = (adc ((((c_24 + y129_2) + y140_2) + y151_2) + y162_2) ((((s_24 + y129_3) + y140_3) + y151_3) + y162_3) (K_L_asks_173 y50_0 x57_4 x98_1 x98_5 (L_L_asks_98 y50_0 x57_4 (L_L_asks_57 y50_0 k_8) k_24) y129_0 y140_0 y151_0 y162_0 (F_L_follow y162_1 x57_4 x98_5))) := hM.trans (adc_adc _ _ _ _ _)
          obtain ⟨hM9_36, hb9_36, hBL_36, hXI_36⟩ := hpo
          have hM9_36 : b_36.2.2.2 = y162_1 := hM9_36
          have hXI_36 : XI Bd y162_1 := hXI_36
          have hP : va_P D vwCl ([] ++ BWW ad b_36) H := hP
          have hD : va_D A ([] ++ BWW ad b_36) := hD
          have hK : va_K D vwCl ([] ++ BWT b_36) s := hK
          refine W.eq (g2 := F0 m 165 ls [.int y162_0, .long ((31 : Int64) * (((31 : Int64) * (((31 : Int64) * (((31 : Int64) * x98_1) + (Int32.toInt64 y129_0))) + (Int32.toInt64 y140_0))) + (Int32.toInt64 y151_0))), .long (31 : Int64), .long (31 : Int64)]) rfl ?_
          refine lv_i2l (v := (Int32.toInt64 y162_0)) hx hb dL_asks_165 rfl ?_
          refine lv_ladd hx hb dL_asks_166 ?_
          refine lv_lmul hx hb dL_asks_167 ?_
          refine lv_aload_n hx hb dL_asks_168 rfl (lv_at hl 4 rfl) ?_
          refine lv_iload hx hb dL_asks_169 (lv_at hl 1 rfl) ?_
          refine lv_iload hx hb dL_asks_171 (lv_at hl 0 rfl) ?_
          have hcon := (bl_L_follow l hl0 D ad H.size b_36 hBL_36 a0 hb9_36 y162_1 hM9_36 Bd hXI_36 (show Bd ≤ 900000 from (by have y0 := f_le c_6; have y1 := f_nle c_9; have y2 := f_le c_23; have y3 := f_nle c_25; have z0 := hBd; have z1 := hz_5; have z2 := hz_8; have z3 := hz_22; have z4 := hz_24; have e_6 : (6 : Int32).toInt = 6 := (by decide +kernel); have e_9 : (9 : Int32).toInt = 9 := (by decide +kernel); omega)) x57_4 x98_5)
          generalize hy_37 : (F_L_follow y162_1 x57_4 x98_5) = y9 at hcon hM
          obtain ⟨y173_0, y173_1, y173_2, y173_3⟩ := y9
          have hM : FF9 = (adc ((((c_24 + y129_2) + y140_2) + y151_2) + y162_2) ((((s_24 + y129_3) + y140_3) + y151_3) + y162_3) (adc y173_2 y173_3 (K_L_asks_184 y50_0 x57_4 x98_1 x98_5 (L_L_asks_98 y50_0 x57_4 (L_L_asks_57 y50_0 k_8) k_24) y129_0 y140_0 y151_0 y162_0 y173_0 (F_L_real y173_1 x57_4 x98_5)))) := hM
          refine kwb_ [] [] (vx_runSW (As := [.ref a0, .int x57_4, .int x98_5]) (rest := [.long ((31 : Int64) * (((31 : Int64) * (((31 : Int64) * (((31 : Int64) * (((31 : Int64) * x98_1) + (Int32.toInt64 y129_0))) + (Int32.toInt64 y140_0))) + (Int32.toInt64 y151_0))) + (Int32.toInt64 y162_0))), .long (31 : Int64)]) ⟨hx, hb, hml, hown, hts⟩ hcon (vx_cwSW 3 hts gL_asks_L_follow rfl rfl rfl (by decide +kernel) ⟨Nat.le_of_ble_eq_true rfl, Nat.le_of_ble_eq_true rfl⟩) ⟨PC_.blind, lw_pre (X := []) (Y := []) hF hK hP hD hS hA⟩ rfl rfl hl.1 rfl (lv_room (Nat.le_of_ble_eq_true rfl)) dL_asks_173 ⟨(adc_r1 hM), (adc_s1 hM)⟩) hK hP hD hS hA (fun b_37 H locs hpo hP hD hK hS => ?_)
          have hM : FF9 = (adc (((((c_24 + y129_2) + y140_2) + y151_2) + y162_2) + y173_2) (((((s_24 + y129_3) + y140_3) + y151_3) + y162_3) + y173_3) (K_L_asks_184 y50_0 x57_4 x98_1 x98_5 (L_L_asks_98 y50_0 x57_4 (L_L_asks_57 y50_0 k_8) k_24) y129_0 y140_0 y151_0 y162_0 y173_0 (F_L_real y173_1 x57_4 x98_5))) := hM.trans (adc_adc _ _ _ _ _)
          obtain ⟨hM9_37, hb9_37, hBL_37, hXI_37⟩ := hpo
          have hM9_37 : b_37.2.2.2 = y173_1 := hM9_37
          have hXI_37 : XI Bd y173_1 := hXI_37
          have hP : va_P D vwCl ([] ++ BWW ad b_37) H := hP
          have hD : va_D A ([] ++ BWW ad b_37) := hD
          have hK : va_K D vwCl ([] ++ BWT b_37) s := hK
          refine W.eq (g2 := F0 m 176 ls [.int y173_0, .long ((31 : Int64) * (((31 : Int64) * (((31 : Int64) * (((31 : Int64) * (((31 : Int64) * x98_1) + (Int32.toInt64 y129_0))) + (Int32.toInt64 y140_0))) + (Int32.toInt64 y151_0))) + (Int32.toInt64 y162_0))), .long (31 : Int64)]) rfl ?_
          refine lv_i2l (v := (Int32.toInt64 y173_0)) hx hb dL_asks_176 rfl ?_
          refine lv_ladd hx hb dL_asks_177 ?_
          refine lv_lmul hx hb dL_asks_178 ?_
          refine lv_aload_n hx hb dL_asks_179 rfl (lv_at hl 4 rfl) ?_
          refine lv_iload hx hb dL_asks_180 (lv_at hl 1 rfl) ?_
          refine lv_iload hx hb dL_asks_182 (lv_at hl 0 rfl) ?_
          have hcon := (bl_L_real l hl0 D ad H.size b_37 hBL_37 a0 hb9_37 y173_1 hM9_37 Bd hXI_37 (show Bd ≤ 900000 from (by have y0 := f_le c_6; have y1 := f_nle c_9; have y2 := f_le c_23; have y3 := f_nle c_25; have z0 := hBd; have z1 := hz_5; have z2 := hz_8; have z3 := hz_22; have z4 := hz_24; have e_6 : (6 : Int32).toInt = 6 := (by decide +kernel); have e_9 : (9 : Int32).toInt = 9 := (by decide +kernel); omega)) x57_4 x98_5)
          generalize hy_38 : (F_L_real y173_1 x57_4 x98_5) = y9 at hcon hM
          obtain ⟨y184_0, y184_1, y184_2, y184_3⟩ := y9
          have hM : FF9 = (adc (((((c_24 + y129_2) + y140_2) + y151_2) + y162_2) + y173_2) (((((s_24 + y129_3) + y140_3) + y151_3) + y162_3) + y173_3) (adc y184_2 y184_3 (L_L_asks_193 y50_0 x57_4 x98_5 (L_L_asks_98 y50_0 x57_4 (L_L_asks_57 y50_0 k_8) k_24) (((3 : Int32).toInt - (0 : Int32).toInt).toNat + 1) (((31 : Int64) * (((31 : Int64) * (((31 : Int64) * (((31 : Int64) * (((31 : Int64) * (((31 : Int64) * x98_1) + (Int32.toInt64 y129_0))) + (Int32.toInt64 y140_0))) + (Int32.toInt64 y151_0))) + (Int32.toInt64 y162_0))) + (Int32.toInt64 y173_0))) + (Int32.toInt64 y184_0)) 0 y184_1))) := hM
          refine kwb_ [] [] (vx_runSW (As := [.ref a0, .int x57_4, .int x98_5]) (rest := [.long ((31 : Int64) * (((31 : Int64) * (((31 : Int64) * (((31 : Int64) * (((31 : Int64) * (((31 : Int64) * x98_1) + (Int32.toInt64 y129_0))) + (Int32.toInt64 y140_0))) + (Int32.toInt64 y151_0))) + (Int32.toInt64 y162_0))) + (Int32.toInt64 y173_0)))]) ⟨hx, hb, hml, hown, hts⟩ hcon (vx_cwSW 3 hts gL_asks_L_real rfl rfl rfl (by decide +kernel) ⟨Nat.le_of_ble_eq_true rfl, Nat.le_of_ble_eq_true rfl⟩) ⟨PC_.blind, lw_pre (X := []) (Y := []) hF hK hP hD hS hA⟩ rfl rfl hl.1 rfl (lv_room (Nat.le_of_ble_eq_true rfl)) dL_asks_184 ⟨(adc_r1 hM), (adc_s1 hM)⟩) hK hP hD hS hA (fun b_38 H locs hpo hP hD hK hS => ?_)
          have hM : FF9 = (adc ((((((c_24 + y129_2) + y140_2) + y151_2) + y162_2) + y173_2) + y184_2) ((((((s_24 + y129_3) + y140_3) + y151_3) + y162_3) + y173_3) + y184_3) (L_L_asks_193 y50_0 x57_4 x98_5 (L_L_asks_98 y50_0 x57_4 (L_L_asks_57 y50_0 k_8) k_24) (((3 : Int32).toInt - (0 : Int32).toInt).toNat + 1) (((31 : Int64) * (((31 : Int64) * (((31 : Int64) * (((31 : Int64) * (((31 : Int64) * (((31 : Int64) * x98_1) + (Int32.toInt64 y129_0))) + (Int32.toInt64 y140_0))) + (Int32.toInt64 y151_0))) + (Int32.toInt64 y162_0))) + (Int32.toInt64 y173_0))) + (Int32.toInt64 y184_0)) 0 y184_1)) := hM.trans (adc_adc _ _ _ _ _)
          obtain ⟨hM9_38, hb9_38, hBL_38, hXI_38⟩ := hpo
          have hM9_38 : b_38.2.2.2 = y184_1 := hM9_38
          have hXI_38 : XI Bd y184_1 := hXI_38
          have hP : va_P D vwCl ([] ++ BWW ad b_38) H := hP
          have hD : va_D A ([] ++ BWW ad b_38) := hD
          have hK : va_K D vwCl ([] ++ BWT b_38) s := hK
          refine W.eq (g2 := F0 m 187 ls [.int y184_0, .long ((31 : Int64) * (((31 : Int64) * (((31 : Int64) * (((31 : Int64) * (((31 : Int64) * (((31 : Int64) * x98_1) + (Int32.toInt64 y129_0))) + (Int32.toInt64 y140_0))) + (Int32.toInt64 y151_0))) + (Int32.toInt64 y162_0))) + (Int32.toInt64 y173_0)))]) rfl ?_
          refine lv_i2l (v := (Int32.toInt64 y184_0)) hx hb dL_asks_187 rfl ?_
          refine lv_ladd hx hb dL_asks_188 ?_
          refine lv_lstore_n (lv' := [(1, .long (((31 : Int64) * (((31 : Int64) * (((31 : Int64) * (((31 : Int64) * (((31 : Int64) * (((31 : Int64) * x98_1) + (Int32.toInt64 y129_0))) + (Int32.toInt64 y140_0))) + (Int32.toInt64 y151_0))) + (Int32.toInt64 y162_0))) + (Int32.toInt64 y173_0))) + (Int32.toInt64 y184_0))), (5, .int x98_5), (4, .int x57_4), (3, .int y50_0), (0, .ref a0)]) hx hb dL_asks_189 rfl hl (by decide) rfl (fun ls hl => ?_)
          refine lv_iconst (v := 0) hx hb dL_asks_190 (by decide) ?_
          refine lv_istore (lv' := [(6, .int 0), (1, .long (((31 : Int64) * (((31 : Int64) * (((31 : Int64) * (((31 : Int64) * (((31 : Int64) * (((31 : Int64) * x98_1) + (Int32.toInt64 y129_0))) + (Int32.toInt64 y140_0))) + (Int32.toInt64 y151_0))) + (Int32.toInt64 y162_0))) + (Int32.toInt64 y173_0))) + (Int32.toInt64 y184_0))), (5, .int x98_5), (4, .int x57_4), (3, .int y50_0), (0, .ref a0)]) hx hb dL_asks_191 hl (by decide) rfl (fun ls hl => ?_)
          refine lpW (τ := Int64 × Int32 × MS) (fun k t H locs ls c9 s9 => ∃ (b193 : BX), ((3 : Int32).toInt - (t.2.1 : Int32).toInt).toNat < k ∧ 0 ≤ (t.2.1 : Int32).toInt ∧ b193.2.2.2 = t.2.2 ∧ b193.1 79 = a0 ∧ BL_ b193 ∧ XI Bd (t.2.2) ∧ va_K D vwCl ([] ++ BWT b193) s ∧ va_P D vwCl ([] ++ BWW ad b193) H ∧ va_D A ([] ++ BWW ad b193) ∧ va_S A s.heap H locs ∧ lv_has ls 7 [(6, .int t.2.1), (1, .long t.1), (5, .int x98_5), (4, .int x57_4), (3, .int y50_0), (0, .ref a0)] ∧ FF9 = adc c9 s9 (L_L_asks_193 y50_0 x57_4 x98_5 (L_L_asks_98 y50_0 x57_4 (L_L_asks_57 y50_0 k_8) k_24) k t.1 t.2.1 t.2.2)) (fun t H locs ls c9 s9 h9 => (by obtain ⟨_, h8, _⟩ := h9; exact absurd h8 (Nat.not_lt_zero _))) (fun k_39 ih t H locs ls c_39 s_39 hI => ?_) (((3 : Int32).toInt - (0 : Int32).toInt).toNat + 1) ((((31 : Int64) * (((31 : Int64) * (((31 : Int64) * (((31 : Int64) * (((31 : Int64) * (((31 : Int64) * x98_1) + (Int32.toInt64 y129_0))) + (Int32.toInt64 y140_0))) + (Int32.toInt64 y151_0))) + (Int32.toInt64 y162_0))) + (Int32.toInt64 y173_0))) + (Int32.toInt64 y184_0)), 0, y184_1) ⟨b_38, Nat.lt_succ_self _, (show 0 ≤ (0 : Int32).toInt from (by decide +kernel)), hM9_38, hb9_38, hBL_38, XI.mono hXI_38 (show Bd ≤ Bd from (by have y0 := f_le c_6; have y1 := f_nle c_9; have y2 := f_le c_23; have y3 := f_nle c_25; have z0 := hBd; have z1 := hz_5; have z2 := hz_8; have z3 := hz_22; have z4 := hz_24; have e_6 : (6 : Int32).toInt = 6 := (by decide +kernel); have e_9 : (9 : Int32).toInt = 9 := (by decide +kernel); omega)), hK, hP, hD, hS, (by exact hl), hM⟩
          obtain ⟨x193_1, x193_6, x193_t⟩ := t
          obtain ⟨b193, hk_39, hz_39, hM9_193, hb9_193, hBL_193, hXI_193, hK, hP, hD, hS, hl, hM⟩ := hI
          have hK : va_K D vwCl ([] ++ BWT b193) s := hK
          have hM9_193 : b193.2.2.2 = x193_t := hM9_193
          have hXI_193 : XI Bd x193_t := hXI_193
          have hP : va_P D vwCl ([] ++ BWW ad b193) H := hP
          have hD : va_D A ([] ++ BWW ad b193) := hD
          have hl : lv_has ls 7 [(6, .int x193_6), (1, .long x193_1), (5, .int x98_5), (4, .int x57_4), (3, .int y50_0), (0, .ref a0)] := hl
          have hz_39 : 0 ≤ (x193_6 : Int32).toInt := hz_39
          have hk_39 : ((3 : Int32).toInt - (x193_6 : Int32).toInt).toNat < k_39 + 1 := hk_39
          have hM : FF9 = (adc c_39 s_39 (if 3 ≤ x193_6 then (L_L_asks_226 y50_0 x57_4 x98_5 (L_L_asks_98 y50_0 x57_4 (L_L_asks_57 y50_0 k_8) k_24) (((y50_0 : Int32).toInt - (0 : Int32).toInt).toNat + 1) x193_1 0 x193_t) else (K_L_asks_211 x193_1 x193_6 (L_L_asks_193 y50_0 x57_4 x98_5 (L_L_asks_98 y50_0 x57_4 (L_L_asks_57 y50_0 k_8) k_24) k_39) (F_L_page x193_t x57_4 x98_5 x193_6)))) := hM
          have ih_39 := ih
          refine lv_iload hx hb dL_asks_193 (lv_at hl 0 rfl) ?_
          refine lv_iconst (v := 3) hx hb dL_asks_195 (by decide) ?_
          refine lv_icmp_ge (tgt := 223) hx hb dL_asks_196 (by decide) (fun c_40 => ?_) (fun c_40 => ?_)
          · rw [if_pos c_40] at hM
            refine lv_iconst (v := 0) hx hb dL_asks_223 (by decide) ?_
            refine lv_istore (lv' := [(6, .int 0), (1, .long x193_1), (5, .int x98_5), (4, .int x57_4), (3, .int y50_0), (0, .ref a0)]) hx hb dL_asks_224 hl (by decide) rfl (fun ls hl => ?_)
            refine lpW (τ := Int64 × Int32 × MS) (fun k t H locs ls c9 s9 => ∃ (b226 : BX), ((y50_0 : Int32).toInt - (t.2.1 : Int32).toInt).toNat < k ∧ 0 ≤ (t.2.1 : Int32).toInt ∧ b226.2.2.2 = t.2.2 ∧ b226.1 79 = a0 ∧ BL_ b226 ∧ XI Bd (t.2.2) ∧ va_K D vwCl ([] ++ BWT b226) s ∧ va_P D vwCl ([] ++ BWW ad b226) H ∧ va_D A ([] ++ BWW ad b226) ∧ va_S A s.heap H locs ∧ lv_has ls 7 [(6, .int t.2.1), (1, .long t.1), (5, .int x98_5), (4, .int x57_4), (3, .int y50_0), (0, .ref a0)] ∧ FF9 = adc c9 s9 (L_L_asks_226 y50_0 x57_4 x98_5 (L_L_asks_98 y50_0 x57_4 (L_L_asks_57 y50_0 k_8) k_24) k t.1 t.2.1 t.2.2)) (fun t H locs ls c9 s9 h9 => (by obtain ⟨_, h8, _⟩ := h9; exact absurd h8 (Nat.not_lt_zero _))) (fun k_41 ih t H locs ls c_41 s_41 hI => ?_) (((y50_0 : Int32).toInt - (0 : Int32).toInt).toNat + 1) (x193_1, 0, x193_t) ⟨b193, Nat.lt_succ_self _, (show 0 ≤ (0 : Int32).toInt from (by decide +kernel)), hM9_193, hb9_193, hBL_193, XI.mono hXI_193 (show Bd ≤ Bd from (by have y0 := f_le c_6; have y1 := f_nle c_9; have y2 := f_le c_23; have y3 := f_nle c_25; have y4 := f_le c_40; have z0 := hBd; have z1 := hz_5; have z2 := hz_8; have z3 := hz_22; have z4 := hz_24; have z5 := hz_39; have e_3 : (3 : Int32).toInt = 3 := (by decide +kernel); have e_6 : (6 : Int32).toInt = 6 := (by decide +kernel); have e_9 : (9 : Int32).toInt = 9 := (by decide +kernel); omega)), hK, hP, hD, hS, (by exact hl), hM⟩
            obtain ⟨x226_1, x226_6, x226_t⟩ := t
            obtain ⟨b226, hk_41, hz_41, hM9_226, hb9_226, hBL_226, hXI_226, hK, hP, hD, hS, hl, hM⟩ := hI
            have hK : va_K D vwCl ([] ++ BWT b226) s := hK
            have hM9_226 : b226.2.2.2 = x226_t := hM9_226
            have hXI_226 : XI Bd x226_t := hXI_226
            have hP : va_P D vwCl ([] ++ BWW ad b226) H := hP
            have hD : va_D A ([] ++ BWW ad b226) := hD
            have hl : lv_has ls 7 [(6, .int x226_6), (1, .long x226_1), (5, .int x98_5), (4, .int x57_4), (3, .int y50_0), (0, .ref a0)] := hl
            have hz_41 : 0 ≤ (x226_6 : Int32).toInt := hz_41
            have hk_41 : ((y50_0 : Int32).toInt - (x226_6 : Int32).toInt).toNat < k_41 + 1 := hk_41
            have hM : FF9 = (adc c_41 s_41 (if y50_0 ≤ x226_6 then ((L_L_asks_98 y50_0 x57_4 (L_L_asks_57 y50_0 k_8) k_24) x226_1 (x98_5 + 1) x226_t) else (K_L_asks_244 x226_1 x226_6 (L_L_asks_226 y50_0 x57_4 x98_5 (L_L_asks_98 y50_0 x57_4 (L_L_asks_57 y50_0 k_8) k_24) k_41) (F_L_told x226_t x57_4 x98_5 x226_6)))) := hM
            have ih_41 := ih
            refine lv_iload hx hb dL_asks_226 (lv_at hl 0 rfl) ?_
            refine lv_iload_n hx hb dL_asks_228 rfl (lv_at hl 4 rfl) ?_
            refine lv_icmp_ge (tgt := 256) hx hb dL_asks_229 (by decide) (fun c_42 => ?_) (fun c_42 => ?_)
            · rw [if_pos c_42] at hM
              refine lv_iinc (v := (x98_5 + 1)) (lv' := [(5, .int (x98_5 + 1)), (6, .int x226_6), (1, .long x226_1), (4, .int x57_4), (3, .int y50_0), (0, .ref a0)]) hx hb dL_asks_256 hl (k := 2) rfl rfl (by decide) rfl (fun ls hl => ?_)
              refine lv_goto (tgt := 98) hx hb dL_asks_259 (by decide) ?_
              exact ih_24 (x226_1, (x98_5 + 1), x226_t) _ _ _ _ _ ⟨b226, lp_up hk_24 c_25, lp_up0 hz_24 c_25, hM9_226, hb9_226, hBL_226, XI.mono hXI_226 (show Bd ≤ Bd from (by have y0 := f_le c_6; have y1 := f_nle c_9; have y2 := f_le c_23; have y3 := f_nle c_25; have y4 := f_le c_40; have y5 := f_le c_42; have z0 := hBd; have z1 := hz_5; have z2 := hz_8; have z3 := hz_22; have z4 := hz_24; have z5 := hz_39; have z6 := hz_41; have e_3 : (3 : Int32).toInt = 3 := (by decide +kernel); have e_6 : (6 : Int32).toInt = 6 := (by decide +kernel); have e_9 : (9 : Int32).toInt = 9 := (by decide +kernel); omega)), hK, hP, hD, hS, lv_sub hl [0, 3, 4, 2, 5] rfl, hM⟩
            · rw [if_neg c_42] at hM
              refine lv_ldc2 (own := RL) hx hb hown (hts (.constantLong RL 174 (31)) (List.mem_of_getElem? (i := 1) (by decide +kernel))) dL_asks_232 ?_
              refine lv_lload_n hx hb dL_asks_235 rfl (lv_at hl 1 rfl) ?_
              refine lv_lmul hx hb dL_asks_236 ?_
              refine lv_aload_n hx hb dL_asks_237 rfl (lv_at hl 5 rfl) ?_
              refine lv_iload hx hb dL_asks_238 (lv_at hl 3 rfl) ?_
              refine lv_iload hx hb dL_asks_240 (lv_at hl 2 rfl) ?_
              refine lv_iload hx hb dL_asks_242 (lv_at hl 0 rfl) ?_
              have hcon := (bl_L_told l hl0 D ad H.size b226 hBL_226 a0 hb9_226 x226_t hM9_226 Bd hXI_226 (show Bd ≤ 900000 from (by have y0 := f_le c_6; have y1 := f_nle c_9; have y2 := f_le c_23; have y3 := f_nle c_25; have y4 := f_le c_40; have y5 := f_nle c_42; have z0 := hBd; have z1 := hz_5; have z2 := hz_8; have z3 := hz_22; have z4 := hz_24; have z5 := hz_39; have z6 := hz_41; have e_3 : (3 : Int32).toInt = 3 := (by decide +kernel); have e_6 : (6 : Int32).toInt = 6 := (by decide +kernel); have e_9 : (9 : Int32).toInt = 9 := (by decide +kernel); omega)) x57_4 x98_5 x226_6)
              generalize hy_43 : (F_L_told x226_t x57_4 x98_5 x226_6) = y9 at hcon hM
              obtain ⟨y244_0, y244_1, y244_2, y244_3⟩ := y9
              have hM : FF9 = (adc c_41 s_41 (adc y244_2 y244_3 ((L_L_asks_226 y50_0 x57_4 x98_5 (L_L_asks_98 y50_0 x57_4 (L_L_asks_57 y50_0 k_8) k_24) k_41) (((31 : Int64) * x226_1) + (Int32.toInt64 y244_0)) (x226_6 + 1) y244_1))) := hM
              refine kwb_ [] [] (vx_runSW (As := [.ref a0, .int x57_4, .int x98_5, .int x226_6]) (rest := [.long ((31 : Int64) * x226_1)]) ⟨hx, hb, hml, hown, hts⟩ hcon (vx_cwSW 4 hts gL_asks_L_told rfl rfl rfl (by decide +kernel) ⟨Nat.le_of_ble_eq_true rfl, Nat.le_of_ble_eq_true rfl⟩) ⟨PC_.blind, lw_pre (X := []) (Y := []) hF hK hP hD hS hA⟩ rfl rfl hl.1 rfl (lv_room (Nat.le_of_ble_eq_true rfl)) dL_asks_244 ⟨(adc_r1 hM), (adc_s1 hM)⟩) hK hP hD hS hA (fun b_43 H locs hpo hP hD hK hS => ?_)
              have hM : FF9 = (adc (c_41 + y244_2) (s_41 + y244_3) ((L_L_asks_226 y50_0 x57_4 x98_5 (L_L_asks_98 y50_0 x57_4 (L_L_asks_57 y50_0 k_8) k_24) k_41) (((31 : Int64) * x226_1) + (Int32.toInt64 y244_0)) (x226_6 + 1) y244_1)) := hM.trans (adc_adc _ _ _ _ _)
              obtain ⟨hM9_43, hb9_43, hBL_43, hXI_43⟩ := hpo
              have hM9_43 : b_43.2.2.2 = y244_1 := hM9_43
              have hXI_43 : XI Bd y244_1 := hXI_43
              have hP : va_P D vwCl ([] ++ BWW ad b_43) H := hP
              have hD : va_D A ([] ++ BWW ad b_43) := hD
              have hK : va_K D vwCl ([] ++ BWT b_43) s := hK
              refine W.eq (g2 := F0 m 247 ls [.int y244_0, .long ((31 : Int64) * x226_1)]) rfl ?_
              refine lv_i2l (v := (Int32.toInt64 y244_0)) hx hb dL_asks_247 rfl ?_
              refine lv_ladd hx hb dL_asks_248 ?_
              refine lv_lstore_n (lv' := [(1, .long (((31 : Int64) * x226_1) + (Int32.toInt64 y244_0))), (6, .int x226_6), (5, .int x98_5), (4, .int x57_4), (3, .int y50_0), (0, .ref a0)]) hx hb dL_asks_249 rfl hl (by decide) rfl (fun ls hl => ?_)
              refine lv_iinc (v := (x226_6 + 1)) (lv' := [(6, .int (x226_6 + 1)), (1, .long (((31 : Int64) * x226_1) + (Int32.toInt64 y244_0))), (5, .int x98_5), (4, .int x57_4), (3, .int y50_0), (0, .ref a0)]) hx hb dL_asks_250 hl (k := 1) rfl rfl (by decide) rfl (fun ls hl => ?_)
              refine lv_goto (tgt := 226) hx hb dL_asks_253 (by decide) ?_
              exact ih_41 ((((31 : Int64) * x226_1) + (Int32.toInt64 y244_0)), (x226_6 + 1), y244_1) _ _ _ _ _ ⟨b_43, lp_up hk_41 c_42, lp_up0 hz_41 c_42, hM9_43, hb9_43, hBL_43, XI.mono hXI_43 (show Bd ≤ Bd from (by have y0 := f_le c_6; have y1 := f_nle c_9; have y2 := f_le c_23; have y3 := f_nle c_25; have y4 := f_le c_40; have y5 := f_nle c_42; have z0 := hBd; have z1 := hz_5; have z2 := hz_8; have z3 := hz_22; have z4 := hz_24; have z5 := hz_39; have z6 := hz_41; have e_3 : (3 : Int32).toInt = 3 := (by decide +kernel); have e_6 : (6 : Int32).toInt = 6 := (by decide +kernel); have e_9 : (9 : Int32).toInt = 9 := (by decide +kernel); omega)), hK, hP, hD, hS, lv_sub hl [0, 1, 2, 3, 4, 5] rfl, hM⟩
          · rw [if_neg c_40] at hM
            refine lv_ldc2 (own := RL) hx hb hown (hts (.constantLong RL 174 (31)) (List.mem_of_getElem? (i := 1) (by decide +kernel))) dL_asks_199 ?_
            refine lv_lload_n hx hb dL_asks_202 rfl (lv_at hl 1 rfl) ?_
            refine lv_lmul hx hb dL_asks_203 ?_
            refine lv_aload_n hx hb dL_asks_204 rfl (lv_at hl 5 rfl) ?_
            refine lv_iload hx hb dL_asks_205 (lv_at hl 3 rfl) ?_
            refine lv_iload hx hb dL_asks_207 (lv_at hl 2 rfl) ?_
            refine lv_iload hx hb dL_asks_209 (lv_at hl 0 rfl) ?_
            have hcon := (bl_L_page l hl0 D ad H.size b193 hBL_193 a0 hb9_193 x193_t hM9_193 Bd hXI_193 (show Bd ≤ 900000 from (by have y0 := f_le c_6; have y1 := f_nle c_9; have y2 := f_le c_23; have y3 := f_nle c_25; have y4 := f_nle c_40; have z0 := hBd; have z1 := hz_5; have z2 := hz_8; have z3 := hz_22; have z4 := hz_24; have z5 := hz_39; have e_3 : (3 : Int32).toInt = 3 := (by decide +kernel); have e_6 : (6 : Int32).toInt = 6 := (by decide +kernel); have e_9 : (9 : Int32).toInt = 9 := (by decide +kernel); omega)) x57_4 x98_5 x193_6)
            generalize hy_44 : (F_L_page x193_t x57_4 x98_5 x193_6) = y9 at hcon hM
            obtain ⟨y211_0, y211_1, y211_2, y211_3⟩ := y9
            have hM : FF9 = (adc c_39 s_39 (adc y211_2 y211_3 ((L_L_asks_193 y50_0 x57_4 x98_5 (L_L_asks_98 y50_0 x57_4 (L_L_asks_57 y50_0 k_8) k_24) k_39) (((31 : Int64) * x193_1) + (Int32.toInt64 y211_0)) (x193_6 + 1) y211_1))) := hM
            refine kwb_ [] [] (vx_runSW (As := [.ref a0, .int x57_4, .int x98_5, .int x193_6]) (rest := [.long ((31 : Int64) * x193_1)]) ⟨hx, hb, hml, hown, hts⟩ hcon (vx_cwSW 4 hts gL_asks_L_page rfl rfl rfl (by decide +kernel) ⟨Nat.le_of_ble_eq_true rfl, Nat.le_of_ble_eq_true rfl⟩) ⟨PC_.blind, lw_pre (X := []) (Y := []) hF hK hP hD hS hA⟩ rfl rfl hl.1 rfl (lv_room (Nat.le_of_ble_eq_true rfl)) dL_asks_211 ⟨(adc_r1 hM), (adc_s1 hM)⟩) hK hP hD hS hA (fun b_44 H locs hpo hP hD hK hS => ?_)
            have hM : FF9 = (adc (c_39 + y211_2) (s_39 + y211_3) ((L_L_asks_193 y50_0 x57_4 x98_5 (L_L_asks_98 y50_0 x57_4 (L_L_asks_57 y50_0 k_8) k_24) k_39) (((31 : Int64) * x193_1) + (Int32.toInt64 y211_0)) (x193_6 + 1) y211_1)) := hM.trans (adc_adc _ _ _ _ _)
            obtain ⟨hM9_44, hb9_44, hBL_44, hXI_44⟩ := hpo
            have hM9_44 : b_44.2.2.2 = y211_1 := hM9_44
            have hXI_44 : XI Bd y211_1 := hXI_44
            have hP : va_P D vwCl ([] ++ BWW ad b_44) H := hP
            have hD : va_D A ([] ++ BWW ad b_44) := hD
            have hK : va_K D vwCl ([] ++ BWT b_44) s := hK
            refine W.eq (g2 := F0 m 214 ls [.int y211_0, .long ((31 : Int64) * x193_1)]) rfl ?_
            refine lv_i2l (v := (Int32.toInt64 y211_0)) hx hb dL_asks_214 rfl ?_
            refine lv_ladd hx hb dL_asks_215 ?_
            refine lv_lstore_n (lv' := [(1, .long (((31 : Int64) * x193_1) + (Int32.toInt64 y211_0))), (6, .int x193_6), (5, .int x98_5), (4, .int x57_4), (3, .int y50_0), (0, .ref a0)]) hx hb dL_asks_216 rfl hl (by decide) rfl (fun ls hl => ?_)
            refine lv_iinc (v := (x193_6 + 1)) (lv' := [(6, .int (x193_6 + 1)), (1, .long (((31 : Int64) * x193_1) + (Int32.toInt64 y211_0))), (5, .int x98_5), (4, .int x57_4), (3, .int y50_0), (0, .ref a0)]) hx hb dL_asks_217 hl (k := 1) rfl rfl (by decide) rfl (fun ls hl => ?_)
            refine lv_goto (tgt := 193) hx hb dL_asks_220 (by decide) ?_
            exact ih_39 ((((31 : Int64) * x193_1) + (Int32.toInt64 y211_0)), (x193_6 + 1), y211_1) _ _ _ _ _ ⟨b_44, lp_up hk_39 c_40, lp_up0 hz_39 c_40, hM9_44, hb9_44, hBL_44, XI.mono hXI_44 (show Bd ≤ Bd from (by have y0 := f_le c_6; have y1 := f_nle c_9; have y2 := f_le c_23; have y3 := f_nle c_25; have y4 := f_nle c_40; have z0 := hBd; have z1 := hz_5; have z2 := hz_8; have z3 := hz_22; have z4 := hz_24; have z5 := hz_39; have e_3 : (3 : Int32).toInt = 3 := (by decide +kernel); have e_6 : (6 : Int32).toInt = 6 := (by decide +kernel); have e_9 : (9 : Int32).toInt = 9 := (by decide +kernel); omega)), hK, hP, hD, hS, lv_sub hl [0, 1, 2, 3, 4, 5] rfl, hM⟩
      · rw [if_neg c_23] at hM
        refine lv_ldc2 (own := RL) hx hb hown (hts (.constantLong RL 174 (31)) (List.mem_of_getElem? (i := 1) (by decide +kernel))) dL_asks_73 ?_
        refine lv_lload_n hx hb dL_asks_76 rfl (lv_at hl 3 rfl) ?_
        refine lv_lmul hx hb dL_asks_77 ?_
        refine lv_aload_n hx hb dL_asks_78 rfl (lv_at hl 4 rfl) ?_
        refine lv_iload hx hb dL_asks_79 (lv_at hl 1 rfl) ?_
        refine lv_iload hx hb dL_asks_81 (lv_at hl 0 rfl) ?_
        have hcon := (bl_L_surveyorOf l hl0 D ad H.size b66 hBL_66 a0 hb9_66 x66_t hM9_66 Bd hXI_66 (show Bd ≤ 900000 from (by have y0 := f_le c_6; have y1 := f_nle c_9; have y2 := f_nle c_23; have z0 := hBd; have z1 := hz_5; have z2 := hz_8; have z3 := hz_22; have e_6 : (6 : Int32).toInt = 6 := (by decide +kernel); have e_9 : (9 : Int32).toInt = 9 := (by decide +kernel); omega)) x57_4 x66_5)
        generalize hy_45 : (F_L_surveyorOf x66_t x57_4 x66_5) = y9 at hcon hM
        obtain ⟨y83_0, y83_1, y83_2, y83_3⟩ := y9
        have hM : FF9 = (adc c_22 s_22 (adc y83_2 y83_3 ((L_L_asks_66 y50_0 x57_4 (L_L_asks_57 y50_0 k_8) k_22) (((31 : Int64) * x66_1) + (Int32.toInt64 y83_0)) (x66_5 + 1) y83_1))) := hM
        refine kwb_ [] [] (vx_runSW (As := [.ref a0, .int x57_4, .int x66_5]) (rest := [.long ((31 : Int64) * x66_1)]) ⟨hx, hb, hml, hown, hts⟩ hcon (vx_cwSW 3 hts gL_asks_L_surveyorOf rfl rfl rfl (by decide +kernel) ⟨Nat.le_of_ble_eq_true rfl, Nat.le_of_ble_eq_true rfl⟩) ⟨PC_.blind, lw_pre (X := []) (Y := []) hF hK hP hD hS hA⟩ rfl rfl hl.1 rfl (lv_room (Nat.le_of_ble_eq_true rfl)) dL_asks_83 ⟨(adc_r1 hM), (adc_s1 hM)⟩) hK hP hD hS hA (fun b_45 H locs hpo hP hD hK hS => ?_)
        have hM : FF9 = (adc (c_22 + y83_2) (s_22 + y83_3) ((L_L_asks_66 y50_0 x57_4 (L_L_asks_57 y50_0 k_8) k_22) (((31 : Int64) * x66_1) + (Int32.toInt64 y83_0)) (x66_5 + 1) y83_1)) := hM.trans (adc_adc _ _ _ _ _)
        obtain ⟨hM9_45, hb9_45, hBL_45, hXI_45⟩ := hpo
        have hM9_45 : b_45.2.2.2 = y83_1 := hM9_45
        have hXI_45 : XI Bd y83_1 := hXI_45
        have hP : va_P D vwCl ([] ++ BWW ad b_45) H := hP
        have hD : va_D A ([] ++ BWW ad b_45) := hD
        have hK : va_K D vwCl ([] ++ BWT b_45) s := hK
        refine W.eq (g2 := F0 m 86 ls [.int y83_0, .long ((31 : Int64) * x66_1)]) rfl ?_
        refine lv_i2l (v := (Int32.toInt64 y83_0)) hx hb dL_asks_86 rfl ?_
        refine lv_ladd hx hb dL_asks_87 ?_
        refine lv_lstore_n (lv' := [(1, .long (((31 : Int64) * x66_1) + (Int32.toInt64 y83_0))), (5, .int x66_5), (4, .int x57_4), (3, .int y50_0), (0, .ref a0)]) hx hb dL_asks_88 rfl hl (by decide) rfl (fun ls hl => ?_)
        refine lv_iinc (v := (x66_5 + 1)) (lv' := [(5, .int (x66_5 + 1)), (1, .long (((31 : Int64) * x66_1) + (Int32.toInt64 y83_0))), (4, .int x57_4), (3, .int y50_0), (0, .ref a0)]) hx hb dL_asks_89 hl (k := 1) rfl rfl (by decide) rfl (fun ls hl => ?_)
        refine lv_goto (tgt := 66) hx hb dL_asks_92 (by decide) ?_
        exact ih_22 ((((31 : Int64) * x66_1) + (Int32.toInt64 y83_0)), (x66_5 + 1), y83_1) _ _ _ _ _ ⟨b_45, lp_up hk_22 c_23, lp_up0 hz_22 c_23, hM9_45, hb9_45, hBL_45, XI.mono hXI_45 (show Bd ≤ Bd from (by have y0 := f_le c_6; have y1 := f_nle c_9; have y2 := f_nle c_23; have z0 := hBd; have z1 := hz_5; have z2 := hz_8; have z3 := hz_22; have e_6 : (6 : Int32).toInt = 6 := (by decide +kernel); have e_9 : (9 : Int32).toInt = 9 := (by decide +kernel); omega)), hK, hP, hD, hS, lv_sub hl [0, 2, 3, 1, 4] rfl, hM⟩
  · rw [if_neg c_6] at hM
    refine lv_ldc2 (own := RL) hx hb hown (hts (.constantLong RL 174 (31)) (List.mem_of_getElem? (i := 1) (by decide +kernel))) dL_asks_29 ?_
    refine lv_lload_n hx hb dL_asks_32 rfl (lv_at hl 1 rfl) ?_
    refine lv_lmul hx hb dL_asks_33 ?_
    refine lv_aload_n hx hb dL_asks_34 rfl (lv_at hl 2 rfl) ?_
    refine lv_iload_n hx hb dL_asks_35 rfl (lv_at hl 0 rfl) ?_
    have hcon := (bl_L_account l hl0 D ad H.size b23 hBL_23 a0 hb9_23 x23_t hM9_23 Bd hXI_23 (show Bd ≤ 900000 from (by have y0 := f_nle c_6; have z0 := hBd; have z1 := hz_5; have e_9 : (9 : Int32).toInt = 9 := (by decide +kernel); omega)) x23_3)
    generalize hy_46 : (F_L_account x23_t x23_3) = y9 at hcon hM
    obtain ⟨y36_0, y36_1, y36_2, y36_3⟩ := y9
    have hM : FF9 = (adc c_5 s_5 (adc y36_2 y36_3 ((L_L_asks_23 k_5) (((31 : Int64) * x23_1) + (Int32.toInt64 y36_0)) (x23_3 + 1) y36_1))) := hM
    refine kwb_ [] [] (vx_runSW (As := [.ref a0, .int x23_3]) (rest := [.long ((31 : Int64) * x23_1)]) ⟨hx, hb, hml, hown, hts⟩ hcon (vx_cwSW 2 hts gL_asks_L_account rfl rfl rfl (by decide +kernel) ⟨Nat.le_of_ble_eq_true rfl, Nat.le_of_ble_eq_true rfl⟩) ⟨PC_.blind, lw_pre (X := []) (Y := []) hF hK hP hD hS hA⟩ rfl rfl hl.1 rfl (lv_room (Nat.le_of_ble_eq_true rfl)) dL_asks_36 ⟨(adc_r1 hM), (adc_s1 hM)⟩) hK hP hD hS hA (fun b_46 H locs hpo hP hD hK hS => ?_)
    have hM : FF9 = (adc (c_5 + y36_2) (s_5 + y36_3) ((L_L_asks_23 k_5) (((31 : Int64) * x23_1) + (Int32.toInt64 y36_0)) (x23_3 + 1) y36_1)) := hM.trans (adc_adc _ _ _ _ _)
    obtain ⟨hM9_46, hb9_46, hBL_46, hXI_46⟩ := hpo
    have hM9_46 : b_46.2.2.2 = y36_1 := hM9_46
    have hXI_46 : XI Bd y36_1 := hXI_46
    have hP : va_P D vwCl ([] ++ BWW ad b_46) H := hP
    have hD : va_D A ([] ++ BWW ad b_46) := hD
    have hK : va_K D vwCl ([] ++ BWT b_46) s := hK
    refine W.eq (g2 := F0 m 39 ls [.int y36_0, .long ((31 : Int64) * x23_1)]) rfl ?_
    refine lv_i2l (v := (Int32.toInt64 y36_0)) hx hb dL_asks_39 rfl ?_
    refine lv_ladd hx hb dL_asks_40 ?_
    refine lv_lstore_n (lv' := [(1, .long (((31 : Int64) * x23_1) + (Int32.toInt64 y36_0))), (3, .int x23_3), (0, .ref a0)]) hx hb dL_asks_41 rfl hl (by decide) rfl (fun ls hl => ?_)
    refine lv_iinc (v := (x23_3 + 1)) (lv' := [(3, .int (x23_3 + 1)), (1, .long (((31 : Int64) * x23_1) + (Int32.toInt64 y36_0))), (0, .ref a0)]) hx hb dL_asks_42 hl (k := 1) rfl rfl (by decide) rfl (fun ls hl => ?_)
    refine lv_goto (tgt := 23) hx hb dL_asks_45 (by decide) ?_
    exact ih_5 ((((31 : Int64) * x23_1) + (Int32.toInt64 y36_0)), (x23_3 + 1), y36_1) _ _ _ _ _ ⟨b_46, lp_up hk_5 c_6, lp_up0 hz_5 c_6, hM9_46, hb9_46, hBL_46, XI.mono hXI_46 (show Bd ≤ Bd from (by have y0 := f_nle c_6; have z0 := hBd; have z1 := hz_5; have e_9 : (9 : Int32).toInt = 9 := (by decide +kernel); omega)), hK, hP, hD, hS, lv_sub hl [0, 1, 2] rfl, hM⟩
