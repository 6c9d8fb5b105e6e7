def F_J5_newCapacity_0f7a4 (capw : Nat) (a1 : Int32) : Int32 := (F_J8_newLength_cabcc (nI capw) (a1 - (nI capw)) ((nI capw) + 2))
theorem R_J5_newCapacity (n : Nat) (a : Int32) (h1 : (n : Int) < a.toInt) (h2 : a.toInt ≤ 100000) (h3 : 0 ≤ a.toInt) : a.toInt ≤ (F_J5_newCapacity_0f7a4 n a).toInt ∧ 2 * (n : Int) + 2 ≤ (F_J5_newCapacity_0f7a4 n a).toInt ∧ (F_J5_newCapacity_0f7a4 n a).toInt ≤ 2 * a.toInt + 2 := by
  have e0 := nI_toInt (n := n) (by omega)
  have e2 : (2 : Int32).toInt = 2 := by decide +kernel
  have e3 : (a - nI n).toInt = a.toInt - (nI n).toInt := subI (by omega) (by omega)
  have e4 : (nI n + 2).toInt = (nI n).toInt + (2 : Int32).toInt := addI (by omega) (by omega)
  have k := R_J8_newLength (nI n) (a - nI n) (nI n + 2) (by omega) (by omega) (by omega) (by omega) (by omega) (by omega)
  show a.toInt ≤ (F_J8_newLength_cabcc (nI n) (a - nI n) (nI n + 2)).toInt ∧ 2 * (n : Int) + 2 ≤ (F_J8_newLength_cabcc (nI n) (a - nI n) (nI n + 2)).toInt ∧ (F_J8_newLength_cabcc (nI n) (a - nI n) (nI n + 2)).toInt ≤ 2 * a.toInt + 2
  omega
set_option maxHeartbeats 4000000 in
set_option maxRecDepth 100000 in
theorem c_J5_newCapacity_0f7a4 (l : Launch) (hl0 : l.stackTraces = false) (D : va_G) (ad : Nat → Nat) (sz : Nat) (h_wb : Nat) (h_B : Nat) (k_wb : ClassId) (h_B_2 : Value) (h_B_3 : Value) (capw : Nat) (wb : Nat → Int32) (a1 : Int32) (hy0 : sb_Fit wb) (hy4 : capw ≤ 20000) (hy5 : 16 ≤ capw) (hy6 : capw < a1.toInt) (hy7 : a1.toInt ≤ 6000) : Met l yJ5_newCapacity_0f7a4 wsJ5_newCapacity_0f7a4 ({ frames := 2, cells := 0, slots := 0, locals := 65 }) (PR_ D ad [(h_wb, .inl (k_wb, capw, .inl wb)), (h_B, .inr (1, [.ref h_wb, .int 0, h_B_2, h_B_3]))] [(k_wb, .byte)] sz [.ref h_B, .int a1]) (QR_ (.int (F_J5_newCapacity_0f7a4 capw a1)) (va_A [] sz)) 0 0 (va_A [] sz) := by
  refine Met.ofW (cc := cJ5_newCapacity_0f7a4) (maxL := 6) (ret := (some .int)) (by decide) rfl ?_
  intro p e s m args below meth c s₁ B hml hv
  obtain ⟨rfl, hsz, hP, hK, hF⟩ := hv
  have hx := B.exec
  have hb := B.bytes
  have hr := B.returns
  have hts := atoms_spec (ws := wsJ5_newCapacity_0f7a4) B.pre
  have hown : s.vm.findClass RJ5 = some m.cls := findClass_of_methodNamed B.named
  have hlocks := B.notSynchronized
  subst hsz
  generalize hAe : va_A [] s.heap.size = A at hF ⊢
  have hA : ∀ q : Nat, s.heap.size ≤ q → A q := fun q h => by rw [← hAe]; exact Or.inr h
  obtain ⟨H, hHe⟩ : ∃ H : Heap, H = s.heap := ⟨_, rfl⟩
  have hS : va_S A s.heap H [] := by rw [hHe]; exact va_S.rf
  have hP : va_P D vwCl [(h_wb, .inl (k_wb, capw, .inl wb)), (h_B, .inr (1, [.ref h_wb, .int 0, h_B_2, h_B_3]))] H := by rw [hHe]; exact hP
  rw [← hHe]
  have hi_J4 : ∀ w ∈ wsJ40, w ∈ wsJ5_newCapacity_0f7a4 := by decide +kernel
  have hl := lv_entry [.ref h_B, .int a1] (n := 6) (Nat.le_of_ble_eq_true rfl)
  rw [lg_entry_eq]
  generalize (lg_sl [.ref h_B, .int a1] ++ List.replicate (6 - (lg_sl [.ref h_B, .int a1]).length) Slot.unset).toArray = ls at hl ⊢
  have hl : lv_has ls 6 [(0, .ref h_B), (1, .int a1)] := hl
  have hM : F_J5_newCapacity_0f7a4 capw a1 = (F_J8_newLength_cabcc (nI capw) (a1 - (nI capw)) ((nI capw) + 2)) := rfl
  refine lv_aload_n hx hb dJ5_newCapacity_0f7a4_0 rfl (lv_at hl 0 rfl) ?_
  refine va_get (D := D) (ci := 1) (v := .ref h_wb) (own := RJ5) (C := RJ4) (T := TJ4) (N := 4) hx hb hts hi_J4 hown hK hP 1 rfl rfl 0 (by decide) (hts (.fieldLink RJ5 15 "java/lang/AbstractStringBuilder" "value" "[B") (List.mem_of_getElem? (i := 1) (by decide +kernel))) (fun _ h9 => h9) rfl dJ5_newCapacity_0f7a4_1 ?_
  refine va_alen (v := (nI capw)) hx hb hK hP 0 0 rfl rfl rfl dJ5_newCapacity_0f7a4_4 ?_
  refine lv_istore_n (lv' := [(2, .int (nI capw)), (0, .ref h_B), (1, .int a1)]) hx hb dJ5_newCapacity_0f7a4_5 rfl hl (by decide) rfl (fun ls hl => ?_)
  refine lv_iload_n hx hb dJ5_newCapacity_0f7a4_6 rfl (lv_at hl 2 rfl) ?_
  refine lv_aload_n hx hb dJ5_newCapacity_0f7a4_7 rfl (lv_at hl 1 rfl) ?_
  refine va_get (D := D) (ci := 1) (v := .int 0) (own := RJ5) (C := RJ4) (T := TJ4) (N := 4) hx hb hts hi_J4 hown hK hP 1 rfl rfl 1 (by decide) (hts (.fieldLink RJ5 22 "java/lang/AbstractStringBuilder" "coder" "B") (List.mem_of_getElem? (i := 2) (by decide +kernel))) (fun _ h9 => h9) rfl dJ5_newCapacity_0f7a4_8 ?_
  refine lv_ishl hx hb dJ5_newCapacity_0f7a4_11 ?_
  refine kt_ (v := a1) (shl0_ _) ?_
  refine lv_istore_n (lv' := [(3, .int a1), (2, .int (nI capw)), (0, .ref h_B), (1, .int a1)]) hx hb dJ5_newCapacity_0f7a4_12 rfl hl (by decide) rfl (fun ls hl => ?_)
  refine lv_iload_n hx hb dJ5_newCapacity_0f7a4_13 rfl (lv_at hl 0 rfl) ?_
  refine lv_iload_n hx hb dJ5_newCapacity_0f7a4_14 rfl (lv_at hl 1 rfl) ?_
  refine lv_isub hx hb dJ5_newCapacity_0f7a4_15 ?_
  refine lv_istore (lv' := [(4, .int (a1 - (nI capw))), (3, .int a1), (2, .int (nI capw)), (0, .ref h_B), (1, .int a1)]) hx hb dJ5_newCapacity_0f7a4_16 hl (by decide) rfl (fun ls hl => ?_)
  refine lv_iload_n hx hb dJ5_newCapacity_0f7a4_18 rfl (lv_at hl 2 rfl) ?_
  refine lv_iload hx hb dJ5_newCapacity_0f7a4_19 (lv_at hl 0 rfl) ?_
  refine lv_iload_n hx hb dJ5_newCapacity_0f7a4_21 rfl (lv_at hl 2 rfl) ?_
  refine lv_iconst (v := 2) hx hb dJ5_newCapacity_0f7a4_22 (by decide) ?_
  refine lv_aload_n hx hb dJ5_newCapacity_0f7a4_23 rfl (lv_at hl 3 rfl) ?_
  refine va_get (D := D) (ci := 1) (v := .int 0) (own := RJ5) (C := RJ4) (T := TJ4) (N := 4) hx hb hts hi_J4 hown hK hP 1 rfl rfl 1 (by decide) (hts (.fieldLink RJ5 22 "java/lang/AbstractStringBuilder" "coder" "B") (List.mem_of_getElem? (i := 2) (by decide +kernel))) (fun _ h9 => h9) rfl dJ5_newCapacity_0f7a4_24 ?_
  refine lv_ishl hx hb dJ5_newCapacity_0f7a4_27 ?_
  refine kt_ (v := 2) (by decide +kernel) ?_
  refine lv_iadd hx hb dJ5_newCapacity_0f7a4_28 ?_
  refine kr_ (va_runS (As := [.int (nI capw), .int (a1 - (nI capw)), .int ((nI capw) + 2)]) (rest := []) ⟨hx, hb, hml, hown, hts⟩ (c_J8_newLength_cabcc l hl0 D ad H.size (nI capw) (a1 - (nI capw)) ((nI capw) + 2) (by have z1 := hy4; have z2 := hy5; have z3 := hy6; have z4 := hy7; have b67 := Int32.toInt_lt (nI capw); have d67 := Int32.le_toInt (nI capw); have w0 := nI_toInt (n := capw) (by omega); omega) (by have z1 := hy4; have z2 := hy5; have z3 := hy6; have z4 := hy7; have b68 := Int32.toInt_lt (nI capw); have d68 := Int32.le_toInt (nI capw); have w0 := nI_toInt (n := capw) (by omega); omega) (by have z1 := hy4; have z2 := hy5; have z3 := hy6; have z4 := hy7; have b70 := Int32.toInt_lt (a1); have d70 := Int32.le_toInt (a1); have b71 := Int32.toInt_lt (nI capw); have d71 := Int32.le_toInt (nI capw); have q69 := subI (a := a1) (b := (nI capw)) (by omega) (by omega); have w0 := nI_toInt (n := capw) (by omega); omega) (by have z1 := hy4; have z2 := hy5; have z3 := hy6; have z4 := hy7; have b73 := Int32.toInt_lt (a1); have d73 := Int32.le_toInt (a1); have b74 := Int32.toInt_lt (nI capw); have d74 := Int32.le_toInt (nI capw); have q72 := subI (a := a1) (b := (nI capw)) (by omega) (by omega); have w0 := nI_toInt (n := capw) (by omega); omega) (by have z1 := hy4; have z2 := hy5; have z3 := hy6; have z4 := hy7; have b76 := Int32.toInt_lt (nI capw); have d76 := Int32.le_toInt (nI capw); have l77 : (2 : Int32).toInt = 2 := (by decide +kernel); have q75 := addI (a := (nI capw)) (b := 2) (by omega) (by omega); have w0 := nI_toInt (n := capw) (by omega); omega) (by have z1 := hy4; have z2 := hy5; have z3 := hy6; have z4 := hy7; have b79 := Int32.toInt_lt (nI capw); have d79 := Int32.le_toInt (nI capw); have l80 : (2 : Int32).toInt = 2 := (by decide +kernel); have q78 := addI (a := (nI capw)) (b := 2) (by omega) (by omega); have w0 := nI_toInt (n := capw) (by omega); omega)) (va_cwS 3 hts gJ5_newCapacity_0f7a4_J8_newLength_cabcc rfl rfl rfl (by decide +kernel) ⟨Nat.le_of_ble_eq_true rfl, Nat.le_of_ble_eq_true rfl⟩) ⟨PR_.blind, PR_.pre hF hK (hP.sub [] rfl) hS hA [] rfl⟩ rfl rfl hl.1 rfl (lv_room (Nat.le_of_ble_eq_true rfl)) dJ5_newCapacity_0f7a4_29 ⟨(Nat.le_of_ble_eq_true rfl), (Nat.le_of_ble_eq_true rfl)⟩) hP hS hA (fun H locs hP hS => ?_)
  refine W.eq (g2 := F0 m 32 ls [.int (F_J8_newLength_cabcc (nI capw) (a1 - (nI capw)) ((nI capw) + 2))]) rfl ?_
  refine lv_istore (lv' := [(5, .int (F_J8_newLength_cabcc (nI capw) (a1 - (nI capw)) ((nI capw) + 2))), (4, .int (a1 - (nI capw))), (3, .int a1), (2, .int (nI capw)), (0, .ref h_B), (1, .int a1)]) hx hb dJ5_newCapacity_0f7a4_32 hl (by decide) rfl (fun ls hl => ?_)
  refine lv_iload hx hb dJ5_newCapacity_0f7a4_34 (lv_at hl 0 rfl) ?_
  refine lv_ldc (own := RJ5) hx hb hown (hts (.constant RJ5 39 (2147483647)) (List.mem_of_getElem? (i := 3) (by decide +kernel))) dJ5_newCapacity_0f7a4_36 ?_
  refine lv_icmp_ne (tgt := 51) hx hb dJ5_newCapacity_0f7a4_38 (by decide) (fun c_2 => ?_) (fun c9 => False.elim (by have z1 := hy4; have z2 := hy5; have z3 := hy6; have z4 := hy7; have u81 := nI_toInt (n := capw) (by omega); have b82 := Int32.toInt_lt (nI capw); have d82 := Int32.le_toInt (nI capw); have b84 := Int32.toInt_lt (a1); have d84 := Int32.le_toInt (a1); have b85 := Int32.toInt_lt (nI capw); have d85 := Int32.le_toInt (nI capw); have q83 := subI (a := a1) (b := (nI capw)) (by omega) (by omega); have b87 := Int32.toInt_lt (nI capw); have d87 := Int32.le_toInt (nI capw); have l88 : (2 : Int32).toInt = 2 := (by decide +kernel); have q86 := addI (a := (nI capw)) (b := 2) (by omega) (by omega); have rnl := R_J8_newLength (nI capw) (a1 - (nI capw)) ((nI capw) + 2) (by omega) (by omega) (by omega) (by omega) (by omega) (by omega); have w0 := nI_toInt (n := capw) (by omega); have y9 := f_eq c9; have l2147483647 : (2147483647 : Int32).toInt = 2147483647 := (by decide +kernel); omega))
  refine lv_iload hx hb dJ5_newCapacity_0f7a4_51 (lv_at hl 0 rfl) ?_
  refine lv_aload_n hx hb dJ5_newCapacity_0f7a4_53 rfl (lv_at hl 4 rfl) ?_
  refine va_get (D := D) (ci := 1) (v := .int 0) (own := RJ5) (C := RJ4) (T := TJ4) (N := 4) hx hb hts hi_J4 hown hK hP 1 rfl rfl 1 (by decide) (hts (.fieldLink RJ5 22 "java/lang/AbstractStringBuilder" "coder" "B") (List.mem_of_getElem? (i := 2) (by decide +kernel))) (fun _ h9 => h9) rfl dJ5_newCapacity_0f7a4_54 ?_
  refine lv_ishr hx hb dJ5_newCapacity_0f7a4_57 ?_
  refine kt_ (v := (F_J8_newLength_cabcc (nI capw) (a1 - (nI capw)) ((nI capw) + 2))) (shr0_ _) ?_
  refine W.widen (k := 0) (n := 0) (Nat.le_of_ble_eq_true rfl) (Nat.le_of_ble_eq_true rfl) ?_
  exact W.iret (v := (F_J8_newLength_cabcc (nI capw) (a1 - (nI capw)) ((nI capw) + 2))) hx hb hr (QR_.mk hS (by rw [hM])) hS.2.2 dJ5_newCapacity_0f7a4_58
def F_J7_copyOf_9075b (ar1 : Nat → Int32) (len1 : Nat) (a2 : Int32) : Nat × (Nat → Int32) × Nat × Nat := ((ix a2), (va_cpy ar1 (fun _ => 0) 0 0 (ix (inI (nI len1) a2))), (0 + 1), (0 + (ix a2)))
set_option maxHeartbeats 4000000 in
set_option maxRecDepth 100000 in
theorem c_J7_copyOf_9075b (l : Launch) (hl0 : l.stackTraces = false) (D : va_G) (ad : Nat → Nat) (sz : Nat) (h_ar1 : Nat) (k_ar1 : ClassId) (len1 : Nat) (ar1 : Nat → Int32) (a2 : Int32) (hy0 : sb_Fit ar1) (hy1 : len1 < a2.toInt) (hy2 : len1 ≤ 100000) (hy3 : a2.toInt ≤ 1000000) : Met l yJ7_copyOf_9075b wsJ7_copyOf_9075b ({ frames := 1, cells := (F_J7_copyOf_9075b ar1 len1 a2).2.2.1, slots := (F_J7_copyOf_9075b ar1 len1 a2).2.2.2, locals := 60 }) (PC_ D ad [(h_ar1, .inl (k_ar1, len1, .inl ar1))] [(k_ar1, .byte)] sz [.ref h_ar1, .int a2]) (QG_ D (fun q i => some (.ref (q 0))) (fun q i => sb_Fit ((F_J7_copyOf_9075b ar1 len1 a2).2.1)) (fun q k i => [(h_ar1, .inl (k_ar1, len1, .inl ar1)), ((q 0), .inl ((k 0), (F_J7_copyOf_9075b ar1 len1 a2).1, .inl (F_J7_copyOf_9075b ar1 len1 a2).2.1))]) (fun q k i => [(k_ar1, .byte), ((k 0), .int)]) (va_A [(h_ar1, .inl (k_ar1, len1, .inl ar1))] sz)) (F_J7_copyOf_9075b ar1 len1 a2).2.2.1 (F_J7_copyOf_9075b ar1 len1 a2).2.2.2 (va_A [(h_ar1, .inl (k_ar1, len1, .inl ar1))] sz) := by
  refine Met.ofW (cc := cJ7_copyOf_9075b) (maxL := 3) (ret := (some (.array .byte))) (by decide) rfl ?_
  intro p e s m args below meth c s₁ B hml hv
  obtain ⟨rfl, hsz, hP, hK, hD0, hF⟩ := hv
  have hx := B.exec
  have hb := B.bytes
  have hr := B.returns
  have hts := atoms_spec (ws := wsJ7_copyOf_9075b) B.pre
  have hown : s.vm.findClass RJ7 = some m.cls := findClass_of_methodNamed B.named
  have hlocks := B.notSynchronized
  subst hsz
  have hD := hD0.self (sz := s.heap.size)
  generalize hAe : va_A [(h_ar1, .inl (k_ar1, len1, .inl ar1))] s.heap.size = A at hD hF ⊢
  have hA : ∀ q : Nat, s.heap.size ≤ q → A q := fun q h => by rw [← hAe]; exact Or.inr h
  obtain ⟨H, hHe⟩ : ∃ H : Heap, H = s.heap := ⟨_, rfl⟩
  have hS : va_S A s.heap H [] := by rw [hHe]; exact va_S.rf
  have hP : va_P D vwCl [(h_ar1, .inl (k_ar1, len1, .inl ar1))] H := by rw [hHe]; exact hP
  rw [← hHe]
  have hl := lv_entry [.ref h_ar1, .int a2] (n := 3) (Nat.le_of_ble_eq_true rfl)
  rw [lg_entry_eq]
  generalize (lg_sl [.ref h_ar1, .int a2] ++ List.replicate (3 - (lg_sl [.ref h_ar1, .int a2]).length) Slot.unset).toArray = ls at hl ⊢
  have hl : lv_has ls 3 [(0, .ref h_ar1), (1, .int a2)] := hl
  generalize hF9 : F_J7_copyOf_9075b ar1 len1 a2 = FF9
  have hM : FF9 = ((ix a2), (va_cpy ar1 (fun _ => 0) 0 0 (ix (inI (nI len1) a2))), (0 + 1), (0 + (ix a2))) := hF9.symm
  refine lv_iload_n hx hb dJ7_copyOf_9075b_0 rfl (lv_at hl 1 rfl) ?_
  refine lv_aload_n hx hb dJ7_copyOf_9075b_1 rfl (lv_at hl 0 rfl) ?_
  refine va_alen (v := (nI len1)) hx hb hK hP 0 0 rfl rfl rfl dJ7_copyOf_9075b_2 ?_
  refine lv_icmp_ne (tgt := 14) hx hb dJ7_copyOf_9075b_3 (by decide) (fun c_1 => ?_) (fun c9 => False.elim (by have z1 := hy1; have z2 := hy2; have z3 := hy3; have w0 := nI_toInt (n := len1) (by omega); have y9 := f_eq c9; omega))
  refine lv_iload_n hx hb dJ7_copyOf_9075b_14 rfl (lv_at hl 1 rfl) ?_
  refine va_newa (atype := .byte) hx hb (hts (.arrayClass .byte) (List.mem_of_getElem? (i := 7) (by decide +kernel))) rfl hK hP hD hS hA (a0 := ((ix a2), .inl (fun _ => 0))) (fun _ => rfl) (nlt0 (by have z1 := hy1; have z2 := hy2; have z3 := hy3; have b17 := Int32.toInt_lt (a2); have d17 := Int32.le_toInt (a2); have x0 := ix_toNat a2; omega)) rfl (show (ix a2) * 4 ≤ 536870912 from (by have z1 := hy1; have z2 := hy2; have z3 := hy3; have b17 := Int32.toInt_lt (a2); have d17 := Int32.le_toInt (a2); have x0 := ix_toNat a2; omega)) (show 0 + 1 ≤ (FF9).2.2.1 from (by rw [hM]; exact Nat.le_trans (show 0 + 1 ≤ (0 + 1) from (by omega)) (show (0 + 1) ≤ (0 + 1) from (by omega)))) (show 0 + (ix a2) ≤ (FF9).2.2.2 from (by rw [hM]; exact Nat.le_trans (show 0 + (ix a2) ≤ (0 + (ix a2)) from (by omega)) (show (0 + (ix a2)) ≤ (0 + (ix a2)) from (by omega)))) dJ7_copyOf_9075b_15 (fun q_p15 kk_p15 H hK hP hD hS => ?_)
  have hP : va_P D vwCl [(h_ar1, .inl (k_ar1, len1, .inl ar1)), (q_p15, .inl (kk_p15, (ix a2), .inl (fun _ => 0)))] H := hP
  have hD : va_D A [(h_ar1, .inl (k_ar1, len1, .inl ar1)), (q_p15, .inl (kk_p15, (ix a2), .inl (fun _ => 0)))] := hD
  have hK : va_K D vwCl [(k_ar1, .byte), (kk_p15, .byte)] s := hK
  refine lv_astore_n (lv' := [(2, .ref q_p15), (0, .ref h_ar1), (1, .int a2)]) hx hb dJ7_copyOf_9075b_17 rfl hl (by decide) rfl (fun ls hl => ?_)
  refine lv_aload_n hx hb dJ7_copyOf_9075b_18 rfl (lv_at hl 1 rfl) ?_
  refine lv_iconst (v := 0) hx hb dJ7_copyOf_9075b_19 (by decide) ?_
  refine lv_aload_n hx hb dJ7_copyOf_9075b_20 rfl (lv_at hl 0 rfl) ?_
  refine lv_iconst (v := 0) hx hb dJ7_copyOf_9075b_21 (by decide) ?_
  refine lv_aload_n hx hb dJ7_copyOf_9075b_22 rfl (lv_at hl 1 rfl) ?_
  refine va_alen (v := (nI len1)) hx hb hK hP 0 0 rfl rfl rfl dJ7_copyOf_9075b_23 ?_
  refine lv_iload_n hx hb dJ7_copyOf_9075b_24 rfl (lv_at hl 2 rfl) ?_
  refine va_mmin (own := RJ7) hx hb (by rw [hml]; exact hl.1.symm) hown (hts (.methodLink RJ7 304 Lib.Math.min.name) (List.mem_of_getElem? (i := 8) (by decide +kernel))) (hts (.static Lib.Math.min.name) (List.mem_of_getElem? (i := 9) (by decide +kernel))) (hts (.initialized "java/lang/Math") (List.mem_of_getElem? (i := 10) (by decide +kernel))) (hts (.code Lib.Math.min.name Lib.Math.min.code 2 (some .int)) (List.mem_of_getElem? (i := 11) (by decide +kernel))) (Nat.le_of_ble_eq_true rfl) (Nat.le_of_ble_eq_true rfl) (show (0 + 1) ≤ (FF9).2.2.1 from (by rw [hM]; exact (show (0 + 1) ≤ (0 + 1) from (by omega)))) (show (0 + (ix a2)) ≤ (FF9).2.2.2 from (by rw [hM]; exact (show (0 + (ix a2)) ≤ (0 + (ix a2)) from (by omega)))) dJ7_copyOf_9075b_25 ?_
  refine kt_ (v := (inI (nI len1) a2)) rfl ?_
  refine ka_copyi (g9 := (va_cpy ar1 (fun _ => 0) 0 0 (ix (inI (nI len1) a2)))) (own := RJ7) hx hb (by rw [hml]; exact hl.1.symm) hown (hts (.methodLink RJ7 150 arraycopyName) (List.mem_of_getElem? (i := 12) (by decide +kernel))) (hts (.native arraycopyName) (List.mem_of_getElem? (i := 13) (by decide +kernel))) (hts (.static arraycopyName) (List.mem_of_getElem? (i := 14) (by decide +kernel))) (hts (.initialized "java/lang/System") (List.mem_of_getElem? (i := 15) (by decide +kernel))) hK hP hD hS 0 1 0 1 rfl rfl rfl rfl (ty := .int) rfl (nlt0 (by have z1 := hy1; have z2 := hy2; have z3 := hy3; have b22 := Int32.toInt_lt (nI len1); have d22 := Int32.le_toInt (nI len1); have rin := inI_r (nI len1) a2; have b23 := Int32.toInt_lt (inI (nI len1) a2); have d23 := Int32.le_toInt (inI (nI len1) a2); have l24 : (0 : Int32).toInt = 0 := (by decide +kernel); have l25 : (0 : Int32).toInt = 0 := (by decide +kernel); have w0 := nI_toInt (n := len1) (by omega); have x0 := ix_toNat a2; omega)) (nlt0 (by have z1 := hy1; have z2 := hy2; have z3 := hy3; have b22 := Int32.toInt_lt (nI len1); have d22 := Int32.le_toInt (nI len1); have rin := inI_r (nI len1) a2; have b23 := Int32.toInt_lt (inI (nI len1) a2); have d23 := Int32.le_toInt (inI (nI len1) a2); have l24 : (0 : Int32).toInt = 0 := (by decide +kernel); have l25 : (0 : Int32).toInt = 0 := (by decide +kernel); have w0 := nI_toInt (n := len1) (by omega); have x0 := ix_toNat a2; omega)) (nlt0 (by have z1 := hy1; have z2 := hy2; have z3 := hy3; have b22 := Int32.toInt_lt (nI len1); have d22 := Int32.le_toInt (nI len1); have rin := inI_r (nI len1) a2; have b23 := Int32.toInt_lt (inI (nI len1) a2); have d23 := Int32.le_toInt (inI (nI len1) a2); have l24 : (0 : Int32).toInt = 0 := (by decide +kernel); have l25 : (0 : Int32).toInt = 0 := (by decide +kernel); have w0 := nI_toInt (n := len1) (by omega); have x0 := ix_toNat a2; omega)) (cpb_ (by have z1 := hy1; have z2 := hy2; have z3 := hy3; have b22 := Int32.toInt_lt (nI len1); have d22 := Int32.le_toInt (nI len1); have rin := inI_r (nI len1) a2; have b23 := Int32.toInt_lt (inI (nI len1) a2); have d23 := Int32.le_toInt (inI (nI len1) a2); have l24 : (0 : Int32).toInt = 0 := (by decide +kernel); have l25 : (0 : Int32).toInt = 0 := (by decide +kernel); have w0 := nI_toInt (n := len1) (by omega); have x0 := ix_toNat a2; omega) (by have z1 := hy1; have z2 := hy2; have z3 := hy3; have b22 := Int32.toInt_lt (nI len1); have d22 := Int32.le_toInt (nI len1); have rin := inI_r (nI len1) a2; have b23 := Int32.toInt_lt (inI (nI len1) a2); have d23 := Int32.le_toInt (inI (nI len1) a2); have l24 : (0 : Int32).toInt = 0 := (by decide +kernel); have l25 : (0 : Int32).toInt = 0 := (by decide +kernel); have w0 := nI_toInt (n := len1) (by omega); have x0 := ix_toNat a2; omega) (by have z1 := hy1; have z2 := hy2; have z3 := hy3; have b22 := Int32.toInt_lt (nI len1); have d22 := Int32.le_toInt (nI len1); have rin := inI_r (nI len1) a2; have b23 := Int32.toInt_lt (inI (nI len1) a2); have d23 := Int32.le_toInt (inI (nI len1) a2); have l24 : (0 : Int32).toInt = 0 := (by decide +kernel); have l25 : (0 : Int32).toInt = 0 := (by decide +kernel); have w0 := nI_toInt (n := len1) (by omega); have x0 := ix_toNat a2; omega)) (cpb_ (by have z1 := hy1; have z2 := hy2; have z3 := hy3; have b22 := Int32.toInt_lt (nI len1); have d22 := Int32.le_toInt (nI len1); have rin := inI_r (nI len1) a2; have b23 := Int32.toInt_lt (inI (nI len1) a2); have d23 := Int32.le_toInt (inI (nI len1) a2); have l24 : (0 : Int32).toInt = 0 := (by decide +kernel); have l25 : (0 : Int32).toInt = 0 := (by decide +kernel); have w0 := nI_toInt (n := len1) (by omega); have x0 := ix_toNat a2; omega) (by have z1 := hy1; have z2 := hy2; have z3 := hy3; have b22 := Int32.toInt_lt (nI len1); have d22 := Int32.le_toInt (nI len1); have rin := inI_r (nI len1) a2; have b23 := Int32.toInt_lt (inI (nI len1) a2); have d23 := Int32.le_toInt (inI (nI len1) a2); have l24 : (0 : Int32).toInt = 0 := (by decide +kernel); have l25 : (0 : Int32).toInt = 0 := (by decide +kernel); have w0 := nI_toInt (n := len1) (by omega); have x0 := ix_toNat a2; omega) (by have z1 := hy1; have z2 := hy2; have z3 := hy3; have b22 := Int32.toInt_lt (nI len1); have d22 := Int32.le_toInt (nI len1); have rin := inI_r (nI len1) a2; have b23 := Int32.toInt_lt (inI (nI len1) a2); have d23 := Int32.le_toInt (inI (nI len1) a2); have l24 : (0 : Int32).toInt = 0 := (by decide +kernel); have l25 : (0 : Int32).toInt = 0 := (by decide +kernel); have w0 := nI_toInt (n := len1) (by omega); have x0 := ix_toNat a2; omega)) (fun _ _ => rfl) rfl (Nat.le_of_ble_eq_true rfl) (Nat.le_of_ble_eq_true rfl) dJ7_copyOf_9075b_28 (fun H locs hP hD hS => ?_)
  have hP : va_P D vwCl [(h_ar1, .inl (k_ar1, len1, .inl ar1)), (q_p15, .inl (kk_p15, (ix a2), .inl (va_cpy ar1 (fun _ => 0) 0 0 (ix (inI (nI len1) a2)))))] H := hP
  have hD : va_D A [(h_ar1, .inl (k_ar1, len1, .inl ar1)), (q_p15, .inl (kk_p15, (ix a2), .inl (va_cpy ar1 (fun _ => 0) 0 0 (ix (inI (nI len1) a2)))))] := hD
  refine lv_aload_n hx hb dJ7_copyOf_9075b_31 rfl (lv_at hl 0 rfl) ?_
  refine W.widen (k := (FF9).2.2.1) (n := (FF9).2.2.2) (Nat.le_of_eq (by rw [hM])) (Nat.le_of_eq (by rw [hM])) ?_
  exact W.aret (v := .ref q_p15) hx hb hr (Or.inr ⟨_, rfl⟩) (Or.inr ⟨_, rfl⟩) (QG_.mk (fun n => [q_p15].getD n 0) (fun n => [kk_p15].getD n 0) (fun _ => 0) [0, 1] [0, 1] hP hD hK hS rfl (by rw [hM]; exact (show sb_Fit (va_cpy ar1 (fun _ => 0) 0 0 (ix (inI (nI len1) a2))) from (sb_fitC hy0 sb_fit0))) (by rw [hM]; rfl) (by decide) rfl) hS.2.2 dJ7_copyOf_9075b_32
def F_J5_ensureCapacityInternal_d00df (wb : Nat → Int32) (capw : Nat) (a1 : Int32) : Nat × (Nat → Int32) × Nat × Nat := (if (a1 - (nI capw)) ≤ 0 then (capw, wb, 0, 0) else ((F_J7_copyOf_9075b wb capw (F_J5_newCapacity_0f7a4 capw a1)).1, ((F_J7_copyOf_9075b wb capw (F_J5_newCapacity_0f7a4 capw a1)).2.1), ((0 + 0) + (F_J7_copyOf_9075b wb capw (F_J5_newCapacity_0f7a4 capw a1)).2.2.1), ((0 + 0) + (F_J7_copyOf_9075b wb capw (F_J5_newCapacity_0f7a4 capw a1)).2.2.2)))
set_option maxHeartbeats 4000000 in
set_option maxRecDepth 100000 in
theorem c_J5_ensureCapacityInternal_d00df (l : Launch) (hl0 : l.stackTraces = false) (D : va_G) (ad : Nat → Nat) (sz : Nat) (h_wb : Nat) (h_B : Nat) (k_wb : ClassId) (h_B_2 : Value) (h_B_3 : Value) (capw : Nat) (wb : Nat → Int32) (a1 : Int32) (hy0 : sb_Fit wb) (hy4 : capw ≤ 20000) (hy5 : 16 ≤ capw) (hy6 : 0 ≤ a1.toInt) (hy7 : a1.toInt ≤ 6000) : Met l yJ5_ensureCapacityInternal_d00df wsJ5_ensureCapacityInternal_d00df ({ frames := 3, cells := (F_J5_ensureCapacityInternal_d00df wb capw a1).2.2.1, slots := (F_J5_ensureCapacityInternal_d00df wb capw a1).2.2.2, locals := 92 }) (PC_ D ad [(h_wb, .inl (k_wb, capw, .inl wb)), (h_B, .inr (1, [.ref h_wb, .int 0, h_B_2, h_B_3]))] [(k_wb, .byte)] sz [.ref h_B, .int a1]) (QG_ D (fun q i => none) (fun q i => sb_Fit ((F_J5_ensureCapacityInternal_d00df wb capw a1).2.1) ∧ a1.toInt ≤ ((F_J5_ensureCapacityInternal_d00df wb capw a1).1) ∧ 16 ≤ ((F_J5_ensureCapacityInternal_d00df wb capw a1).1) ∧ capw ≤ ((F_J5_ensureCapacityInternal_d00df wb capw a1).1) ∧ ((F_J5_ensureCapacityInternal_d00df wb capw a1).1) ≤ 20000) (fun q k i => [((q 0), .inl ((k 0), (F_J5_ensureCapacityInternal_d00df wb capw a1).1, .inl (F_J5_ensureCapacityInternal_d00df wb capw a1).2.1)), (h_B, .inr (1, [.ref (q 0), .int 0, h_B_2, h_B_3]))]) (fun q k i => [((k 0), .byte)]) (va_A [(h_wb, .inl (k_wb, capw, .inl wb)), (h_B, .inr (1, [.ref h_wb, .int 0, h_B_2, h_B_3]))] sz)) (F_J5_ensureCapacityInternal_d00df wb capw a1).2.2.1 (F_J5_ensureCapacityInternal_d00df wb capw a1).2.2.2 (va_A [(h_wb, .inl (k_wb, capw, .inl wb)), (h_B, .inr (1, [.ref h_wb, .int 0, h_B_2, h_B_3]))] sz) := by
  refine Met.ofW (cc := cJ5_ensureCapacityInternal_d00df) (maxL := 3) (ret := none) (by decide) rfl ?_
  intro p e s m args below meth c s₁ B hml hv
  obtain ⟨rfl, hsz, hP, hK, hD0, hF⟩ := hv
  have hx := B.exec
  have hb := B.bytes
  have hr := B.returns
  have hts := atoms_spec (ws := wsJ5_ensureCapacityInternal_d00df) B.pre
  have hown : s.vm.findClass RJ5 = some m.cls := findClass_of_methodNamed B.named
  have hlocks := B.notSynchronized
  subst hsz
  have hD := hD0.self (sz := s.heap.size)
  generalize hAe : va_A [(h_wb, .inl (k_wb, capw, .inl wb)), (h_B, .inr (1, [.ref h_wb, .int 0, h_B_2, h_B_3]))] s.heap.size = A at hD hF ⊢
  have hA : ∀ q : Nat, s.heap.size ≤ q → A q := fun q h => by rw [← hAe]; exact Or.inr h
  obtain ⟨H, hHe⟩ : ∃ H : Heap, H = s.heap := ⟨_, rfl⟩
  have hS : va_S A s.heap H [] := by rw [hHe]; exact va_S.rf
  have hP : va_P D vwCl [(h_wb, .inl (k_wb, capw, .inl wb)), (h_B, .inr (1, [.ref h_wb, .int 0, h_B_2, h_B_3]))] H := by rw [hHe]; exact hP
  rw [← hHe]
  have hi_J4 : ∀ w ∈ wsJ40, w ∈ wsJ5_ensureCapacityInternal_d00df := by decide +kernel
  have hl := lv_entry [.ref h_B, .int a1] (n := 3) (Nat.le_of_ble_eq_true rfl)
  rw [lg_entry_eq]
  generalize (lg_sl [.ref h_B, .int a1] ++ List.replicate (3 - (lg_sl [.ref h_B, .int a1]).length) Slot.unset).toArray = ls at hl ⊢
  have hl : lv_has ls 3 [(0, .ref h_B), (1, .int a1)] := hl
  generalize hF9 : F_J5_ensureCapacityInternal_d00df wb capw a1 = FF9
  have hM : FF9 = (if (a1 - (nI capw)) ≤ 0 then (capw, wb, 0, 0) else ((F_J7_copyOf_9075b wb capw (F_J5_newCapacity_0f7a4 capw a1)).1, ((F_J7_copyOf_9075b wb capw (F_J5_newCapacity_0f7a4 capw a1)).2.1), ((0 + 0) + (F_J7_copyOf_9075b wb capw (F_J5_newCapacity_0f7a4 capw a1)).2.2.1), ((0 + 0) + (F_J7_copyOf_9075b wb capw (F_J5_newCapacity_0f7a4 capw a1)).2.2.2))) := hF9.symm
  refine lv_aload_n hx hb dJ5_ensureCapacityInternal_d00df_0 rfl (lv_at hl 0 rfl) ?_
  refine va_get (D := D) (ci := 1) (v := .ref h_wb) (own := RJ5) (C := RJ4) (T := TJ4) (N := 4) hx hb hts hi_J4 hown hK hP 1 rfl rfl 0 (by decide) (hts (.fieldLink RJ5 15 "java/lang/AbstractStringBuilder" "value" "[B") (List.mem_of_getElem? (i := 1) (by decide +kernel))) (fun _ h9 => h9) rfl dJ5_ensureCapacityInternal_d00df_1 ?_
  refine va_alen (v := (nI capw)) hx hb hK hP 0 0 rfl rfl rfl dJ5_ensureCapacityInternal_d00df_4 ?_
  refine lv_aload_n hx hb dJ5_ensureCapacityInternal_d00df_5 rfl (lv_at hl 0 rfl) ?_
  refine va_get (D := D) (ci := 1) (v := .int 0) (own := RJ5) (C := RJ4) (T := TJ4) (N := 4) hx hb hts hi_J4 hown hK hP 1 rfl rfl 1 (by decide) (hts (.fieldLink RJ5 22 "java/lang/AbstractStringBuilder" "coder" "B") (List.mem_of_getElem? (i := 2) (by decide +kernel))) (fun _ h9 => h9) rfl dJ5_ensureCapacityInternal_d00df_6 ?_
  refine lv_ishr hx hb dJ5_ensureCapacityInternal_d00df_9 ?_
  refine kt_ (v := (nI capw)) (shr0_ _) ?_
  refine lv_istore_n (lv' := [(2, .int (nI capw)), (0, .ref h_B), (1, .int a1)]) hx hb dJ5_ensureCapacityInternal_d00df_10 rfl hl (by decide) rfl (fun ls hl => ?_)
  refine lv_iload_n hx hb dJ5_ensureCapacityInternal_d00df_11 rfl (lv_at hl 2 rfl) ?_
  refine lv_iload_n hx hb dJ5_ensureCapacityInternal_d00df_12 rfl (lv_at hl 0 rfl) ?_
  refine lv_isub hx hb dJ5_ensureCapacityInternal_d00df_13 ?_
  refine lv_if_le (tgt := 38) hx hb dJ5_ensureCapacityInternal_d00df_14 (by decide) (fun c_1 => ?_) (fun c_1 => ?_)
  · rw [if_pos c_1] at hM
    refine W.widen (k := (FF9).2.2.1) (n := (FF9).2.2.2) (Nat.le_of_eq (by rw [hM])) (Nat.le_of_eq (by rw [hM])) ?_
    exact W.vret hx hb hr (QG_.mk (fun n => [h_wb].getD n 0) (fun n => [k_wb].getD n 0) (fun _ => 0) [0, 1] [0] hP hD hK hS rfl (by rw [hM]; exact ⟨(show sb_Fit wb from hy0), (show a1.toInt ≤ capw from (by have y0 := f_le c_1; have z1 := hy4; have z2 := hy5; have z3 := hy6; have z4 := hy7; have e_0 : (0 : Int32).toInt = 0 := (by decide +kernel); have w0 := nI_toInt (n := capw) (by omega); omega)), (show 16 ≤ capw from (by have y0 := f_le c_1; have z1 := hy4; have z2 := hy5; have z3 := hy6; have z4 := hy7; have e_0 : (0 : Int32).toInt = 0 := (by decide +kernel); have w0 := nI_toInt (n := capw) (by omega); omega)), (show capw ≤ capw from (by have y0 := f_le c_1; have z1 := hy4; have z2 := hy5; have z3 := hy6; have z4 := hy7; have e_0 : (0 : Int32).toInt = 0 := (by decide +kernel); have w0 := nI_toInt (n := capw) (by omega); omega)), (show capw ≤ 20000 from (by have y0 := f_le c_1; have z1 := hy4; have z2 := hy5; have z3 := hy6; have z4 := hy7; have e_0 : (0 : Int32).toInt = 0 := (by decide +kernel); have w0 := nI_toInt (n := capw) (by omega); omega))⟩) (by rw [hM]; rfl) (by decide) rfl) hS.2.2 dJ5_ensureCapacityInternal_d00df_38
  · rw [if_neg c_1] at hM
    refine lv_aload_n hx hb dJ5_ensureCapacityInternal_d00df_17 rfl (lv_at hl 1 rfl) ?_
    refine lv_aload_n hx hb dJ5_ensureCapacityInternal_d00df_18 rfl (lv_at hl 1 rfl) ?_
    refine va_get (D := D) (ci := 1) (v := .ref h_wb) (own := RJ5) (C := RJ4) (T := TJ4) (N := 4) hx hb hts hi_J4 hown hK hP 1 rfl rfl 0 (by decide) (hts (.fieldLink RJ5 15 "java/lang/AbstractStringBuilder" "value" "[B") (List.mem_of_getElem? (i := 1) (by decide +kernel))) (fun _ h9 => h9) rfl dJ5_ensureCapacityInternal_d00df_19 ?_
    refine lv_aload_n hx hb dJ5_ensureCapacityInternal_d00df_22 rfl (lv_at hl 1 rfl) ?_
    refine lv_iload_n hx hb dJ5_ensureCapacityInternal_d00df_23 rfl (lv_at hl 2 rfl) ?_
    refine kr_ (va_runU (As := [.int a1]) (rest := [.ref h_wb, .ref h_B]) ⟨hx, hb, hml, hown, hts⟩ (c_J5_newCapacity_0f7a4 l hl0 D ad H.size h_wb h_B k_wb (h_B_2) (h_B_3) capw wb a1 hy0 (by have y0 := f_nle c_1; have z1 := hy4; have z2 := hy5; have z3 := hy6; have z4 := hy7; have e_0 : (0 : Int32).toInt = 0 := (by decide +kernel); have w0 := nI_toInt (n := capw) (by omega); omega) (by have y0 := f_nle c_1; have z1 := hy4; have z2 := hy5; have z3 := hy6; have z4 := hy7; have e_0 : (0 : Int32).toInt = 0 := (by decide +kernel); have w0 := nI_toInt (n := capw) (by omega); omega) (by have y0 := f_nle c_1; have z1 := hy4; have z2 := hy5; have z3 := hy6; have z4 := hy7; have e_0 : (0 : Int32).toInt = 0 := (by decide +kernel); have w0 := nI_toInt (n := capw) (by omega); omega) (by have y0 := f_nle c_1; have z1 := hy4; have z2 := hy5; have z3 := hy6; have z4 := hy7; have e_0 : (0 : Int32).toInt = 0 := (by decide +kernel); have w0 := nI_toInt (n := capw) (by omega); omega)) (va_cwU 1 hts gJ5_ensureCapacityInternal_d00df_J5_newCapacity_0f7a4_u104J4 rfl rfl rfl rfl (by decide +kernel) ⟨Nat.le_of_ble_eq_true rfl, Nat.le_of_ble_eq_true rfl⟩) ⟨PR_.blind, va_recv hK hP (ci := 1) (q0 := 1) rfl rfl, PR_.pre hF hK (hP.sub [0, 1] rfl) hS hA [0] rfl⟩ rfl rfl hl.1 rfl (lv_room (Nat.le_of_ble_eq_true rfl)) dJ5_ensureCapacityInternal_d00df_24 ⟨(show 0 + 0 ≤ (FF9).2.2.1 from (by rw [hM]; exact Nat.le_trans (show 0 + 0 ≤ (0 + 0) from (by omega)) (show (0 + 0) ≤ ((0 + 0) + (F_J7_copyOf_9075b wb capw (F_J5_newCapacity_0f7a4 capw a1)).2.2.1) from (by omega)))), (show 0 + 0 ≤ (FF9).2.2.2 from (by rw [hM]; exact Nat.le_trans (show 0 + 0 ≤ (0 + 0) from (by omega)) (show (0 + 0) ≤ ((0 + 0) + (F_J7_copyOf_9075b wb capw (F_J5_newCapacity_0f7a4 capw a1)).2.2.2) from (by omega))))⟩) hP hS hA (fun H locs hP hS => ?_)
    refine W.eq (g2 := F0 m 27 ls [.int (F_J5_newCapacity_0f7a4 capw a1), .ref h_wb, .ref h_B]) rfl ?_
    refine lv_aload_n hx hb dJ5_ensureCapacityInternal_d00df_27 rfl (lv_at hl 1 rfl) ?_
    refine va_get (D := D) (ci := 1) (v := .int 0) (own := RJ5) (C := RJ4) (T := TJ4) (N := 4) hx hb hts hi_J4 hown hK hP 1 rfl rfl 1 (by decide) (hts (.fieldLink RJ5 22 "java/lang/AbstractStringBuilder" "coder" "B") (List.mem_of_getElem? (i := 2) (by decide +kernel))) (fun _ h9 => h9) rfl dJ5_ensureCapacityInternal_d00df_28 ?_
    refine lv_ishl hx hb dJ5_ensureCapacityInternal_d00df_31 ?_
    refine kt_ (v := (F_J5_newCapacity_0f7a4 capw a1)) (shl0_ _) ?_
    refine kc_ (wc := [(h_wb, .inl (k_wb, capw, .inl wb))]) (wr := [(h_B, .inr (1, [.ref h_wb, .int 0, h_B_2, h_B_3]))]) (va_runS (As := [.ref h_wb, .int (F_J5_newCapacity_0f7a4 capw a1)]) (rest := [.ref h_B]) ⟨hx, hb, hml, hown, hts⟩ (c_J7_copyOf_9075b l hl0 D ad H.size h_wb k_wb capw wb (F_J5_newCapacity_0f7a4 capw a1) hy0 (by have y0 := f_nle c_1; have z1 := hy4; have z2 := hy5; have z3 := hy6; have z4 := hy7; have b21 := Int32.toInt_lt (a1); have d21 := Int32.le_toInt (a1); have rnc := R_J5_newCapacity capw a1 (by omega) (by omega) (by omega); have e_0 : (0 : Int32).toInt = 0 := (by decide +kernel); have b22 := Int32.toInt_lt (F_J5_newCapacity_0f7a4 capw a1); have d22 := Int32.le_toInt (F_J5_newCapacity_0f7a4 capw a1); have w0 := nI_toInt (n := capw) (by omega); omega) (by have y0 := f_nle c_1; have z1 := hy4; have z2 := hy5; have z3 := hy6; have z4 := hy7; have e_0 : (0 : Int32).toInt = 0 := (by decide +kernel); have w0 := nI_toInt (n := capw) (by omega); omega) (by have y0 := f_nle c_1; have z1 := hy4; have z2 := hy5; have z3 := hy6; have z4 := hy7; have b23 := Int32.toInt_lt (a1); have d23 := Int32.le_toInt (a1); have rnc := R_J5_newCapacity capw a1 (by omega) (by omega) (by omega); have e_0 : (0 : Int32).toInt = 0 := (by decide +kernel); have b24 := Int32.toInt_lt (F_J5_newCapacity_0f7a4 capw a1); have d24 := Int32.le_toInt (F_J5_newCapacity_0f7a4 capw a1); have w0 := nI_toInt (n := capw) (by omega); omega)) (va_cwS 2 hts gJ5_ensureCapacityInternal_d00df_J7_copyOf_9075b rfl rfl rfl (by decide +kernel) ⟨Nat.le_of_ble_eq_true rfl, Nat.le_of_ble_eq_true rfl⟩) ⟨PC_.blind, PC_.pre hF hK hP hD hS hA [0] [0] rfl (by decide) rfl⟩ rfl rfl hl.1 rfl (lv_room (Nat.le_of_ble_eq_true rfl)) dJ5_ensureCapacityInternal_d00df_32 ⟨(show (0 + 0) + ((F_J7_copyOf_9075b wb capw (F_J5_newCapacity_0f7a4 capw a1)).2.2.1) ≤ (FF9).2.2.1 from (by rw [hM]; exact Nat.le_trans (show (0 + 0) + ((F_J7_copyOf_9075b wb capw (F_J5_newCapacity_0f7a4 capw a1)).2.2.1) ≤ ((0 + 0) + (F_J7_copyOf_9075b wb capw (F_J5_newCapacity_0f7a4 capw a1)).2.2.1) from (by omega)) (show ((0 + 0) + (F_J7_copyOf_9075b wb capw (F_J5_newCapacity_0f7a4 capw a1)).2.2.1) ≤ ((0 + 0) + (F_J7_copyOf_9075b wb capw (F_J5_newCapacity_0f7a4 capw a1)).2.2.1) from (by omega)))), (show (0 + 0) + ((F_J7_copyOf_9075b wb capw (F_J5_newCapacity_0f7a4 capw a1)).2.2.2) ≤ (FF9).2.2.2 from (by rw [hM]; exact Nat.le_trans (show (0 + 0) + ((F_J7_copyOf_9075b wb capw (F_J5_newCapacity_0f7a4 capw a1)).2.2.2) ≤ ((0 + 0) + (F_J7_copyOf_9075b wb capw (F_J5_newCapacity_0f7a4 capw a1)).2.2.2) from (by omega)) (show ((0 + 0) + (F_J7_copyOf_9075b wb capw (F_J5_newCapacity_0f7a4 capw a1)).2.2.2) ≤ ((0 + 0) + (F_J7_copyOf_9075b wb capw (F_J5_newCapacity_0f7a4 capw a1)).2.2.2) from (by omega))))⟩) hK hP hD hS hA [0] [1] [] rfl rfl (by decide) (by decide) rfl (fun qa_3 ka_3 ia H locs hpo hP hD hK hS => ?_)
    have hen_3 : sb_Fit ((F_J7_copyOf_9075b wb capw (F_J5_newCapacity_0f7a4 capw a1)).2.1) := hpo
    have hP : va_P D vwCl [(h_B, .inr (1, [.ref h_wb, .int 0, h_B_2, h_B_3])), (h_wb, .inl (k_wb, capw, .inl wb)), ((qa_3 0), .inl ((ka_3 0), (F_J7_copyOf_9075b wb capw (F_J5_newCapacity_0f7a4 capw a1)).1, .inl (F_J7_copyOf_9075b wb capw (F_J5_newCapacity_0f7a4 capw a1)).2.1))] H := hP
    have hD : va_D A [(h_B, .inr (1, [.ref h_wb, .int 0, h_B_2, h_B_3])), (h_wb, .inl (k_wb, capw, .inl wb)), ((qa_3 0), .inl ((ka_3 0), (F_J7_copyOf_9075b wb capw (F_J5_newCapacity_0f7a4 capw a1)).1, .inl (F_J7_copyOf_9075b wb capw (F_J5_newCapacity_0f7a4 capw a1)).2.1))] := hD
    have hK : va_K D vwCl [(k_wb, .byte), ((ka_3 0), .int)] s := hK
    refine W.eq (g2 := F0 m 35 ls [.ref (qa_3 0), .ref h_B]) rfl ?_
    refine va_put (D := D) (ci := 1) (v := .ref (qa_3 0)) (ty := tyJ4 0) (own := RJ5) (C := RJ4) (T := TJ4) (N := 4) hx hb hts hi_J4 tyJ4 tyJ4_ok nmJ4 hown hK hP hD hS 0 rfl rfl 0 (by decide) (hts (.fieldLink RJ5 15 "java/lang/AbstractStringBuilder" "value" "[B") (List.mem_of_getElem? (i := 1) (by decide +kernel))) (fun _ h9 => h9) rfl (by decide +kernel) rfl rfl (Nat.le_of_ble_eq_true rfl) dJ5_ensureCapacityInternal_d00df_35 (fun H locs hP hD hS => ?_)
    have hP : va_P D vwCl [(h_B, .inr (1, [.ref (qa_3 0), .int 0, h_B_2, h_B_3])), (h_wb, .inl (k_wb, capw, .inl wb)), ((qa_3 0), .inl ((ka_3 0), (F_J7_copyOf_9075b wb capw (F_J5_newCapacity_0f7a4 capw a1)).1, .inl (F_J7_copyOf_9075b wb capw (F_J5_newCapacity_0f7a4 capw a1)).2.1))] H := hP
    have hD : va_D A [(h_B, .inr (1, [.ref (qa_3 0), .int 0, h_B_2, h_B_3])), (h_wb, .inl (k_wb, capw, .inl wb)), ((qa_3 0), .inl ((ka_3 0), (F_J7_copyOf_9075b wb capw (F_J5_newCapacity_0f7a4 capw a1)).1, .inl (F_J7_copyOf_9075b wb capw (F_J5_newCapacity_0f7a4 capw a1)).2.1))] := hD
    refine W.widen (k := (FF9).2.2.1) (n := (FF9).2.2.2) (Nat.le_of_eq (by rw [hM])) (Nat.le_of_eq (by rw [hM])) ?_
    exact W.vret hx hb hr (QG_.mk (fun n => [(qa_3 0)].getD n 0) (fun n => [(ka_3 0)].getD n 0) (fun _ => 0) [2, 0] [1] hP hD hK hS rfl (by rw [hM]; exact ⟨(show sb_Fit ((F_J7_copyOf_9075b wb capw (F_J5_newCapacity_0f7a4 capw a1)).2.1) from hen_3), (show a1.toInt ≤ ((F_J7_copyOf_9075b wb capw (F_J5_newCapacity_0f7a4 capw a1)).1) from (by have y0 := f_nle c_1; have z1 := hy4; have z2 := hy5; have z3 := hy6; have z4 := hy7; have z5 := hen_3; have b25 := Int32.toInt_lt (a1); have d25 := Int32.le_toInt (a1); have rnc := R_J5_newCapacity capw a1 (by omega) (by omega) (by omega); have b26 := Int32.toInt_lt (F_J5_newCapacity_0f7a4 capw a1); have d26 := Int32.le_toInt (F_J5_newCapacity_0f7a4 capw a1); have rcb : (F_J7_copyOf_9075b wb capw (F_J5_newCapacity_0f7a4 capw a1)).1 = ix (F_J5_newCapacity_0f7a4 capw a1) := rfl; have rby := ix_toNat (F_J5_newCapacity_0f7a4 capw a1); have e_0 : (0 : Int32).toInt = 0 := (by decide +kernel); have w0 := nI_toInt (n := capw) (by omega); omega)), (show 16 ≤ ((F_J7_copyOf_9075b wb capw (F_J5_newCapacity_0f7a4 capw a1)).1) from (by have y0 := f_nle c_1; have z1 := hy4; have z2 := hy5; have z3 := hy6; have z4 := hy7; have z5 := hen_3; have b27 := Int32.toInt_lt (a1); have d27 := Int32.le_toInt (a1); have rnc := R_J5_newCapacity capw a1 (by omega) (by omega) (by omega); have b28 := Int32.toInt_lt (F_J5_newCapacity_0f7a4 capw a1); have d28 := Int32.le_toInt (F_J5_newCapacity_0f7a4 capw a1); have rcb : (F_J7_copyOf_9075b wb capw (F_J5_newCapacity_0f7a4 capw a1)).1 = ix (F_J5_newCapacity_0f7a4 capw a1) := rfl; have rby := ix_toNat (F_J5_newCapacity_0f7a4 capw a1); have e_0 : (0 : Int32).toInt = 0 := (by decide +kernel); have w0 := nI_toInt (n := capw) (by omega); omega)), (show capw ≤ ((F_J7_copyOf_9075b wb capw (F_J5_newCapacity_0f7a4 capw a1)).1) from (by have y0 := f_nle c_1; have z1 := hy4; have z2 := hy5; have z3 := hy6; have z4 := hy7; have z5 := hen_3; have b29 := Int32.toInt_lt (a1); have d29 := Int32.le_toInt (a1); have rnc := R_J5_newCapacity capw a1 (by omega) (by omega) (by omega); have b30 := Int32.toInt_lt (F_J5_newCapacity_0f7a4 capw a1); have d30 := Int32.le_toInt (F_J5_newCapacity_0f7a4 capw a1); have rcb : (F_J7_copyOf_9075b wb capw (F_J5_newCapacity_0f7a4 capw a1)).1 = ix (F_J5_newCapacity_0f7a4 capw a1) := rfl; have rby := ix_toNat (F_J5_newCapacity_0f7a4 capw a1); have e_0 : (0 : Int32).toInt = 0 := (by decide +kernel); have w0 := nI_toInt (n := capw) (by omega); omega)), (show ((F_J7_copyOf_9075b wb capw (F_J5_newCapacity_0f7a4 capw a1)).1) ≤ 20000 from (by have y0 := f_nle c_1; have z1 := hy4; have z2 := hy5; have z3 := hy6; have z4 := hy7; have z5 := hen_3; have b31 := Int32.toInt_lt (a1); have d31 := Int32.le_toInt (a1); have rnc := R_J5_newCapacity capw a1 (by omega) (by omega) (by omega); have b32 := Int32.toInt_lt (F_J5_newCapacity_0f7a4 capw a1); have d32 := Int32.le_toInt (F_J5_newCapacity_0f7a4 capw a1); have rcb : (F_J7_copyOf_9075b wb capw (F_J5_newCapacity_0f7a4 capw a1)).1 = ix (F_J5_newCapacity_0f7a4 capw a1) := rfl; have rby := ix_toNat (F_J5_newCapacity_0f7a4 capw a1); have e_0 : (0 : Int32).toInt = 0 := (by decide +kernel); have w0 := nI_toInt (n := capw) (by omega); omega))⟩) (by rw [hM]; rfl) (by decide) rfl) hS.2.2 dJ5_ensureCapacityInternal_d00df_38
def F_J5_isLatin1_aae02  : Int32 := 1
set_option maxHeartbeats 4000000 in
set_option maxRecDepth 100000 in
theorem c_J5_isLatin1_aae02 (l : Launch) (hl0 : l.stackTraces = false) (D : va_G) (ad : Nat → Nat) (sz : Nat) (h_B : Nat) (h_B_0 : Value) (h_B_2 : Value) (h_B_3 : Value) : Met l yJ5_isLatin1_aae02 wsJ5_isLatin1_aae02 ({ frames := 0, cells := 0, slots := 0, locals := 0 }) (PR_ D ad [(h_B, .inr (1, [h_B_0, .int 0, h_B_2, h_B_3]))] [] sz [.ref h_B]) (QR_ (.int (F_J5_isLatin1_aae02)) (va_A [] sz)) 0 0 (va_A [] sz) := by
  refine Met.ofW (cc := cJ5_isLatin1_aae02) (maxL := 1) (ret := (some .boolean)) (by decide) rfl ?_
  intro p e s m args below meth c s₁ B hml hv
  obtain ⟨rfl, hsz, hP, hK, hF⟩ := hv
  have hx := B.exec
  have hb := B.bytes
  have hr := B.returns
  have hts := atoms_spec (ws := wsJ5_isLatin1_aae02) B.pre
  have hown : s.vm.findClass RJ5 = some m.cls := findClass_of_methodNamed B.named
  have hlocks := B.notSynchronized
  subst hsz
  generalize hAe : va_A [] s.heap.size = A at hF ⊢
  have hA : ∀ q : Nat, s.heap.size ≤ q → A q := fun q h => by rw [← hAe]; exact Or.inr h
  obtain ⟨H, hHe⟩ : ∃ H : Heap, H = s.heap := ⟨_, rfl⟩
  have hS : va_S A s.heap H [] := by rw [hHe]; exact va_S.rf
  have hP : va_P D vwCl [(h_B, .inr (1, [h_B_0, .int 0, h_B_2, h_B_3]))] H := by rw [hHe]; exact hP
  rw [← hHe]
  have hi_J4 : ∀ w ∈ wsJ40, w ∈ wsJ5_isLatin1_aae02 := by decide +kernel
  have hl := lv_entry [.ref h_B] (n := 1) (Nat.le_of_ble_eq_true rfl)
  rw [lg_entry_eq]
  generalize (lg_sl [.ref h_B] ++ List.replicate (1 - (lg_sl [.ref h_B]).length) Slot.unset).toArray = ls at hl ⊢
  have hl : lv_has ls 1 [(0, .ref h_B)] := hl
  have hM : F_J5_isLatin1_aae02 = 1 := rfl
  refine va_gets (C := "java/lang/String") (n := "COMPACT_STRINGS") (d := "Z") (own := RJ5) (ref := "java/lang/String") (v := .int 1) hx hb hF.2.2.2.1 hS hown (hts (.fieldLink RJ5 18 "java/lang/String" "COMPACT_STRINGS" "Z") (List.mem_of_getElem? (i := 1) (by decide +kernel))) (fun _ h9 => h9) dJ5_isLatin1_aae02_0 ?_
  refine lv_if_eq (tgt := 17) hx hb dJ5_isLatin1_aae02_3 (by decide) (fun c9 => absurd c9 (by decide +kernel)) (fun _ => ?_)
  refine lv_aload_n hx hb dJ5_isLatin1_aae02_6 rfl (lv_at hl 0 rfl) ?_
  refine va_get (D := D) (ci := 1) (v := .int 0) (own := RJ5) (C := RJ4) (T := TJ4) (N := 4) hx hb hts hi_J4 hown hK hP 0 rfl rfl 1 (by decide) (hts (.fieldLink RJ5 22 "java/lang/AbstractStringBuilder" "coder" "B") (List.mem_of_getElem? (i := 2) (by decide +kernel))) (fun _ h9 => h9) rfl dJ5_isLatin1_aae02_7 ?_
  refine lv_if_ne (tgt := 17) hx hb dJ5_isLatin1_aae02_10 (by decide) (fun c9 => absurd (by decide +kernel) c9) (fun _ => ?_)
  refine lv_iconst (v := 1) hx hb dJ5_isLatin1_aae02_13 (by decide) ?_
  refine lv_goto (tgt := 18) hx hb dJ5_isLatin1_aae02_14 (by decide) ?_
  refine W.widen (k := 0) (n := 0) (Nat.le_of_ble_eq_true rfl) (Nat.le_of_ble_eq_true rfl) ?_
  exact W.zret (v := 1) hx hb hr rfl (QR_.mk hS (by rw [hM])) hS.2.2 dJ5_isLatin1_aae02_18
def F_J1_canEncode_fc78d (a1 : Int32) : Int32 := (if 255 < (ci_ a1) then 0 else 1)
theorem R_J1_canEncode (a : Int32) (h : (ci_ a).toInt ≤ 255) : (F_J1_canEncode_fc78d a).toInt = 1 := by
  have e : (255 : Int32).toInt = 255 := by decide +kernel
  unfold F_J1_canEncode_fc78d
  by_cases c : 255 < ci_ a
  · have y := f_lt c
    omega
  · rw [if_neg c]; decide +kernel
set_option maxHeartbeats 4000000 in
set_option maxRecDepth 100000 in
theorem c_J1_canEncode_fc78d (l : Launch) (hl0 : l.stackTraces = false) (D : va_G) (ad : Nat → Nat) (sz : Nat) (a1 : Int32) : Met l yJ1_canEncode_fc78d wsJ1_canEncode_fc78d ({ frames := 0, cells := 0, slots := 0, locals := 0 }) (PR_ D ad [] [] sz [.int (ci_ a1)]) (QR_ (.int (F_J1_canEncode_fc78d a1)) (va_A [] sz)) 0 0 (va_A [] sz) := by
  refine Met.ofW (cc := cJ1_canEncode_fc78d) (maxL := 1) (ret := (some .boolean)) (by decide) rfl ?_
  intro p e s m args below meth c s₁ B hml hv
  obtain ⟨rfl, hsz, hP, hK, hF⟩ := hv
  have hx := B.exec
  have hb := B.bytes
  have hr := B.returns
  have hts := atoms_spec (ws := wsJ1_canEncode_fc78d) B.pre
  have hown : s.vm.findClass RJ1 = some m.cls := findClass_of_methodNamed B.named
  have hlocks := B.notSynchronized
  subst hsz
  generalize hAe : va_A [] s.heap.size = A at hF ⊢
  have hA : ∀ q : Nat, s.heap.size ≤ q → A q := fun q h => by rw [← hAe]; exact Or.inr h
  obtain ⟨H, hHe⟩ : ∃ H : Heap, H = s.heap := ⟨_, rfl⟩
  have hS : va_S A s.heap H [] := by rw [hHe]; exact va_S.rf
  have hP : va_P D vwCl [] H := by rw [hHe]; exact hP
  rw [← hHe]
  have hl := lv_entry [.int (ci_ a1)] (n := 1) (Nat.le_of_ble_eq_true rfl)
  rw [lg_entry_eq]
  generalize (lg_sl [.int (ci_ a1)] ++ List.replicate (1 - (lg_sl [.int (ci_ a1)]).length) Slot.unset).toArray = ls at hl ⊢
  have hl : lv_has ls 1 [(0, .int (ci_ a1))] := hl
  have hM : F_J1_canEncode_fc78d a1 = (if 255 < (ci_ a1) then 0 else 1) := rfl
  refine lv_iload_n hx hb dJ1_canEncode_fc78d_0 rfl (lv_at hl 0 rfl) ?_
  refine lv_sipush (v := 255) hx hb dJ1_canEncode_fc78d_1 (by decide +kernel) ?_
  refine lv_icmp_gt (tgt := 11) hx hb dJ1_canEncode_fc78d_4 (by decide) (fun c_1 => ?_) (fun c_1 => ?_)
  · rw [if_pos c_1] at hM
    refine lv_iconst (v := 0) hx hb dJ1_canEncode_fc78d_11 (by decide) ?_
    refine W.widen (k := 0) (n := 0) (Nat.le_of_ble_eq_true rfl) (Nat.le_of_ble_eq_true rfl) ?_
    exact W.zret (v := 0) hx hb hr rfl (QR_.mk hS (by rw [hM])) hS.2.2 dJ1_canEncode_fc78d_12
  · rw [if_neg c_1] at hM
    refine lv_iconst (v := 1) hx hb dJ1_canEncode_fc78d_7 (by decide) ?_
    refine lv_goto (tgt := 12) hx hb dJ1_canEncode_fc78d_8 (by decide) ?_
    refine W.widen (k := 0) (n := 0) (Nat.le_of_ble_eq_true rfl) (Nat.le_of_ble_eq_true rfl) ?_
    exact W.zret (v := 1) hx hb hr rfl (QR_.mk hS (by rw [hM])) hS.2.2 dJ1_canEncode_fc78d_12
def F_J5_append_3fe6f (wb : Nat → Int32) (capw : Nat) (wn : Int32) (a1 : Int32) : Nat × (Nat → Int32) × Int32 × Nat × Nat := ((F_J5_ensureCapacityInternal_d00df wb capw (wn + 1)).1, (upd (F_J5_ensureCapacityInternal_d00df wb capw (wn + 1)).2.1 (ix wn) (vp_nar .byte (ci_ a1))), (wn + 1), (((0 + (F_J5_ensureCapacityInternal_d00df wb capw (wn + 1)).2.2.1) + 0) + 0), (((0 + (F_J5_ensureCapacityInternal_d00df wb capw (wn + 1)).2.2.2) + 0) + 0))
set_option maxHeartbeats 4000000 in
set_option maxRecDepth 100000 in
theorem c_J5_append_3fe6f (l : Launch) (hl0 : l.stackTraces = false) (D : va_G) (ad : Nat → Nat) (sz : Nat) (h_wb : Nat) (h_B : Nat) (k_wb : ClassId) (h_B_2 : Value) (capw : Nat) (wb : Nat → Int32) (wn : Int32) (a1 : Int32) (hy0 : sb_Fit wb) (hy1 : 0 ≤ wn.toInt) (hy2 : wn.toInt ≤ capw) (hy3 : wn.toInt ≤ 5000) (hy4 : capw ≤ 20000) (hy5 : 16 ≤ capw) (hy6 : (ci_ a1).toInt ≤ 255) (hy7 : wn.toInt < 5000) : Met l yJ5_append_3fe6f wsJ5_append_3fe6f ({ frames := 4, cells := (F_J5_append_3fe6f wb capw wn a1).2.2.2.1, slots := (F_J5_append_3fe6f wb capw wn a1).2.2.2.2, locals := 116 }) (PC_ D ad [(h_wb, .inl (k_wb, capw, .inl wb)), (h_B, .inr (1, [.ref h_wb, .int 0, h_B_2, .int wn]))] [(k_wb, .byte)] sz [.ref h_B, .int (ci_ a1)]) (QG_ D (fun q i => some (.ref h_B)) (fun q i => sb_Fit ((F_J5_append_3fe6f wb capw wn a1).2.1) ∧ ((F_J5_append_3fe6f wb capw wn a1).2.2.1).toInt = wn.toInt + 1 ∧ ((F_J5_append_3fe6f wb capw wn a1).2.2.1).toInt ≤ ((F_J5_append_3fe6f wb capw wn a1).1) ∧ 16 ≤ ((F_J5_append_3fe6f wb capw wn a1).1) ∧ capw ≤ ((F_J5_append_3fe6f wb capw wn a1).1) ∧ ((F_J5_append_3fe6f wb capw wn a1).1) ≤ 20000) (fun q k i => [((q 0), .inl ((k 0), (F_J5_append_3fe6f wb capw wn a1).1, .inl (F_J5_append_3fe6f wb capw wn a1).2.1)), (h_B, .inr (1, [.ref (q 0), .int 0, h_B_2, .int (F_J5_append_3fe6f wb capw wn a1).2.2.1]))]) (fun q k i => [((k 0), .byte)]) (va_A [(h_wb, .inl (k_wb, capw, .inl wb)), (h_B, .inr (1, [.ref h_wb, .int 0, h_B_2, .int wn]))] sz)) (F_J5_append_3fe6f wb capw wn a1).2.2.2.1 (F_J5_append_3fe6f wb capw wn a1).2.2.2.2 (va_A [(h_wb, .inl (k_wb, capw, .inl wb)), (h_B, .inr (1, [.ref h_wb, .int 0, h_B_2, .int wn]))] sz) := by
  refine Met.ofW (cc := cJ5_append_3fe6f) (maxL := 2) (ret := (some (.object "java/lang/AbstractStringBuilder"))) (by decide) rfl ?_
  intro p e s m args below meth c s₁ B hml hv
  obtain ⟨rfl, hsz, hP, hK, hD0, hF⟩ := hv
  have hx := B.exec
  have hb := B.bytes
  have hr := B.returns
  have hts := atoms_spec (ws := wsJ5_append_3fe6f) B.pre
  have hown : s.vm.findClass RJ5 = some m.cls := findClass_of_methodNamed B.named
  have hlocks := B.notSynchronized
  subst hsz
  have hD := hD0.self (sz := s.heap.size)
  generalize hAe : va_A [(h_wb, .inl (k_wb, capw, .inl wb)), (h_B, .inr (1, [.ref h_wb, .int 0, h_B_2, .int wn]))] s.heap.size = A at hD hF ⊢
  have hA : ∀ q : Nat, s.heap.size ≤ q → A q := fun q h => by rw [← hAe]; exact Or.inr h
  obtain ⟨H, hHe⟩ : ∃ H : Heap, H = s.heap := ⟨_, rfl⟩
  have hS : va_S A s.heap H [] := by rw [hHe]; exact va_S.rf
  have hP : va_P D vwCl [(h_wb, .inl (k_wb, capw, .inl wb)), (h_B, .inr (1, [.ref h_wb, .int 0, h_B_2, .int wn]))] H := by rw [hHe]; exact hP
  rw [← hHe]
  have hi_J4 : ∀ w ∈ wsJ40, w ∈ wsJ5_append_3fe6f := by decide +kernel
  have hl := lv_entry [.ref h_B, .int (ci_ a1)] (n := 2) (Nat.le_of_ble_eq_true rfl)
  rw [lg_entry_eq]
  generalize (lg_sl [.ref h_B, .int (ci_ a1)] ++ List.replicate (2 - (lg_sl [.ref h_B, .int (ci_ a1)]).length) Slot.unset).toArray = ls at hl ⊢
  have hl : lv_has ls 2 [(0, .ref h_B), (1, .int (ci_ a1))] := hl
  generalize hF9 : F_J5_append_3fe6f wb capw wn a1 = FF9
  have hM : FF9 = ((F_J5_ensureCapacityInternal_d00df wb capw (wn + 1)).1, (upd (F_J5_ensureCapacityInternal_d00df wb capw (wn + 1)).2.1 (ix wn) (vp_nar .byte (ci_ a1))), (wn + 1), (((0 + (F_J5_ensureCapacityInternal_d00df wb capw (wn + 1)).2.2.1) + 0) + 0), (((0 + (F_J5_ensureCapacityInternal_d00df wb capw (wn + 1)).2.2.2) + 0) + 0)) := hF9.symm
  refine lv_aload_n hx hb dJ5_append_3fe6f_0 rfl (lv_at hl 0 rfl) ?_
  refine lv_aload_n hx hb dJ5_append_3fe6f_1 rfl (lv_at hl 0 rfl) ?_
  refine va_get (D := D) (ci := 1) (v := .int wn) (own := RJ5) (C := RJ4) (T := TJ4) (N := 4) hx hb hts hi_J4 hown hK hP 1 rfl rfl 3 (by decide) (hts (.fieldLink RJ5 79 "java/lang/AbstractStringBuilder" "count" "I") (List.mem_of_getElem? (i := 1) (by decide +kernel))) (fun _ h9 => h9) rfl dJ5_append_3fe6f_2 ?_
  refine lv_iconst (v := 1) hx hb dJ5_append_3fe6f_5 (by decide) ?_
  refine lv_iadd hx hb dJ5_append_3fe6f_6 ?_
  refine kc_ (wc := [(h_wb, .inl (k_wb, capw, .inl wb)), (h_B, .inr (1, [.ref h_wb, .int 0, h_B_2, .int wn]))]) (wr := []) (va_runU (As := [.int (wn + 1)]) (rest := []) ⟨hx, hb, hml, hown, hts⟩ (c_J5_ensureCapacityInternal_d00df l hl0 D ad H.size h_wb h_B k_wb (h_B_2) (.int wn) capw wb (wn + 1) hy0 (by have z1 := hy1; have z2 := hy2; have z3 := hy3; have z4 := hy4; have z5 := hy5; have z6 := hy6; have z7 := hy7; omega) (by have z1 := hy1; have z2 := hy2; have z3 := hy3; have z4 := hy4; have z5 := hy5; have z6 := hy6; have z7 := hy7; omega) (by have z1 := hy1; have z2 := hy2; have z3 := hy3; have z4 := hy4; have z5 := hy5; have z6 := hy6; have z7 := hy7; have b30 := Int32.toInt_lt (wn); have d30 := Int32.le_toInt (wn); have l31 : (1 : Int32).toInt = 1 := (by decide +kernel); have q29 := addI (a := wn) (b := 1) (by omega) (by omega); omega) (by have z1 := hy1; have z2 := hy2; have z3 := hy3; have z4 := hy4; have z5 := hy5; have z6 := hy6; have z7 := hy7; have b33 := Int32.toInt_lt (wn); have d33 := Int32.le_toInt (wn); have l34 : (1 : Int32).toInt = 1 := (by decide +kernel); have q32 := addI (a := wn) (b := 1) (by omega) (by omega); omega)) (va_cwU 1 hts gJ5_append_3fe6f_J5_ensureCapacityInternal_d00df_u100J4 rfl rfl rfl rfl (by decide +kernel) ⟨Nat.le_of_ble_eq_true rfl, Nat.le_of_ble_eq_true rfl⟩) ⟨PC_.blind, va_recv hK hP (ci := 1) (q0 := 1) rfl rfl, PC_.pre hF hK hP hD hS hA [0, 1] [0] rfl (by decide) rfl⟩ rfl rfl hl.1 rfl (lv_room (Nat.le_of_ble_eq_true rfl)) dJ5_append_3fe6f_7 ⟨(show 0 + ((F_J5_ensureCapacityInternal_d00df wb capw (wn + 1)).2.2.1) ≤ (FF9).2.2.2.1 from (by rw [hM]; exact Nat.le_trans (show 0 + ((F_J5_ensureCapacityInternal_d00df wb capw (wn + 1)).2.2.1) ≤ (0 + (F_J5_ensureCapacityInternal_d00df wb capw (wn + 1)).2.2.1) from (by omega)) (show (0 + (F_J5_ensureCapacityInternal_d00df wb capw (wn + 1)).2.2.1) ≤ (((0 + (F_J5_ensureCapacityInternal_d00df wb capw (wn + 1)).2.2.1) + 0) + 0) from (by omega)))), (show 0 + ((F_J5_ensureCapacityInternal_d00df wb capw (wn + 1)).2.2.2) ≤ (FF9).2.2.2.2 from (by rw [hM]; exact Nat.le_trans (show 0 + ((F_J5_ensureCapacityInternal_d00df wb capw (wn + 1)).2.2.2) ≤ (0 + (F_J5_ensureCapacityInternal_d00df wb capw (wn + 1)).2.2.2) from (by omega)) (show (0 + (F_J5_ensureCapacityInternal_d00df wb capw (wn + 1)).2.2.2) ≤ (((0 + (F_J5_ensureCapacityInternal_d00df wb capw (wn + 1)).2.2.2) + 0) + 0) from (by omega))))⟩) hK hP hD hS hA [0, 1] [] [] rfl rfl (by decide) (by decide) rfl (fun qa_1 ka_1 ia H locs hpo hP hD hK hS => ?_)
  have hen_1 : sb_Fit ((F_J5_ensureCapacityInternal_d00df wb capw (wn + 1)).2.1) ∧ (wn + 1).toInt ≤ ((F_J5_ensureCapacityInternal_d00df wb capw (wn + 1)).1) ∧ 16 ≤ ((F_J5_ensureCapacityInternal_d00df wb capw (wn + 1)).1) ∧ capw ≤ ((F_J5_ensureCapacityInternal_d00df wb capw (wn + 1)).1) ∧ ((F_J5_ensureCapacityInternal_d00df wb capw (wn + 1)).1) ≤ 20000 := hpo
  have hP : va_P D vwCl [((qa_1 0), .inl ((ka_1 0), (F_J5_ensureCapacityInternal_d00df wb capw (wn + 1)).1, .inl (F_J5_ensureCapacityInternal_d00df wb capw (wn + 1)).2.1)), (h_B, .inr (1, [.ref (qa_1 0), .int 0, h_B_2, .int wn]))] H := hP
  have hD : va_D A [((qa_1 0), .inl ((ka_1 0), (F_J5_ensureCapacityInternal_d00df wb capw (wn + 1)).1, .inl (F_J5_ensureCapacityInternal_d00df wb capw (wn + 1)).2.1)), (h_B, .inr (1, [.ref (qa_1 0), .int 0, h_B_2, .int wn]))] := hD
  have hK : va_K D vwCl [((ka_1 0), .byte)] s := hK
  refine W.eq (g2 := F0 m 10 ls []) rfl ?_
  refine lv_aload_n hx hb dJ5_append_3fe6f_10 rfl (lv_at hl 0 rfl) ?_
  refine kr_ (va_runU (As := []) (rest := []) ⟨hx, hb, hml, hown, hts⟩ (c_J5_isLatin1_aae02 l hl0 D ad H.size h_B (.ref (qa_1 0)) (h_B_2) (.int wn)) (va_cwU 0 hts gJ5_append_3fe6f_J5_isLatin1_aae02_u83J4 rfl rfl rfl rfl (by decide +kernel) ⟨Nat.le_of_ble_eq_true rfl, Nat.le_of_ble_eq_true rfl⟩) ⟨PR_.blind, va_recv hK hP (ci := 1) (q0 := 1) rfl rfl, PR_.pre hF hK (hP.sub [1] rfl) hS hA [] rfl⟩ rfl rfl hl.1 rfl (lv_room (Nat.le_of_ble_eq_true rfl)) dJ5_append_3fe6f_11 ⟨(show (0 + (F_J5_ensureCapacityInternal_d00df wb capw (wn + 1)).2.2.1) + 0 ≤ (FF9).2.2.2.1 from (by rw [hM]; exact Nat.le_trans (show (0 + (F_J5_ensureCapacityInternal_d00df wb capw (wn + 1)).2.2.1) + 0 ≤ ((0 + (F_J5_ensureCapacityInternal_d00df wb capw (wn + 1)).2.2.1) + 0) from (by omega)) (show ((0 + (F_J5_ensureCapacityInternal_d00df wb capw (wn + 1)).2.2.1) + 0) ≤ (((0 + (F_J5_ensureCapacityInternal_d00df wb capw (wn + 1)).2.2.1) + 0) + 0) from (by omega)))), (show (0 + (F_J5_ensureCapacityInternal_d00df wb capw (wn + 1)).2.2.2) + 0 ≤ (FF9).2.2.2.2 from (by rw [hM]; exact Nat.le_trans (show (0 + (F_J5_ensureCapacityInternal_d00df wb capw (wn + 1)).2.2.2) + 0 ≤ ((0 + (F_J5_ensureCapacityInternal_d00df wb capw (wn + 1)).2.2.2) + 0) from (by omega)) (show ((0 + (F_J5_ensureCapacityInternal_d00df wb capw (wn + 1)).2.2.2) + 0) ≤ (((0 + (F_J5_ensureCapacityInternal_d00df wb capw (wn + 1)).2.2.2) + 0) + 0) from (by omega))))⟩) hP hS hA (fun H locs hP hS => ?_)
  refine W.eq (g2 := F0 m 14 ls [.int 1]) rfl ?_
  refine lv_if_eq (tgt := 45) hx hb dJ5_append_3fe6f_14 (by decide) (fun c9 => absurd c9 (by decide +kernel)) (fun _ => ?_)
  refine lv_iload_n hx hb dJ5_append_3fe6f_17 rfl (lv_at hl 1 rfl) ?_
  refine kr_ (va_runS (As := [.int (ci_ a1)]) (rest := []) ⟨hx, hb, hml, hown, hts⟩ (c_J1_canEncode_fc78d l hl0 D ad H.size a1) (va_cwS 1 hts gJ5_append_3fe6f_J1_canEncode_fc78d rfl rfl rfl (by decide +kernel) ⟨Nat.le_of_ble_eq_true rfl, Nat.le_of_ble_eq_true rfl⟩) ⟨PR_.blind, PR_.pre hF hK (hP.sub [] rfl) hS hA [] rfl⟩ rfl rfl hl.1 rfl (lv_room (Nat.le_of_ble_eq_true rfl)) dJ5_append_3fe6f_18 ⟨(show ((0 + (F_J5_ensureCapacityInternal_d00df wb capw (wn + 1)).2.2.1) + 0) + 0 ≤ (FF9).2.2.2.1 from (by rw [hM]; exact Nat.le_trans (show ((0 + (F_J5_ensureCapacityInternal_d00df wb capw (wn + 1)).2.2.1) + 0) + 0 ≤ (((0 + (F_J5_ensureCapacityInternal_d00df wb capw (wn + 1)).2.2.1) + 0) + 0) from (by omega)) (show (((0 + (F_J5_ensureCapacityInternal_d00df wb capw (wn + 1)).2.2.1) + 0) + 0) ≤ (((0 + (F_J5_ensureCapacityInternal_d00df wb capw (wn + 1)).2.2.1) + 0) + 0) from (by omega)))), (show ((0 + (F_J5_ensureCapacityInternal_d00df wb capw (wn + 1)).2.2.2) + 0) + 0 ≤ (FF9).2.2.2.2 from (by rw [hM]; exact Nat.le_trans (show ((0 + (F_J5_ensureCapacityInternal_d00df wb capw (wn + 1)).2.2.2) + 0) + 0 ≤ (((0 + (F_J5_ensureCapacityInternal_d00df wb capw (wn + 1)).2.2.2) + 0) + 0) from (by omega)) (show (((0 + (F_J5_ensureCapacityInternal_d00df wb capw (wn + 1)).2.2.2) + 0) + 0) ≤ (((0 + (F_J5_ensureCapacityInternal_d00df wb capw (wn + 1)).2.2.2) + 0) + 0) from (by omega))))⟩) hP hS hA (fun H locs hP hS => ?_)
  refine W.eq (g2 := F0 m 21 ls [.int (F_J1_canEncode_fc78d a1)]) rfl ?_
  refine lv_if_eq (tgt := 45) hx hb dJ5_append_3fe6f_21 (by decide) (fun c9 => False.elim (by have z1 := hy1; have z2 := hy2; have z3 := hy3; have z4 := hy4; have z5 := hy5; have z6 := hy6; have z7 := hy7; have z8 := hen_1; have rce := R_J1_canEncode a1 (by omega); have y9 := f_eq c9; have l0 : (0 : Int32).toInt = 0 := (by decide +kernel); omega)) (fun c_4 => ?_)
  refine lv_aload_n hx hb dJ5_append_3fe6f_24 rfl (lv_at hl 0 rfl) ?_
  refine va_get (D := D) (ci := 1) (v := .ref (qa_1 0)) (own := RJ5) (C := RJ4) (T := TJ4) (N := 4) hx hb hts hi_J4 hown hK hP 1 rfl rfl 0 (by decide) (hts (.fieldLink RJ5 15 "java/lang/AbstractStringBuilder" "value" "[B") (List.mem_of_getElem? (i := 2) (by decide +kernel))) (fun _ h9 => h9) rfl dJ5_append_3fe6f_25 ?_
  refine lv_aload_n hx hb dJ5_append_3fe6f_28 rfl (lv_at hl 0 rfl) ?_
  refine lv_dup hx hb dJ5_append_3fe6f_29 rfl ?_
  refine va_get (D := D) (ci := 1) (v := .int wn) (own := RJ5) (C := RJ4) (T := TJ4) (N := 4) hx hb hts hi_J4 hown hK hP 1 rfl rfl 3 (by decide) (hts (.fieldLink RJ5 79 "java/lang/AbstractStringBuilder" "count" "I") (List.mem_of_getElem? (i := 1) (by decide +kernel))) (fun _ h9 => h9) rfl dJ5_append_3fe6f_30 ?_
  refine lv_dup_x1 hx hb dJ5_append_3fe6f_33 rfl rfl ?_
  refine lv_iconst (v := 1) hx hb dJ5_append_3fe6f_34 (by decide) ?_
  refine lv_iadd hx hb dJ5_append_3fe6f_35 ?_
  refine va_put (D := D) (ci := 1) (v := .int (wn + 1)) (ty := .int) (own := RJ5) (C := RJ4) (T := TJ4) (N := 4) hx hb hts hi_J4 tyJ4 tyJ4_ok nmJ4 hown hK hP hD hS 1 rfl rfl 3 (by decide) (hts (.fieldLink RJ5 79 "java/lang/AbstractStringBuilder" "count" "I") (List.mem_of_getElem? (i := 1) (by decide +kernel))) (fun _ h9 => h9) rfl (by decide +kernel) rfl rfl (Nat.le_of_ble_eq_true rfl) dJ5_append_3fe6f_36 (fun H locs hP hD hS => ?_)
  have hP : va_P D vwCl [((qa_1 0), .inl ((ka_1 0), (F_J5_ensureCapacityInternal_d00df wb capw (wn + 1)).1, .inl (F_J5_ensureCapacityInternal_d00df wb capw (wn + 1)).2.1)), (h_B, .inr (1, [.ref (qa_1 0), .int 0, h_B_2, .int (wn + 1)]))] H := hP
  have hD : va_D A [((qa_1 0), .inl ((ka_1 0), (F_J5_ensureCapacityInternal_d00df wb capw (wn + 1)).1, .inl (F_J5_ensureCapacityInternal_d00df wb capw (wn + 1)).2.1)), (h_B, .inr (1, [.ref (qa_1 0), .int 0, h_B_2, .int (wn + 1)]))] := hD
  refine lv_iload_n hx hb dJ5_append_3fe6f_39 rfl (lv_at hl 1 rfl) ?_
  refine lv_i2b (v := (vp_nar .byte (ci_ a1))) hx hb dJ5_append_3fe6f_40 rfl ?_
  refine ka_bast (g := (upd (F_J5_ensureCapacityInternal_d00df wb capw (wn + 1)).2.1 (ix wn) (vp_nar .byte (ci_ a1)))) hx hb hK hP hD hS 0 0 rfl rfl (vinI (by have y0 := f_neq c_4; have z1 := hy1; have z2 := hy2; have z3 := hy3; have z4 := hy4; have z5 := hy5; have z6 := hy6; have z7 := hy7; have z8 := hen_1; have rce := R_J1_canEncode a1 (by omega); have e_0 : (0 : Int32).toInt = 0 := (by decide +kernel); have b37 := Int32.toInt_lt (wn); have d37 := Int32.le_toInt (wn); omega) (by have y0 := f_neq c_4; have z1 := hy1; have z2 := hy2; have z3 := hy3; have z4 := hy4; have z5 := hy5; have z6 := hy6; have z7 := hy7; have z8 := hen_1; have rce := R_J1_canEncode a1 (by omega); have e_0 : (0 : Int32).toInt = 0 := (by decide +kernel); have b37 := Int32.toInt_lt (wn); have d37 := Int32.le_toInt (wn); omega)) rfl dJ5_append_3fe6f_41 (fun H locs hP hD hS => ?_)
  have hP : va_P D vwCl [((qa_1 0), .inl ((ka_1 0), (F_J5_ensureCapacityInternal_d00df wb capw (wn + 1)).1, .inl (upd (F_J5_ensureCapacityInternal_d00df wb capw (wn + 1)).2.1 (ix wn) (vp_nar .byte (ci_ a1))))), (h_B, .inr (1, [.ref (qa_1 0), .int 0, h_B_2, .int (wn + 1)]))] H := hP
  have hD : va_D A [((qa_1 0), .inl ((ka_1 0), (F_J5_ensureCapacityInternal_d00df wb capw (wn + 1)).1, .inl (upd (F_J5_ensureCapacityInternal_d00df wb capw (wn + 1)).2.1 (ix wn) (vp_nar .byte (ci_ a1))))), (h_B, .inr (1, [.ref (qa_1 0), .int 0, h_B_2, .int (wn + 1)]))] := hD
  refine lv_goto (tgt := 75) hx hb dJ5_append_3fe6f_42 (by decide) ?_
  refine lv_aload_n hx hb dJ5_append_3fe6f_75 rfl (lv_at hl 0 rfl) ?_
  refine W.widen (k := (FF9).2.2.2.1) (n := (FF9).2.2.2.2) (Nat.le_of_eq (by rw [hM])) (Nat.le_of_eq (by rw [hM])) ?_
  exact W.aret (v := .ref h_B) hx hb hr (Or.inr ⟨_, rfl⟩) (Or.inr ⟨_, rfl⟩) (QG_.mk (fun n => [(qa_1 0)].getD n 0) (fun n => [(ka_1 0)].getD n 0) (fun _ => 0) [0, 1] [0] hP hD hK hS rfl (by rw [hM]; exact ⟨(show sb_Fit (upd (F_J5_ensureCapacityInternal_d00df wb capw (wn + 1)).2.1 (ix wn) (vp_nar .byte (ci_ a1))) from (sb_fitU hen_1.1 (n8_fit _))), (show (wn + 1).toInt = wn.toInt + 1 from (by have y0 := f_neq c_4; have z1 := hy1; have z2 := hy2; have z3 := hy3; have z4 := hy4; have z5 := hy5; have z6 := hy6; have z7 := hy7; have z8 := hen_1; have rce := R_J1_canEncode a1 (by omega); have e_0 : (0 : Int32).toInt = 0 := (by decide +kernel); have b39 := Int32.toInt_lt (wn); have d39 := Int32.le_toInt (wn); have l40 : (1 : Int32).toInt = 1 := (by decide +kernel); have q38 := addI (a := wn) (b := 1) (by omega) (by omega); omega)), (show (wn + 1).toInt ≤ ((F_J5_ensureCapacityInternal_d00df wb capw (wn + 1)).1) from (by have y0 := f_neq c_4; have z1 := hy1; have z2 := hy2; have z3 := hy3; have z4 := hy4; have z5 := hy5; have z6 := hy6; have z7 := hy7; have z8 := hen_1; have rce := R_J1_canEncode a1 (by omega); have e_0 : (0 : Int32).toInt = 0 := (by decide +kernel); have b42 := Int32.toInt_lt (wn); have d42 := Int32.le_toInt (wn); have l43 : (1 : Int32).toInt = 1 := (by decide +kernel); have q41 := addI (a := wn) (b := 1) (by omega) (by omega); omega)), (show 16 ≤ ((F_J5_ensureCapacityInternal_d00df wb capw (wn + 1)).1) from (by have y0 := f_neq c_4; have z1 := hy1; have z2 := hy2; have z3 := hy3; have z4 := hy4; have z5 := hy5; have z6 := hy6; have z7 := hy7; have z8 := hen_1; have rce := R_J1_canEncode a1 (by omega); have e_0 : (0 : Int32).toInt = 0 := (by decide +kernel); omega)), (show capw ≤ ((F_J5_ensureCapacityInternal_d00df wb capw (wn + 1)).1) from (by have y0 := f_neq c_4; have z1 := hy1; have z2 := hy2; have z3 := hy3; have z4 := hy4; have z5 := hy5; have z6 := hy6; have z7 := hy7; have z8 := hen_1; have rce := R_J1_canEncode a1 (by omega); have e_0 : (0 : Int32).toInt = 0 := (by decide +kernel); omega)), (show ((F_J5_ensureCapacityInternal_d00df wb capw (wn + 1)).1) ≤ 20000 from (by have y0 := f_neq c_4; have z1 := hy1; have z2 := hy2; have z3 := hy3; have z4 := hy4; have z5 := hy5; have z6 := hy6; have z7 := hy7; have z8 := hen_1; have rce := R_J1_canEncode a1 (by omega); have e_0 : (0 : Int32).toInt = 0 := (by decide +kernel); omega))⟩) (by rw [hM]; rfl) (by decide) rfl) hS.2.2 dJ5_append_3fe6f_76
def F_J6_stringSize_0f7a4 (a1 : Int32) : Int32 := (if a1 < 0 then (if a1 ≤ (-10) then (if a1 ≤ (-100) then (if a1 ≤ (-1000) then (if a1 ≤ (-10000) then (if a1 ≤ (-100000) then (if a1 ≤ (-1000000) then (if a1 ≤ (-10000000) then (if a1 ≤ (-100000000) then (if a1 ≤ (-1000000000) then 11 else 10) else 9) else 8) else 7) else 6) else 5) else 4) else 3) else 2) else (if (- a1) ≤ (-10) then (if (- a1) ≤ (-100) then (if (- a1) ≤ (-1000) then (if (- a1) ≤ (-10000) then (if (- a1) ≤ (-100000) then (if (- a1) ≤ (-1000000) then (if (- a1) ≤ (-10000000) then (if (- a1) ≤ (-100000000) then (if (- a1) ≤ (-1000000000) then 10 else 9) else 8) else 7) else 6) else 5) else 4) else 3) else 2) else 1))
theorem R_J6_stringSize (a : Int32) (h0 : 0 ≤ a.toInt) (h1 : a.toInt < 10000) : ((F_J6_stringSize_0f7a4 a).toInt = 1 ∧ a.toInt < 10) ∨ ((F_J6_stringSize_0f7a4 a).toInt = 2 ∧ 10 ≤ a.toInt ∧ a.toInt < 100) ∨ ((F_J6_stringSize_0f7a4 a).toInt = 3 ∧ 100 ≤ a.toInt ∧ a.toInt < 1000) ∨ ((F_J6_stringSize_0f7a4 a).toInt = 4 ∧ 1000 ≤ a.toInt) := by
  have e0 : (0 : Int32).toInt = 0 := by decide +kernel
  have en := negI (x := a) (by omega)
  have q1 : (-10 : Int32).toInt = -10 := by decide +kernel
  have q2 : (-100 : Int32).toInt = -100 := by decide +kernel
  have q3 : (-1000 : Int32).toInt = -1000 := by decide +kernel
  have q4 : (-10000 : Int32).toInt = -10000 := by decide +kernel
  have k1 : (1 : Int32).toInt = 1 := by decide +kernel
  have k2 : (2 : Int32).toInt = 2 := by decide +kernel
  have k3 : (3 : Int32).toInt = 3 := by decide +kernel
  have k4 : (4 : Int32).toInt = 4 := by decide +kernel
  unfold F_J6_stringSize_0f7a4
  rw [if_neg (show ¬ a < 0 from fun z => by have := f_lt z; omega)]
  by_cases c1 : -a ≤ -10
  · rw [if_pos c1]
    have y1 := f_le c1
    by_cases c2 : -a ≤ -100
    · rw [if_pos c2]
      have y2 := f_le c2
      by_cases c3 : -a ≤ -1000
      · rw [if_pos c3, if_neg (show ¬ -a ≤ -10000 from fun z => by have := f_le z; omega)]
        have y3 := f_le c3
        omega
      · rw [if_neg c3]
        have y3 := f_nle c3
        omega
    · rw [if_neg c2]
      have y2 := f_nle c2
      omega
  · rw [if_neg c1]
    have y1 := f_nle c1
    omega
set_option maxHeartbeats 4000000 in
set_option maxRecDepth 100000 in
theorem c_J6_stringSize_0f7a4 (l : Launch) (hl0 : l.stackTraces = false) (D : va_G) (ad : Nat → Nat) (sz : Nat) (a1 : Int32) : Met l yJ6_stringSize_0f7a4 wsJ6_stringSize_0f7a4 ({ frames := 0, cells := 0, slots := 0, locals := 0 }) (PR_ D ad [] [] sz [.int a1]) (QR_ (.int (F_J6_stringSize_0f7a4 a1)) (va_A [] sz)) 0 0 (va_A [] sz) := by
  refine Met.ofW (cc := cJ6_stringSize_0f7a4) (maxL := 4) (ret := (some .int)) (by decide) rfl ?_
  intro p e s m args below meth c s₁ B hml hv
  obtain ⟨rfl, hsz, hP, hK, hF⟩ := hv
  have hx := B.exec
  have hb := B.bytes
  have hr := B.returns
  have hts := atoms_spec (ws := wsJ6_stringSize_0f7a4) B.pre
  have hown : s.vm.findClass RJ6 = some m.cls := findClass_of_methodNamed B.named
  have hlocks := B.notSynchronized
  subst hsz
  generalize hAe : va_A [] s.heap.size = A at hF ⊢
  have hA : ∀ q : Nat, s.heap.size ≤ q → A q := fun q h => by rw [← hAe]; exact Or.inr h
  obtain ⟨H, hHe⟩ : ∃ H : Heap, H = s.heap := ⟨_, rfl⟩
  have hS : va_S A s.heap H [] := by rw [hHe]; exact va_S.rf
  have hP : va_P D vwCl [] H := by rw [hHe]; exact hP
  rw [← hHe]
  have hl := lv_entry [.int a1] (n := 4) (Nat.le_of_ble_eq_true rfl)
  rw [lg_entry_eq]
  generalize (lg_sl [.int a1] ++ List.replicate (4 - (lg_sl [.int a1]).length) Slot.unset).toArray = ls at hl ⊢
  have hl : lv_has ls 4 [(0, .int a1)] := hl
  have hM : F_J6_stringSize_0f7a4 a1 = (if a1 < 0 then (if a1 ≤ (-10) then (if a1 ≤ (-100) then (if a1 ≤ (-1000) then (if a1 ≤ (-10000) then (if a1 ≤ (-100000) then (if a1 ≤ (-1000000) then (if a1 ≤ (-10000000) then (if a1 ≤ (-100000000) then (if a1 ≤ (-1000000000) then 11 else 10) else 9) else 8) else 7) else 6) else 5) else 4) else 3) else 2) else (if (- a1) ≤ (-10) then (if (- a1) ≤ (-100) then (if (- a1) ≤ (-1000) then (if (- a1) ≤ (-10000) then (if (- a1) ≤ (-100000) then (if (- a1) ≤ (-1000000) then (if (- a1) ≤ (-10000000) then (if (- a1) ≤ (-100000000) then (if (- a1) ≤ (-1000000000) then 10 else 9) else 8) else 7) else 6) else 5) else 4) else 3) else 2) else 1)) := rfl
  refine lv_iconst (v := 1) hx hb dJ6_stringSize_0f7a4_0 (by decide) ?_
  refine lv_istore_n (lv' := [(1, .int 1), (0, .int a1)]) hx hb dJ6_stringSize_0f7a4_1 rfl hl (by decide) rfl (fun ls hl => ?_)
  refine lv_iload_n hx hb dJ6_stringSize_0f7a4_2 rfl (lv_at hl 1 rfl) ?_
  refine lv_if_lt (tgt := 11) hx hb dJ6_stringSize_0f7a4_3 (by decide) (fun c_1 => ?_) (fun c_1 => ?_)
  · rw [if_pos c_1] at hM
    refine lv_bipush (v := (-10)) hx hb dJ6_stringSize_0f7a4_11 (by decide) ?_
    refine lv_istore_n (lv' := [(2, .int (-10)), (1, .int 1), (0, .int a1)]) hx hb dJ6_stringSize_0f7a4_13 rfl hl (by decide) rfl (fun ls hl => ?_)
    refine lv_iconst (v := 1) hx hb dJ6_stringSize_0f7a4_14 (by decide) ?_
    refine lv_istore_n (lv' := [(3, .int 1), (2, .int (-10)), (1, .int 1), (0, .int a1)]) hx hb dJ6_stringSize_0f7a4_15 rfl hl (by decide) rfl (fun ls hl => ?_)
    refine lv_iload_n hx hb dJ6_stringSize_0f7a4_16 rfl (lv_at hl 0 rfl) ?_
    refine lv_bipush (v := 10) hx hb dJ6_stringSize_0f7a4_17 (by decide) ?_
    refine lv_icmp_ge (tgt := 42) hx hb dJ6_stringSize_0f7a4_19 (by decide) (fun c9 => absurd c9 (by decide +kernel)) (fun _ => ?_)
    refine lv_iload_n hx hb dJ6_stringSize_0f7a4_22 rfl (lv_at hl 3 rfl) ?_
    refine lv_iload_n hx hb dJ6_stringSize_0f7a4_23 rfl (lv_at hl 1 rfl) ?_
    refine lv_icmp_le (tgt := 31) hx hb dJ6_stringSize_0f7a4_24 (by decide) (fun c_2 => ?_) (fun c_2 => ?_)
    · rw [if_pos c_2] at hM
      refine lv_bipush (v := 10) hx hb dJ6_stringSize_0f7a4_31 (by decide) ?_
      refine lv_iload_n hx hb dJ6_stringSize_0f7a4_33 rfl (lv_at hl 1 rfl) ?_
      refine lv_imul hx hb dJ6_stringSize_0f7a4_34 ?_
      refine kt_ (v := (-100)) (by decide +kernel) ?_
      refine lv_istore_n (lv' := [(2, .int (-100)), (3, .int 1), (1, .int 1), (0, .int a1)]) hx hb dJ6_stringSize_0f7a4_35 rfl hl (by decide) rfl (fun ls hl => ?_)
      refine lv_iinc (v := 2) (lv' := [(3, .int 2), (2, .int (-100)), (1, .int 1), (0, .int a1)]) hx hb dJ6_stringSize_0f7a4_36 hl (k := 1) rfl (by decide +kernel) (by decide) rfl (fun ls hl => ?_)
      refine lv_goto (tgt := 16) hx hb dJ6_stringSize_0f7a4_39 (by decide) ?_
      refine lv_iload_n hx hb dJ6_stringSize_0f7a4_16 rfl (lv_at hl 0 rfl) ?_
      refine lv_bipush (v := 10) hx hb dJ6_stringSize_0f7a4_17 (by decide) ?_
      refine lv_icmp_ge (tgt := 42) hx hb dJ6_stringSize_0f7a4_19 (by decide) (fun c9 => absurd c9 (by decide +kernel)) (fun _ => ?_)
      refine lv_iload_n hx hb dJ6_stringSize_0f7a4_22 rfl (lv_at hl 3 rfl) ?_
      refine lv_iload_n hx hb dJ6_stringSize_0f7a4_23 rfl (lv_at hl 1 rfl) ?_
      refine lv_icmp_le (tgt := 31) hx hb dJ6_stringSize_0f7a4_24 (by decide) (fun c_3 => ?_) (fun c_3 => ?_)
      · rw [if_pos c_3] at hM
        refine lv_bipush (v := 10) hx hb dJ6_stringSize_0f7a4_31 (by decide) ?_
        refine lv_iload_n hx hb dJ6_stringSize_0f7a4_33 rfl (lv_at hl 1 rfl) ?_
        refine lv_imul hx hb dJ6_stringSize_0f7a4_34 ?_
        refine kt_ (v := (-1000)) (by decide +kernel) ?_
        refine lv_istore_n (lv' := [(2, .int (-1000)), (3, .int 2), (1, .int 1), (0, .int a1)]) hx hb dJ6_stringSize_0f7a4_35 rfl hl (by decide) rfl (fun ls hl => ?_)
        refine lv_iinc (v := 3) (lv' := [(3, .int 3), (2, .int (-1000)), (1, .int 1), (0, .int a1)]) hx hb dJ6_stringSize_0f7a4_36 hl (k := 1) rfl (by decide +kernel) (by decide) rfl (fun ls hl => ?_)
        refine lv_goto (tgt := 16) hx hb dJ6_stringSize_0f7a4_39 (by decide) ?_
        refine lv_iload_n hx hb dJ6_stringSize_0f7a4_16 rfl (lv_at hl 0 rfl) ?_
        refine lv_bipush (v := 10) hx hb dJ6_stringSize_0f7a4_17 (by decide) ?_
        refine lv_icmp_ge (tgt := 42) hx hb dJ6_stringSize_0f7a4_19 (by decide) (fun c9 => absurd c9 (by decide +kernel)) (fun _ => ?_)
        refine lv_iload_n hx hb dJ6_stringSize_0f7a4_22 rfl (lv_at hl 3 rfl) ?_
        refine lv_iload_n hx hb dJ6_stringSize_0f7a4_23 rfl (lv_at hl 1 rfl) ?_
        refine lv_icmp_le (tgt := 31) hx hb dJ6_stringSize_0f7a4_24 (by decide) (fun c_4 => ?_) (fun c_4 => ?_)
        · rw [if_pos c_4] at hM
          refine lv_bipush (v := 10) hx hb dJ6_stringSize_0f7a4_31 (by decide) ?_
          refine lv_iload_n hx hb dJ6_stringSize_0f7a4_33 rfl (lv_at hl 1 rfl) ?_
          refine lv_imul hx hb dJ6_stringSize_0f7a4_34 ?_
          refine kt_ (v := (-10000)) (by decide +kernel) ?_
          refine lv_istore_n (lv' := [(2, .int (-10000)), (3, .int 3), (1, .int 1), (0, .int a1)]) hx hb dJ6_stringSize_0f7a4_35 rfl hl (by decide) rfl (fun ls hl => ?_)
          refine lv_iinc (v := 4) (lv' := [(3, .int 4), (2, .int (-10000)), (1, .int 1), (0, .int a1)]) hx hb dJ6_stringSize_0f7a4_36 hl (k := 1) rfl (by decide +kernel) (by decide) rfl (fun ls hl => ?_)
          refine lv_goto (tgt := 16) hx hb dJ6_stringSize_0f7a4_39 (by decide) ?_
          refine lv_iload_n hx hb dJ6_stringSize_0f7a4_16 rfl (lv_at hl 0 rfl) ?_
          refine lv_bipush (v := 10) hx hb dJ6_stringSize_0f7a4_17 (by decide) ?_
          refine lv_icmp_ge (tgt := 42) hx hb dJ6_stringSize_0f7a4_19 (by decide) (fun c9 => absurd c9 (by decide +kernel)) (fun _ => ?_)
          refine lv_iload_n hx hb dJ6_stringSize_0f7a4_22 rfl (lv_at hl 3 rfl) ?_
          refine lv_iload_n hx hb dJ6_stringSize_0f7a4_23 rfl (lv_at hl 1 rfl) ?_
          refine lv_icmp_le (tgt := 31) hx hb dJ6_stringSize_0f7a4_24 (by decide) (fun c_5 => ?_) (fun c_5 => ?_)
          · rw [if_pos c_5] at hM
            refine lv_bipush (v := 10) hx hb dJ6_stringSize_0f7a4_31 (by decide) ?_
            refine lv_iload_n hx hb dJ6_stringSize_0f7a4_33 rfl (lv_at hl 1 rfl) ?_
            refine lv_imul hx hb dJ6_stringSize_0f7a4_34 ?_
            refine kt_ (v := (-100000)) (by decide +kernel) ?_
            refine lv_istore_n (lv' := [(2, .int (-100000)), (3, .int 4), (1, .int 1), (0, .int a1)]) hx hb dJ6_stringSize_0f7a4_35 rfl hl (by decide) rfl (fun ls hl => ?_)
            refine lv_iinc (v := 5) (lv' := [(3, .int 5), (2, .int (-100000)), (1, .int 1), (0, .int a1)]) hx hb dJ6_stringSize_0f7a4_36 hl (k := 1) rfl (by decide +kernel) (by decide) rfl (fun ls hl => ?_)
            refine lv_goto (tgt := 16) hx hb dJ6_stringSize_0f7a4_39 (by decide) ?_
            refine lv_iload_n hx hb dJ6_stringSize_0f7a4_16 rfl (lv_at hl 0 rfl) ?_
            refine lv_bipush (v := 10) hx hb dJ6_stringSize_0f7a4_17 (by decide) ?_
            refine lv_icmp_ge (tgt := 42) hx hb dJ6_stringSize_0f7a4_19 (by decide) (fun c9 => absurd c9 (by decide +kernel)) (fun _ => ?_)
            refine lv_iload_n hx hb dJ6_stringSize_0f7a4_22 rfl (lv_at hl 3 rfl) ?_
            refine lv_iload_n hx hb dJ6_stringSize_0f7a4_23 rfl (lv_at hl 1 rfl) ?_
            refine lv_icmp_le (tgt := 31) hx hb dJ6_stringSize_0f7a4_24 (by decide) (fun c_6 => ?_) (fun c_6 => ?_)
            · rw [if_pos c_6] at hM
              refine lv_bipush (v := 10) hx hb dJ6_stringSize_0f7a4_31 (by decide) ?_
              refine lv_iload_n hx hb dJ6_stringSize_0f7a4_33 rfl (lv_at hl 1 rfl) ?_
              refine lv_imul hx hb dJ6_stringSize_0f7a4_34 ?_
              refine kt_ (v := (-1000000)) (by decide +kernel) ?_
              refine lv_istore_n (lv' := [(2, .int (-1000000)), (3, .int 5), (1, .int 1), (0, .int a1)]) hx hb dJ6_stringSize_0f7a4_35 rfl hl (by decide) rfl (fun ls hl => ?_)
              refine lv_iinc (v := 6) (lv' := [(3, .int 6), (2, .int (-1000000)), (1, .int 1), (0, .int a1)]) hx hb dJ6_stringSize_0f7a4_36 hl (k := 1) rfl (by decide +kernel) (by decide) rfl (fun ls hl => ?_)
              refine lv_goto (tgt := 16) hx hb dJ6_stringSize_0f7a4_39 (by decide) ?_
              refine lv_iload_n hx hb dJ6_stringSize_0f7a4_16 rfl (lv_at hl 0 rfl) ?_
              refine lv_bipush (v := 10) hx hb dJ6_stringSize_0f7a4_17 (by decide) ?_
              refine lv_icmp_ge (tgt := 42) hx hb dJ6_stringSize_0f7a4_19 (by decide) (fun c9 => absurd c9 (by decide +kernel)) (fun _ => ?_)
              refine lv_iload_n hx hb dJ6_stringSize_0f7a4_22 rfl (lv_at hl 3 rfl) ?_
              refine lv_iload_n hx hb dJ6_stringSize_0f7a4_23 rfl (lv_at hl 1 rfl) ?_
              refine lv_icmp_le (tgt := 31) hx hb dJ6_stringSize_0f7a4_24 (by decide) (fun c_7 => ?_) (fun c_7 => ?_)
              · rw [if_pos c_7] at hM
                refine lv_bipush (v := 10) hx hb dJ6_stringSize_0f7a4_31 (by decide) ?_
                refine lv_iload_n hx hb dJ6_stringSize_0f7a4_33 rfl (lv_at hl 1 rfl) ?_
                refine lv_imul hx hb dJ6_stringSize_0f7a4_34 ?_
                refine kt_ (v := (-10000000)) (by decide +kernel) ?_
                refine lv_istore_n (lv' := [(2, .int (-10000000)), (3, .int 6), (1, .int 1), (0, .int a1)]) hx hb dJ6_stringSize_0f7a4_35 rfl hl (by decide) rfl (fun ls hl => ?_)
                refine lv_iinc (v := 7) (lv' := [(3, .int 7), (2, .int (-10000000)), (1, .int 1), (0, .int a1)]) hx hb dJ6_stringSize_0f7a4_36 hl (k := 1) rfl (by decide +kernel) (by decide) rfl (fun ls hl => ?_)
                refine lv_goto (tgt := 16) hx hb dJ6_stringSize_0f7a4_39 (by decide) ?_
                refine lv_iload_n hx hb dJ6_stringSize_0f7a4_16 rfl (lv_at hl 0 rfl) ?_
                refine lv_bipush (v := 10) hx hb dJ6_stringSize_0f7a4_17 (by decide) ?_
                refine lv_icmp_ge (tgt := 42) hx hb dJ6_stringSize_0f7a4_19 (by decide) (fun c9 => absurd c9 (by decide +kernel)) (fun _ => ?_)
                refine lv_iload_n hx hb dJ6_stringSize_0f7a4_22 rfl (lv_at hl 3 rfl) ?_
                refine lv_iload_n hx hb dJ6_stringSize_0f7a4_23 rfl (lv_at hl 1 rfl) ?_
                refine lv_icmp_le (tgt := 31) hx hb dJ6_stringSize_0f7a4_24 (by decide) (fun c_8 => ?_) (fun c_8 => ?_)
                · rw [if_pos c_8] at hM
                  refine lv_bipush (v := 10) hx hb dJ6_stringSize_0f7a4_31 (by decide) ?_
                  refine lv_iload_n hx hb dJ6_stringSize_0f7a4_33 rfl (lv_at hl 1 rfl) ?_
                  refine lv_imul hx hb dJ6_stringSize_0f7a4_34 ?_
                  refine kt_ (v := (-100000000)) (by decide +kernel) ?_
                  refine lv_istore_n (lv' := [(2, .int (-100000000)), (3, .int 7), (1, .int 1), (0, .int a1)]) hx hb dJ6_stringSize_0f7a4_35 rfl hl (by decide) rfl (fun ls hl => ?_)
                  refine lv_iinc (v := 8) (lv' := [(3, .int 8), (2, .int (-100000000)), (1, .int 1), (0, .int a1)]) hx hb dJ6_stringSize_0f7a4_36 hl (k := 1) rfl (by decide +kernel) (by decide) rfl (fun ls hl => ?_)
                  refine lv_goto (tgt := 16) hx hb dJ6_stringSize_0f7a4_39 (by decide) ?_
                  refine lv_iload_n hx hb dJ6_stringSize_0f7a4_16 rfl (lv_at hl 0 rfl) ?_
                  refine lv_bipush (v := 10) hx hb dJ6_stringSize_0f7a4_17 (by decide) ?_
                  refine lv_icmp_ge (tgt := 42) hx hb dJ6_stringSize_0f7a4_19 (by decide) (fun c9 => absurd c9 (by decide +kernel)) (fun _ => ?_)
                  refine lv_iload_n hx hb dJ6_stringSize_0f7a4_22 rfl (lv_at hl 3 rfl) ?_
                  refine lv_iload_n hx hb dJ6_stringSize_0f7a4_23 rfl (lv_at hl 1 rfl) ?_
                  refine lv_icmp_le (tgt := 31) hx hb dJ6_stringSize_0f7a4_24 (by decide) (fun c_9 => ?_) (fun c_9 => ?_)
                  · rw [if_pos c_9] at hM
                    refine lv_bipush (v := 10) hx hb dJ6_stringSize_0f7a4_31 (by decide) ?_
                    refine lv_iload_n hx hb dJ6_stringSize_0f7a4_33 rfl (lv_at hl 1 rfl) ?_
                    refine lv_imul hx hb dJ6_stringSize_0f7a4_34 ?_
                    refine kt_ (v := (-1000000000)) (by decide +kernel) ?_
                    refine lv_istore_n (lv' := [(2, .int (-1000000000)), (3, .int 8), (1, .int 1), (0, .int a1)]) hx hb dJ6_stringSize_0f7a4_35 rfl hl (by decide) rfl (fun ls hl => ?_)
                    refine lv_iinc (v := 9) (lv' := [(3, .int 9), (2, .int (-1000000000)), (1, .int 1), (0, .int a1)]) hx hb dJ6_stringSize_0f7a4_36 hl (k := 1) rfl (by decide +kernel) (by decide) rfl (fun ls hl => ?_)
                    refine lv_goto (tgt := 16) hx hb dJ6_stringSize_0f7a4_39 (by decide) ?_
                    refine lv_iload_n hx hb dJ6_stringSize_0f7a4_16 rfl (lv_at hl 0 rfl) ?_
                    refine lv_bipush (v := 10) hx hb dJ6_stringSize_0f7a4_17 (by decide) ?_
                    refine lv_icmp_ge (tgt := 42) hx hb dJ6_stringSize_0f7a4_19 (by decide) (fun c9 => absurd c9 (by decide +kernel)) (fun _ => ?_)
                    refine lv_iload_n hx hb dJ6_stringSize_0f7a4_22 rfl (lv_at hl 3 rfl) ?_
                    refine lv_iload_n hx hb dJ6_stringSize_0f7a4_23 rfl (lv_at hl 1 rfl) ?_
                    refine lv_icmp_le (tgt := 31) hx hb dJ6_stringSize_0f7a4_24 (by decide) (fun c_10 => ?_) (fun c_10 => ?_)
                    · rw [if_pos c_10] at hM
                      refine lv_bipush (v := 10) hx hb dJ6_stringSize_0f7a4_31 (by decide) ?_
                      refine lv_iload_n hx hb dJ6_stringSize_0f7a4_33 rfl (lv_at hl 1 rfl) ?_
                      refine lv_imul hx hb dJ6_stringSize_0f7a4_34 ?_
                      refine kt_ (v := (-1410065408)) (by decide +kernel) ?_
                      refine lv_istore_n (lv' := [(2, .int (-1410065408)), (3, .int 9), (1, .int 1), (0, .int a1)]) hx hb dJ6_stringSize_0f7a4_35 rfl hl (by decide) rfl (fun ls hl => ?_)
                      refine lv_iinc (v := 10) (lv' := [(3, .int 10), (2, .int (-1410065408)), (1, .int 1), (0, .int a1)]) hx hb dJ6_stringSize_0f7a4_36 hl (k := 1) rfl (by decide +kernel) (by decide) rfl (fun ls hl => ?_)
                      refine lv_goto (tgt := 16) hx hb dJ6_stringSize_0f7a4_39 (by decide) ?_
                      refine lv_iload_n hx hb dJ6_stringSize_0f7a4_16 rfl (lv_at hl 0 rfl) ?_
                      refine lv_bipush (v := 10) hx hb dJ6_stringSize_0f7a4_17 (by decide) ?_
                      refine lv_icmp_ge (tgt := 42) hx hb dJ6_stringSize_0f7a4_19 (by decide) (fun _ => ?_) (fun c9 => absurd (by decide +kernel) c9)
                      refine lv_bipush (v := 10) hx hb dJ6_stringSize_0f7a4_42 (by decide) ?_
                      refine lv_iload_n hx hb dJ6_stringSize_0f7a4_44 rfl (lv_at hl 2 rfl) ?_
                      refine lv_iadd hx hb dJ6_stringSize_0f7a4_45 ?_
                      refine kt_ (v := 11) (by decide +kernel) ?_
                      refine W.widen (k := 0) (n := 0) (Nat.le_of_ble_eq_true rfl) (Nat.le_of_ble_eq_true rfl) ?_
                      exact W.iret (v := 11) hx hb hr (QR_.mk hS (by rw [hM])) hS.2.2 dJ6_stringSize_0f7a4_46
                    · rw [if_neg c_10] at hM
                      refine lv_iload_n hx hb dJ6_stringSize_0f7a4_27 rfl (lv_at hl 0 rfl) ?_
                      refine lv_iload_n hx hb dJ6_stringSize_0f7a4_28 rfl (lv_at hl 2 rfl) ?_
                      refine lv_iadd hx hb dJ6_stringSize_0f7a4_29 ?_
                      refine kt_ (v := 10) (by decide +kernel) ?_
                      refine W.widen (k := 0) (n := 0) (Nat.le_of_ble_eq_true rfl) (Nat.le_of_ble_eq_true rfl) ?_
                      exact W.iret (v := 10) hx hb hr (QR_.mk hS (by rw [hM])) hS.2.2 dJ6_stringSize_0f7a4_30
                  · rw [if_neg c_9] at hM
                    refine lv_iload_n hx hb dJ6_stringSize_0f7a4_27 rfl (lv_at hl 0 rfl) ?_
                    refine lv_iload_n hx hb dJ6_stringSize_0f7a4_28 rfl (lv_at hl 2 rfl) ?_
                    refine lv_iadd hx hb dJ6_stringSize_0f7a4_29 ?_
                    refine kt_ (v := 9) (by decide +kernel) ?_
                    refine W.widen (k := 0) (n := 0) (Nat.le_of_ble_eq_true rfl) (Nat.le_of_ble_eq_true rfl) ?_
                    exact W.iret (v := 9) hx hb hr (QR_.mk hS (by rw [hM])) hS.2.2 dJ6_stringSize_0f7a4_30
                · rw [if_neg c_8] at hM
                  refine lv_iload_n hx hb dJ6_stringSize_0f7a4_27 rfl (lv_at hl 0 rfl) ?_
                  refine lv_iload_n hx hb dJ6_stringSize_0f7a4_28 rfl (lv_at hl 2 rfl) ?_
                  refine lv_iadd hx hb dJ6_stringSize_0f7a4_29 ?_
                  refine kt_ (v := 8) (by decide +kernel) ?_
                  refine W.widen (k := 0) (n := 0) (Nat.le_of_ble_eq_true rfl) (Nat.le_of_ble_eq_true rfl) ?_
                  exact W.iret (v := 8) hx hb hr (QR_.mk hS (by rw [hM])) hS.2.2 dJ6_stringSize_0f7a4_30
              · rw [if_neg c_7] at hM
                refine lv_iload_n hx hb dJ6_stringSize_0f7a4_27 rfl (lv_at hl 0 rfl) ?_
                refine lv_iload_n hx hb dJ6_stringSize_0f7a4_28 rfl (lv_at hl 2 rfl) ?_
                refine lv_iadd hx hb dJ6_stringSize_0f7a4_29 ?_
                refine kt_ (v := 7) (by decide +kernel) ?_
                refine W.widen (k := 0) (n := 0) (Nat.le_of_ble_eq_true rfl) (Nat.le_of_ble_eq_true rfl) ?_
                exact W.iret (v := 7) hx hb hr (QR_.mk hS (by rw [hM])) hS.2.2 dJ6_stringSize_0f7a4_30
            · rw [if_neg c_6] at hM
              refine lv_iload_n hx hb dJ6_stringSize_0f7a4_27 rfl (lv_at hl 0 rfl) ?_
              refine lv_iload_n hx hb dJ6_stringSize_0f7a4_28 rfl (lv_at hl 2 rfl) ?_
              refine lv_iadd hx hb dJ6_stringSize_0f7a4_29 ?_
              refine kt_ (v := 6) (by decide +kernel) ?_
              refine W.widen (k := 0) (n := 0) (Nat.le_of_ble_eq_true rfl) (Nat.le_of_ble_eq_true rfl) ?_
              exact W.iret (v := 6) hx hb hr (QR_.mk hS (by rw [hM])) hS.2.2 dJ6_stringSize_0f7a4_30
          · rw [if_neg c_5] at hM
            refine lv_iload_n hx hb dJ6_stringSize_0f7a4_27 rfl (lv_at hl 0 rfl) ?_
            refine lv_iload_n hx hb dJ6_stringSize_0f7a4_28 rfl (lv_at hl 2 rfl) ?_
            refine lv_iadd hx hb dJ6_stringSize_0f7a4_29 ?_
            refine kt_ (v := 5) (by decide +kernel) ?_
            refine W.widen (k := 0) (n := 0) (Nat.le_of_ble_eq_true rfl) (Nat.le_of_ble_eq_true rfl) ?_
            exact W.iret (v := 5) hx hb hr (QR_.mk hS (by rw [hM])) hS.2.2 dJ6_stringSize_0f7a4_30
        · rw [if_neg c_4] at hM
          refine lv_iload_n hx hb dJ6_stringSize_0f7a4_27 rfl (lv_at hl 0 rfl) ?_
          refine lv_iload_n hx hb dJ6_stringSize_0f7a4_28 rfl (lv_at hl 2 rfl) ?_
          refine lv_iadd hx hb dJ6_stringSize_0f7a4_29 ?_
          refine kt_ (v := 4) (by decide +kernel) ?_
          refine W.widen (k := 0) (n := 0) (Nat.le_of_ble_eq_true rfl) (Nat.le_of_ble_eq_true rfl) ?_
          exact W.iret (v := 4) hx hb hr (QR_.mk hS (by rw [hM])) hS.2.2 dJ6_stringSize_0f7a4_30
      · rw [if_neg c_3] at hM
        refine lv_iload_n hx hb dJ6_stringSize_0f7a4_27 rfl (lv_at hl 0 rfl) ?_
        refine lv_iload_n hx hb dJ6_stringSize_0f7a4_28 rfl (lv_at hl 2 rfl) ?_
        refine lv_iadd hx hb dJ6_stringSize_0f7a4_29 ?_
        refine kt_ (v := 3) (by decide +kernel) ?_
        refine W.widen (k := 0) (n := 0) (Nat.le_of_ble_eq_true rfl) (Nat.le_of_ble_eq_true rfl) ?_
        exact W.iret (v := 3) hx hb hr (QR_.mk hS (by rw [hM])) hS.2.2 dJ6_stringSize_0f7a4_30
    · rw [if_neg c_2] at hM
      refine lv_iload_n hx hb dJ6_stringSize_0f7a4_27 rfl (lv_at hl 0 rfl) ?_
      refine lv_iload_n hx hb dJ6_stringSize_0f7a4_28 rfl (lv_at hl 2 rfl) ?_
      refine lv_iadd hx hb dJ6_stringSize_0f7a4_29 ?_
      refine kt_ (v := 2) (by decide +kernel) ?_
      refine W.widen (k := 0) (n := 0) (Nat.le_of_ble_eq_true rfl) (Nat.le_of_ble_eq_true rfl) ?_
      exact W.iret (v := 2) hx hb hr (QR_.mk hS (by rw [hM])) hS.2.2 dJ6_stringSize_0f7a4_30
  · rw [if_neg c_1] at hM
    refine lv_iconst (v := 0) hx hb dJ6_stringSize_0f7a4_6 (by decide) ?_
    refine lv_istore_n (lv' := [(1, .int 0), (0, .int a1)]) hx hb dJ6_stringSize_0f7a4_7 rfl hl (by decide) rfl (fun ls hl => ?_)
    refine lv_iload_n hx hb dJ6_stringSize_0f7a4_8 rfl (lv_at hl 1 rfl) ?_
    refine lv_ineg hx hb dJ6_stringSize_0f7a4_9 ?_
    refine lv_istore_n (lv' := [(0, .int (- a1)), (1, .int 0)]) hx hb dJ6_stringSize_0f7a4_10 rfl hl (by decide) rfl (fun ls hl => ?_)
    refine lv_bipush (v := (-10)) hx hb dJ6_stringSize_0f7a4_11 (by decide) ?_
    refine lv_istore_n (lv' := [(2, .int (-10)), (0, .int (- a1)), (1, .int 0)]) hx hb dJ6_stringSize_0f7a4_13 rfl hl (by decide) rfl (fun ls hl => ?_)
    refine lv_iconst (v := 1) hx hb dJ6_stringSize_0f7a4_14 (by decide) ?_
    refine lv_istore_n (lv' := [(3, .int 1), (2, .int (-10)), (0, .int (- a1)), (1, .int 0)]) hx hb dJ6_stringSize_0f7a4_15 rfl hl (by decide) rfl (fun ls hl => ?_)
    refine lv_iload_n hx hb dJ6_stringSize_0f7a4_16 rfl (lv_at hl 0 rfl) ?_
    refine lv_bipush (v := 10) hx hb dJ6_stringSize_0f7a4_17 (by decide) ?_
    refine lv_icmp_ge (tgt := 42) hx hb dJ6_stringSize_0f7a4_19 (by decide) (fun c9 => absurd c9 (by decide +kernel)) (fun _ => ?_)
    refine lv_iload_n hx hb dJ6_stringSize_0f7a4_22 rfl (lv_at hl 2 rfl) ?_
    refine lv_iload_n hx hb dJ6_stringSize_0f7a4_23 rfl (lv_at hl 1 rfl) ?_
    refine lv_icmp_le (tgt := 31) hx hb dJ6_stringSize_0f7a4_24 (by decide) (fun c_11 => ?_) (fun c_11 => ?_)
    · rw [if_pos c_11] at hM
      refine lv_bipush (v := 10) hx hb dJ6_stringSize_0f7a4_31 (by decide) ?_
      refine lv_iload_n hx hb dJ6_stringSize_0f7a4_33 rfl (lv_at hl 1 rfl) ?_
      refine lv_imul hx hb dJ6_stringSize_0f7a4_34 ?_
      refine kt_ (v := (-100)) (by decide +kernel) ?_
      refine lv_istore_n (lv' := [(2, .int (-100)), (3, .int 1), (0, .int (- a1)), (1, .int 0)]) hx hb dJ6_stringSize_0f7a4_35 rfl hl (by decide) rfl (fun ls hl => ?_)
      refine lv_iinc (v := 2) (lv' := [(3, .int 2), (2, .int (-100)), (0, .int (- a1)), (1, .int 0)]) hx hb dJ6_stringSize_0f7a4_36 hl (k := 1) rfl (by decide +kernel) (by decide) rfl (fun ls hl => ?_)
      refine lv_goto (tgt := 16) hx hb dJ6_stringSize_0f7a4_39 (by decide) ?_
      refine lv_iload_n hx hb dJ6_stringSize_0f7a4_16 rfl (lv_at hl 0 rfl) ?_
      refine lv_bipush (v := 10) hx hb dJ6_stringSize_0f7a4_17 (by decide) ?_
      refine lv_icmp_ge (tgt := 42) hx hb dJ6_stringSize_0f7a4_19 (by decide) (fun c9 => absurd c9 (by decide +kernel)) (fun _ => ?_)
      refine lv_iload_n hx hb dJ6_stringSize_0f7a4_22 rfl (lv_at hl 2 rfl) ?_
      refine lv_iload_n hx hb dJ6_stringSize_0f7a4_23 rfl (lv_at hl 1 rfl) ?_
      refine lv_icmp_le (tgt := 31) hx hb dJ6_stringSize_0f7a4_24 (by decide) (fun c_12 => ?_) (fun c_12 => ?_)
      · rw [if_pos c_12] at hM
        refine lv_bipush (v := 10) hx hb dJ6_stringSize_0f7a4_31 (by decide) ?_
        refine lv_iload_n hx hb dJ6_stringSize_0f7a4_33 rfl (lv_at hl 1 rfl) ?_
        refine lv_imul hx hb dJ6_stringSize_0f7a4_34 ?_
        refine kt_ (v := (-1000)) (by decide +kernel) ?_
        refine lv_istore_n (lv' := [(2, .int (-1000)), (3, .int 2), (0, .int (- a1)), (1, .int 0)]) hx hb dJ6_stringSize_0f7a4_35 rfl hl (by decide) rfl (fun ls hl => ?_)
        refine lv_iinc (v := 3) (lv' := [(3, .int 3), (2, .int (-1000)), (0, .int (- a1)), (1, .int 0)]) hx hb dJ6_stringSize_0f7a4_36 hl (k := 1) rfl (by decide +kernel) (by decide) rfl (fun ls hl => ?_)
        refine lv_goto (tgt := 16) hx hb dJ6_stringSize_0f7a4_39 (by decide) ?_
        refine lv_iload_n hx hb dJ6_stringSize_0f7a4_16 rfl (lv_at hl 0 rfl) ?_
        refine lv_bipush (v := 10) hx hb dJ6_stringSize_0f7a4_17 (by decide) ?_
        refine lv_icmp_ge (tgt := 42) hx hb dJ6_stringSize_0f7a4_19 (by decide) (fun c9 => absurd c9 (by decide +kernel)) (fun _ => ?_)
        refine lv_iload_n hx hb dJ6_stringSize_0f7a4_22 rfl (lv_at hl 2 rfl) ?_
        refine lv_iload_n hx hb dJ6_stringSize_0f7a4_23 rfl (lv_at hl 1 rfl) ?_
        refine lv_icmp_le (tgt := 31) hx hb dJ6_stringSize_0f7a4_24 (by decide) (fun c_13 => ?_) (fun c_13 => ?_)
        · rw [if_pos c_13] at hM
          refine lv_bipush (v := 10) hx hb dJ6_stringSize_0f7a4_31 (by decide) ?_
          refine lv_iload_n hx hb dJ6_stringSize_0f7a4_33 rfl (lv_at hl 1 rfl) ?_
          refine lv_imul hx hb dJ6_stringSize_0f7a4_34 ?_
          refine kt_ (v := (-10000)) (by decide +kernel) ?_
          refine lv_istore_n (lv' := [(2, .int (-10000)), (3, .int 3), (0, .int (- a1)), (1, .int 0)]) hx hb dJ6_stringSize_0f7a4_35 rfl hl (by decide) rfl (fun ls hl => ?_)
          refine lv_iinc (v := 4) (lv' := [(3, .int 4), (2, .int (-10000)), (0, .int (- a1)), (1, .int 0)]) hx hb dJ6_stringSize_0f7a4_36 hl (k := 1) rfl (by decide +kernel) (by decide) rfl (fun ls hl => ?_)
          refine lv_goto (tgt := 16) hx hb dJ6_stringSize_0f7a4_39 (by decide) ?_
          refine lv_iload_n hx hb dJ6_stringSize_0f7a4_16 rfl (lv_at hl 0 rfl) ?_
          refine lv_bipush (v := 10) hx hb dJ6_stringSize_0f7a4_17 (by decide) ?_
          refine lv_icmp_ge (tgt := 42) hx hb dJ6_stringSize_0f7a4_19 (by decide) (fun c9 => absurd c9 (by decide +kernel)) (fun _ => ?_)
          refine lv_iload_n hx hb dJ6_stringSize_0f7a4_22 rfl (lv_at hl 2 rfl) ?_
          refine lv_iload_n hx hb dJ6_stringSize_0f7a4_23 rfl (lv_at hl 1 rfl) ?_
          refine lv_icmp_le (tgt := 31) hx hb dJ6_stringSize_0f7a4_24 (by decide) (fun c_14 => ?_) (fun c_14 => ?_)
          · rw [if_pos c_14] at hM
            refine lv_bipush (v := 10) hx hb dJ6_stringSize_0f7a4_31 (by decide) ?_
            refine lv_iload_n hx hb dJ6_stringSize_0f7a4_33 rfl (lv_at hl 1 rfl) ?_
            refine lv_imul hx hb dJ6_stringSize_0f7a4_34 ?_
            refine kt_ (v := (-100000)) (by decide +kernel) ?_
            refine lv_istore_n (lv' := [(2, .int (-100000)), (3, .int 4), (0, .int (- a1)), (1, .int 0)]) hx hb dJ6_stringSize_0f7a4_35 rfl hl (by decide) rfl (fun ls hl => ?_)
            refine lv_iinc (v := 5) (lv' := [(3, .int 5), (2, .int (-100000)), (0, .int (- a1)), (1, .int 0)]) hx hb dJ6_stringSize_0f7a4_36 hl (k := 1) rfl (by decide +kernel) (by decide) rfl (fun ls hl => ?_)
            refine lv_goto (tgt := 16) hx hb dJ6_stringSize_0f7a4_39 (by decide) ?_
            refine lv_iload_n hx hb dJ6_stringSize_0f7a4_16 rfl (lv_at hl 0 rfl) ?_
            refine lv_bipush (v := 10) hx hb dJ6_stringSize_0f7a4_17 (by decide) ?_
            refine lv_icmp_ge (tgt := 42) hx hb dJ6_stringSize_0f7a4_19 (by decide) (fun c9 => absurd c9 (by decide +kernel)) (fun _ => ?_)
            refine lv_iload_n hx hb dJ6_stringSize_0f7a4_22 rfl (lv_at hl 2 rfl) ?_
            refine lv_iload_n hx hb dJ6_stringSize_0f7a4_23 rfl (lv_at hl 1 rfl) ?_
            refine lv_icmp_le (tgt := 31) hx hb dJ6_stringSize_0f7a4_24 (by decide) (fun c_15 => ?_) (fun c_15 => ?_)
            · rw [if_pos c_15] at hM
              refine lv_bipush (v := 10) hx hb dJ6_stringSize_0f7a4_31 (by decide) ?_
              refine lv_iload_n hx hb dJ6_stringSize_0f7a4_33 rfl (lv_at hl 1 rfl) ?_
              refine lv_imul hx hb dJ6_stringSize_0f7a4_34 ?_
              refine kt_ (v := (-1000000)) (by decide +kernel) ?_
              refine lv_istore_n (lv' := [(2, .int (-1000000)), (3, .int 5), (0, .int (- a1)), (1, .int 0)]) hx hb dJ6_stringSize_0f7a4_35 rfl hl (by decide) rfl (fun ls hl => ?_)
              refine lv_iinc (v := 6) (lv' := [(3, .int 6), (2, .int (-1000000)), (0, .int (- a1)), (1, .int 0)]) hx hb dJ6_stringSize_0f7a4_36 hl (k := 1) rfl (by decide +kernel) (by decide) rfl (fun ls hl => ?_)
              refine lv_goto (tgt := 16) hx hb dJ6_stringSize_0f7a4_39 (by decide) ?_
              refine lv_iload_n hx hb dJ6_stringSize_0f7a4_16 rfl (lv_at hl 0 rfl) ?_
              refine lv_bipush (v := 10) hx hb dJ6_stringSize_0f7a4_17 (by decide) ?_
              refine lv_icmp_ge (tgt := 42) hx hb dJ6_stringSize_0f7a4_19 (by decide) (fun c9 => absurd c9 (by decide +kernel)) (fun _ => ?_)
              refine lv_iload_n hx hb dJ6_stringSize_0f7a4_22 rfl (lv_at hl 2 rfl) ?_
              refine lv_iload_n hx hb dJ6_stringSize_0f7a4_23 rfl (lv_at hl 1 rfl) ?_
              refine lv_icmp_le (tgt := 31) hx hb dJ6_stringSize_0f7a4_24 (by decide) (fun c_16 => ?_) (fun c_16 => ?_)
              · rw [if_pos c_16] at hM
                refine lv_bipush (v := 10) hx hb dJ6_stringSize_0f7a4_31 (by decide) ?_
                refine lv_iload_n hx hb dJ6_stringSize_0f7a4_33 rfl (lv_at hl 1 rfl) ?_
                refine lv_imul hx hb dJ6_stringSize_0f7a4_34 ?_
                refine kt_ (v := (-10000000)) (by decide +kernel) ?_
                refine lv_istore_n (lv' := [(2, .int (-10000000)), (3, .int 6), (0, .int (- a1)), (1, .int 0)]) hx hb dJ6_stringSize_0f7a4_35 rfl hl (by decide) rfl (fun ls hl => ?_)
                refine lv_iinc (v := 7) (lv' := [(3, .int 7), (2, .int (-10000000)), (0, .int (- a1)), (1, .int 0)]) hx hb dJ6_stringSize_0f7a4_36 hl (k := 1) rfl (by decide +kernel) (by decide) rfl (fun ls hl => ?_)
                refine lv_goto (tgt := 16) hx hb dJ6_stringSize_0f7a4_39 (by decide) ?_
                refine lv_iload_n hx hb dJ6_stringSize_0f7a4_16 rfl (lv_at hl 0 rfl) ?_
                refine lv_bipush (v := 10) hx hb dJ6_stringSize_0f7a4_17 (by decide) ?_
                refine lv_icmp_ge (tgt := 42) hx hb dJ6_stringSize_0f7a4_19 (by decide) (fun c9 => absurd c9 (by decide +kernel)) (fun _ => ?_)
                refine lv_iload_n hx hb dJ6_stringSize_0f7a4_22 rfl (lv_at hl 2 rfl) ?_
                refine lv_iload_n hx hb dJ6_stringSize_0f7a4_23 rfl (lv_at hl 1 rfl) ?_
                refine lv_icmp_le (tgt := 31) hx hb dJ6_stringSize_0f7a4_24 (by decide) (fun c_17 => ?_) (fun c_17 => ?_)
                · rw [if_pos c_17] at hM
                  refine lv_bipush (v := 10) hx hb dJ6_stringSize_0f7a4_31 (by decide) ?_
                  refine lv_iload_n hx hb dJ6_stringSize_0f7a4_33 rfl (lv_at hl 1 rfl) ?_
                  refine lv_imul hx hb dJ6_stringSize_0f7a4_34 ?_
                  refine kt_ (v := (-100000000)) (by decide +kernel) ?_
                  refine lv_istore_n (lv' := [(2, .int (-100000000)), (3, .int 7), (0, .int (- a1)), (1, .int 0)]) hx hb dJ6_stringSize_0f7a4_35 rfl hl (by decide) rfl (fun ls hl => ?_)
                  refine lv_iinc (v := 8) (lv' := [(3, .int 8), (2, .int (-100000000)), (0, .int (- a1)), (1, .int 0)]) hx hb dJ6_stringSize_0f7a4_36 hl (k := 1) rfl (by decide +kernel) (by decide) rfl (fun ls hl => ?_)
                  refine lv_goto (tgt := 16) hx hb dJ6_stringSize_0f7a4_39 (by decide) ?_
                  refine lv_iload_n hx hb dJ6_stringSize_0f7a4_16 rfl (lv_at hl 0 rfl) ?_
                  refine lv_bipush (v := 10) hx hb dJ6_stringSize_0f7a4_17 (by decide) ?_
                  refine lv_icmp_ge (tgt := 42) hx hb dJ6_stringSize_0f7a4_19 (by decide) (fun c9 => absurd c9 (by decide +kernel)) (fun _ => ?_)
                  refine lv_iload_n hx hb dJ6_stringSize_0f7a4_22 rfl (lv_at hl 2 rfl) ?_
                  refine lv_iload_n hx hb dJ6_stringSize_0f7a4_23 rfl (lv_at hl 1 rfl) ?_
                  refine lv_icmp_le (tgt := 31) hx hb dJ6_stringSize_0f7a4_24 (by decide) (fun c_18 => ?_) (fun c_18 => ?_)
                  · rw [if_pos c_18] at hM
                    refine lv_bipush (v := 10) hx hb dJ6_stringSize_0f7a4_31 (by decide) ?_
                    refine lv_iload_n hx hb dJ6_stringSize_0f7a4_33 rfl (lv_at hl 1 rfl) ?_
                    refine lv_imul hx hb dJ6_stringSize_0f7a4_34 ?_
                    refine kt_ (v := (-1000000000)) (by decide +kernel) ?_
                    refine lv_istore_n (lv' := [(2, .int (-1000000000)), (3, .int 8), (0, .int (- a1)), (1, .int 0)]) hx hb dJ6_stringSize_0f7a4_35 rfl hl (by decide) rfl (fun ls hl => ?_)
                    refine lv_iinc (v := 9) (lv' := [(3, .int 9), (2, .int (-1000000000)), (0, .int (- a1)), (1, .int 0)]) hx hb dJ6_stringSize_0f7a4_36 hl (k := 1) rfl (by decide +kernel) (by decide) rfl (fun ls hl => ?_)
                    refine lv_goto (tgt := 16) hx hb dJ6_stringSize_0f7a4_39 (by decide) ?_
                    refine lv_iload_n hx hb dJ6_stringSize_0f7a4_16 rfl (lv_at hl 0 rfl) ?_
                    refine lv_bipush (v := 10) hx hb dJ6_stringSize_0f7a4_17 (by decide) ?_
                    refine lv_icmp_ge (tgt := 42) hx hb dJ6_stringSize_0f7a4_19 (by decide) (fun c9 => absurd c9 (by decide +kernel)) (fun _ => ?_)
                    refine lv_iload_n hx hb dJ6_stringSize_0f7a4_22 rfl (lv_at hl 2 rfl) ?_
                    refine lv_iload_n hx hb dJ6_stringSize_0f7a4_23 rfl (lv_at hl 1 rfl) ?_
                    refine lv_icmp_le (tgt := 31) hx hb dJ6_stringSize_0f7a4_24 (by decide) (fun c_19 => ?_) (fun c_19 => ?_)
                    · rw [if_pos c_19] at hM
                      refine lv_bipush (v := 10) hx hb dJ6_stringSize_0f7a4_31 (by decide) ?_
                      refine lv_iload_n hx hb dJ6_stringSize_0f7a4_33 rfl (lv_at hl 1 rfl) ?_
                      refine lv_imul hx hb dJ6_stringSize_0f7a4_34 ?_
                      refine kt_ (v := (-1410065408)) (by decide +kernel) ?_
                      refine lv_istore_n (lv' := [(2, .int (-1410065408)), (3, .int 9), (0, .int (- a1)), (1, .int 0)]) hx hb dJ6_stringSize_0f7a4_35 rfl hl (by decide) rfl (fun ls hl => ?_)
                      refine lv_iinc (v := 10) (lv' := [(3, .int 10), (2, .int (-1410065408)), (0, .int (- a1)), (1, .int 0)]) hx hb dJ6_stringSize_0f7a4_36 hl (k := 1) rfl (by decide +kernel) (by decide) rfl (fun ls hl => ?_)
                      refine lv_goto (tgt := 16) hx hb dJ6_stringSize_0f7a4_39 (by decide) ?_
                      refine lv_iload_n hx hb dJ6_stringSize_0f7a4_16 rfl (lv_at hl 0 rfl) ?_
                      refine lv_bipush (v := 10) hx hb dJ6_stringSize_0f7a4_17 (by decide) ?_
                      refine lv_icmp_ge (tgt := 42) hx hb dJ6_stringSize_0f7a4_19 (by decide) (fun _ => ?_) (fun c9 => absurd (by decide +kernel) c9)
                      refine lv_bipush (v := 10) hx hb dJ6_stringSize_0f7a4_42 (by decide) ?_
                      refine lv_iload_n hx hb dJ6_stringSize_0f7a4_44 rfl (lv_at hl 3 rfl) ?_
                      refine lv_iadd hx hb dJ6_stringSize_0f7a4_45 ?_
                      refine kt_ (v := 10) (by decide +kernel) ?_
                      refine W.widen (k := 0) (n := 0) (Nat.le_of_ble_eq_true rfl) (Nat.le_of_ble_eq_true rfl) ?_
                      exact W.iret (v := 10) hx hb hr (QR_.mk hS (by rw [hM])) hS.2.2 dJ6_stringSize_0f7a4_46
                    · rw [if_neg c_19] at hM
                      refine lv_iload_n hx hb dJ6_stringSize_0f7a4_27 rfl (lv_at hl 0 rfl) ?_
                      refine lv_iload_n hx hb dJ6_stringSize_0f7a4_28 rfl (lv_at hl 3 rfl) ?_
                      refine lv_iadd hx hb dJ6_stringSize_0f7a4_29 ?_
                      refine kt_ (v := 9) (by decide +kernel) ?_
                      refine W.widen (k := 0) (n := 0) (Nat.le_of_ble_eq_true rfl) (Nat.le_of_ble_eq_true rfl) ?_
                      exact W.iret (v := 9) hx hb hr (QR_.mk hS (by rw [hM])) hS.2.2 dJ6_stringSize_0f7a4_30
                  · rw [if_neg c_18] at hM
                    refine lv_iload_n hx hb dJ6_stringSize_0f7a4_27 rfl (lv_at hl 0 rfl) ?_
                    refine lv_iload_n hx hb dJ6_stringSize_0f7a4_28 rfl (lv_at hl 3 rfl) ?_
                    refine lv_iadd hx hb dJ6_stringSize_0f7a4_29 ?_
                    refine kt_ (v := 8) (by decide +kernel) ?_
                    refine W.widen (k := 0) (n := 0) (Nat.le_of_ble_eq_true rfl) (Nat.le_of_ble_eq_true rfl) ?_
                    exact W.iret (v := 8) hx hb hr (QR_.mk hS (by rw [hM])) hS.2.2 dJ6_stringSize_0f7a4_30
                · rw [if_neg c_17] at hM
                  refine lv_iload_n hx hb dJ6_stringSize_0f7a4_27 rfl (lv_at hl 0 rfl) ?_
                  refine lv_iload_n hx hb dJ6_stringSize_0f7a4_28 rfl (lv_at hl 3 rfl) ?_
                  refine lv_iadd hx hb dJ6_stringSize_0f7a4_29 ?_
                  refine kt_ (v := 7) (by decide +kernel) ?_
                  refine W.widen (k := 0) (n := 0) (Nat.le_of_ble_eq_true rfl) (Nat.le_of_ble_eq_true rfl) ?_
                  exact W.iret (v := 7) hx hb hr (QR_.mk hS (by rw [hM])) hS.2.2 dJ6_stringSize_0f7a4_30
              · rw [if_neg c_16] at hM
                refine lv_iload_n hx hb dJ6_stringSize_0f7a4_27 rfl (lv_at hl 0 rfl) ?_
                refine lv_iload_n hx hb dJ6_stringSize_0f7a4_28 rfl (lv_at hl 3 rfl) ?_
                refine lv_iadd hx hb dJ6_stringSize_0f7a4_29 ?_
                refine kt_ (v := 6) (by decide +kernel) ?_
                refine W.widen (k := 0) (n := 0) (Nat.le_of_ble_eq_true rfl) (Nat.le_of_ble_eq_true rfl) ?_
                exact W.iret (v := 6) hx hb hr (QR_.mk hS (by rw [hM])) hS.2.2 dJ6_stringSize_0f7a4_30
            · rw [if_neg c_15] at hM
              refine lv_iload_n hx hb dJ6_stringSize_0f7a4_27 rfl (lv_at hl 0 rfl) ?_
              refine lv_iload_n hx hb dJ6_stringSize_0f7a4_28 rfl (lv_at hl 3 rfl) ?_
              refine lv_iadd hx hb dJ6_stringSize_0f7a4_29 ?_
              refine kt_ (v := 5) (by decide +kernel) ?_
              refine W.widen (k := 0) (n := 0) (Nat.le_of_ble_eq_true rfl) (Nat.le_of_ble_eq_true rfl) ?_
              exact W.iret (v := 5) hx hb hr (QR_.mk hS (by rw [hM])) hS.2.2 dJ6_stringSize_0f7a4_30
          · rw [if_neg c_14] at hM
            refine lv_iload_n hx hb dJ6_stringSize_0f7a4_27 rfl (lv_at hl 0 rfl) ?_
            refine lv_iload_n hx hb dJ6_stringSize_0f7a4_28 rfl (lv_at hl 3 rfl) ?_
            refine lv_iadd hx hb dJ6_stringSize_0f7a4_29 ?_
            refine kt_ (v := 4) (by decide +kernel) ?_
            refine W.widen (k := 0) (n := 0) (Nat.le_of_ble_eq_true rfl) (Nat.le_of_ble_eq_true rfl) ?_
            exact W.iret (v := 4) hx hb hr (QR_.mk hS (by rw [hM])) hS.2.2 dJ6_stringSize_0f7a4_30
        · rw [if_neg c_13] at hM
          refine lv_iload_n hx hb dJ6_stringSize_0f7a4_27 rfl (lv_at hl 0 rfl) ?_
          refine lv_iload_n hx hb dJ6_stringSize_0f7a4_28 rfl (lv_at hl 3 rfl) ?_
          refine lv_iadd hx hb dJ6_stringSize_0f7a4_29 ?_
          refine kt_ (v := 3) (by decide +kernel) ?_
          refine W.widen (k := 0) (n := 0) (Nat.le_of_ble_eq_true rfl) (Nat.le_of_ble_eq_true rfl) ?_
          exact W.iret (v := 3) hx hb hr (QR_.mk hS (by rw [hM])) hS.2.2 dJ6_stringSize_0f7a4_30
      · rw [if_neg c_12] at hM
        refine lv_iload_n hx hb dJ6_stringSize_0f7a4_27 rfl (lv_at hl 0 rfl) ?_
        refine lv_iload_n hx hb dJ6_stringSize_0f7a4_28 rfl (lv_at hl 3 rfl) ?_
        refine lv_iadd hx hb dJ6_stringSize_0f7a4_29 ?_
        refine kt_ (v := 2) (by decide +kernel) ?_
        refine W.widen (k := 0) (n := 0) (Nat.le_of_ble_eq_true rfl) (Nat.le_of_ble_eq_true rfl) ?_
        exact W.iret (v := 2) hx hb hr (QR_.mk hS (by rw [hM])) hS.2.2 dJ6_stringSize_0f7a4_30
    · rw [if_neg c_11] at hM
      refine lv_iload_n hx hb dJ6_stringSize_0f7a4_27 rfl (lv_at hl 0 rfl) ?_
      refine lv_iload_n hx hb dJ6_stringSize_0f7a4_28 rfl (lv_at hl 3 rfl) ?_
      refine lv_iadd hx hb dJ6_stringSize_0f7a4_29 ?_
      refine kt_ (v := 1) (by decide +kernel) ?_
      refine W.widen (k := 0) (n := 0) (Nat.le_of_ble_eq_true rfl) (Nat.le_of_ble_eq_true rfl) ?_
      exact W.iret (v := 1) hx hb hr (QR_.mk hS (by rw [hM])) hS.2.2 dJ6_stringSize_0f7a4_30
def F_J6_getChars_ba4f3 (a1 : Int32) (a2 : Int32) (ar3 : Nat → Int32) : Int32 × (Nat → Int32) := (if (-100) < (- a1) then (if (-9) ≤ (- a1) then ((a2 + (-1)), (upd ar3 (ix (a2 + (-1))) (fx_ones (ix (- (- a1)))))) else (((a2 + (-1)) + (-1)), (upd (upd ar3 (ix (a2 + (-1))) (fx_ones (ix (- (- a1))))) (ix ((a2 + (-1)) + (-1))) (fx_tens (ix (- (- a1))))))) else (if (-9) ≤ ((- a1) / 100) then ((((a2 + (-1)) + (-1)) + (-1)), (upd (upd (upd ar3 (ix (a2 + (-1))) (fx_ones (ix ((((- a1) / 100) * 100) - (- a1))))) (ix ((a2 + (-1)) + (-1))) (fx_tens (ix ((((- a1) / 100) * 100) - (- a1))))) (ix (((a2 + (-1)) + (-1)) + (-1))) (fx_ones (ix (- ((- a1) / 100)))))) else (((((a2 + (-1)) + (-1)) + (-1)) + (-1)), (upd (upd (upd (upd ar3 (ix (a2 + (-1))) (fx_ones (ix ((((- a1) / 100) * 100) - (- a1))))) (ix ((a2 + (-1)) + (-1))) (fx_tens (ix ((((- a1) / 100) * 100) - (- a1))))) (ix (((a2 + (-1)) + (-1)) + (-1))) (fx_ones (ix (- ((- a1) / 100))))) (ix ((((a2 + (-1)) + (-1)) + (-1)) + (-1))) (fx_tens (ix (- ((- a1) / 100))))))))
set_option maxHeartbeats 4000000 in
set_option maxRecDepth 100000 in
theorem c_J6_getChars_ba4f3 (l : Launch) (hl0 : l.stackTraces = false) (D : va_G) (ad : Nat → Nat) (sz : Nat) (h_ar3 : Nat) (k_ar3 : ClassId) (len3 : Nat) (ar3 : Nat → Int32) (a1 : Int32) (a2 : Int32) (hy0 : sb_Fit ar3) (hy1 : 0 ≤ a1.toInt) (hy2 : a1.toInt < 10000) (hy3 : a2.toInt ≤ len3) (hy4 : len3 ≤ 100000) (hy5 : (F_J6_stringSize_0f7a4 a1).toInt ≤ a2.toInt) : Met l yJ6_getChars_ba4f3 wsJ6_getChars_ba4f3 ({ frames := 0, cells := 0, slots := 0, locals := 0 }) (PC_ D ad [(h_ar3, .inl (k_ar3, len3, .inl ar3))] [(k_ar3, .byte)] sz [.int a1, .int a2, .ref h_ar3]) (QG_ D (fun q i => some (.int (F_J6_getChars_ba4f3 a1 a2 ar3).1)) (fun q i => sb_Fit ((F_J6_getChars_ba4f3 a1 a2 ar3).2)) (fun q k i => [(h_ar3, .inl (k_ar3, len3, .inl (F_J6_getChars_ba4f3 a1 a2 ar3).2))]) (fun q k i => [(k_ar3, .byte)]) (va_A [(h_ar3, .inl (k_ar3, len3, .inl ar3))] sz)) 0 0 (va_A [(h_ar3, .inl (k_ar3, len3, .inl ar3))] sz) := by
  refine Met.ofW (cc := cJ6_getChars_ba4f3) (maxL := 7) (ret := (some .int)) (by decide) rfl ?_
  intro p e s m args below meth c s₁ B hml hv
  obtain ⟨rfl, hsz, hP, hK, hD0, hF⟩ := hv
  have hx := B.exec
  have hb := B.bytes
  have hr := B.returns
  have hts := atoms_spec (ws := wsJ6_getChars_ba4f3) B.pre
  have hown : s.vm.findClass RJ6 = some m.cls := findClass_of_methodNamed B.named
  have hlocks := B.notSynchronized
  subst hsz
  have hD := hD0.self (sz := s.heap.size)
  generalize hAe : va_A [(h_ar3, .inl (k_ar3, len3, .inl ar3))] s.heap.size = A at hD hF ⊢
  have hA : ∀ q : Nat, s.heap.size ≤ q → A q := fun q h => by rw [← hAe]; exact Or.inr h
  obtain ⟨H, hHe⟩ : ∃ H : Heap, H = s.heap := ⟨_, rfl⟩
  have hS : va_S A s.heap H [] := by rw [hHe]; exact va_S.rf
  have hP : va_P D vwCl [(h_ar3, .inl (k_ar3, len3, .inl ar3))] H := by rw [hHe]; exact hP
  rw [← hHe]
  have hl := lv_entry [.int a1, .int a2, .ref h_ar3] (n := 7) (Nat.le_of_ble_eq_true rfl)
  rw [lg_entry_eq]
  generalize (lg_sl [.int a1, .int a2, .ref h_ar3] ++ List.replicate (7 - (lg_sl [.int a1, .int a2, .ref h_ar3]).length) Slot.unset).toArray = ls at hl ⊢
  have hl : lv_has ls 7 [(0, .int a1), (1, .int a2), (2, .ref h_ar3)] := hl
  have hM : F_J6_getChars_ba4f3 a1 a2 ar3 = (if (-100) < (- a1) then (if (-9) ≤ (- a1) then ((a2 + (-1)), (upd ar3 (ix (a2 + (-1))) (fx_ones (ix (- (- a1)))))) else (((a2 + (-1)) + (-1)), (upd (upd ar3 (ix (a2 + (-1))) (fx_ones (ix (- (- a1))))) (ix ((a2 + (-1)) + (-1))) (fx_tens (ix (- (- a1))))))) else (if (-9) ≤ ((- a1) / 100) then ((((a2 + (-1)) + (-1)) + (-1)), (upd (upd (upd ar3 (ix (a2 + (-1))) (fx_ones (ix ((((- a1) / 100) * 100) - (- a1))))) (ix ((a2 + (-1)) + (-1))) (fx_tens (ix ((((- a1) / 100) * 100) - (- a1))))) (ix (((a2 + (-1)) + (-1)) + (-1))) (fx_ones (ix (- ((- a1) / 100)))))) else (((((a2 + (-1)) + (-1)) + (-1)) + (-1)), (upd (upd (upd (upd ar3 (ix (a2 + (-1))) (fx_ones (ix ((((- a1) / 100) * 100) - (- a1))))) (ix ((a2 + (-1)) + (-1))) (fx_tens (ix ((((- a1) / 100) * 100) - (- a1))))) (ix (((a2 + (-1)) + (-1)) + (-1))) (fx_ones (ix (- ((- a1) / 100))))) (ix ((((a2 + (-1)) + (-1)) + (-1)) + (-1))) (fx_tens (ix (- ((- a1) / 100)))))))) := rfl
  refine lv_iload_n hx hb dJ6_getChars_ba4f3_0 rfl (lv_at hl 1 rfl) ?_
  refine lv_istore (lv' := [(5, .int a2), (0, .int a1), (1, .int a2), (2, .ref h_ar3)]) hx hb dJ6_getChars_ba4f3_1 hl (by decide) rfl (fun ls hl => ?_)
  refine lv_iload_n hx hb dJ6_getChars_ba4f3_3 rfl (lv_at hl 1 rfl) ?_
  refine lv_if_ge (tgt := 11) hx hb dJ6_getChars_ba4f3_4 (by decide) (fun c_1 => ?_) (fun c9 => False.elim (by have z1 := hy1; have z2 := hy2; have z3 := hy3; have z4 := hy4; have z5 := hy5; have y9 := f_nle c9; have l0 : (0 : Int32).toInt = 0 := (by decide +kernel); omega))
  refine lv_iconst (v := 0) hx hb dJ6_getChars_ba4f3_11 (by decide) ?_
  refine lv_istore (lv' := [(6, .int 0), (5, .int a2), (0, .int a1), (1, .int a2), (2, .ref h_ar3)]) hx hb dJ6_getChars_ba4f3_12 hl (by decide) rfl (fun ls hl => ?_)
  refine lv_iload hx hb dJ6_getChars_ba4f3_14 (lv_at hl 0 rfl) ?_
  refine lv_if_ne (tgt := 22) hx hb dJ6_getChars_ba4f3_16 (by decide) (fun c9 => absurd (by decide +kernel) c9) (fun _ => ?_)
  refine lv_iload_n hx hb dJ6_getChars_ba4f3_19 rfl (lv_at hl 2 rfl) ?_
  refine lv_ineg hx hb dJ6_getChars_ba4f3_20 ?_
  refine lv_istore_n (lv' := [(0, .int (- a1)), (6, .int 0), (5, .int a2), (1, .int a2), (2, .ref h_ar3)]) hx hb dJ6_getChars_ba4f3_21 rfl hl (by decide) rfl (fun ls hl => ?_)
  refine lv_iload_n hx hb dJ6_getChars_ba4f3_22 rfl (lv_at hl 0 rfl) ?_
  refine lv_bipush (v := (-100)) hx hb dJ6_getChars_ba4f3_23 (by decide) ?_
  refine lv_icmp_gt (tgt := 72) hx hb dJ6_getChars_ba4f3_25 (by decide) (fun c_2 => ?_) (fun c_2 => ?_)
  · rw [if_pos c_2] at hM
    refine lv_aload_n hx hb dJ6_getChars_ba4f3_72 rfl (lv_at hl 4 rfl) ?_
    refine lv_iinc (v := (a2 + (-1))) (lv' := [(5, .int (a2 + (-1))), (0, .int (- a1)), (6, .int 0), (1, .int a2), (2, .ref h_ar3)]) hx hb dJ6_getChars_ba4f3_73 hl (k := 2) rfl rfl (by decide) rfl (fun ls hl => ?_)
    refine lv_iload hx hb dJ6_getChars_ba4f3_76 (lv_at hl 0 rfl) ?_
    refine va_gets (C := "java/lang/Integer") (n := "DigitOnes") (d := "[B") (own := RJ6) (ref := "java/lang/Integer") (v := .ref (ad 10)) hx hb (fxdg_ hF).1.1 hS hown (hts (.fieldLink RJ6 83 "java/lang/Integer" "DigitOnes" "[B") (List.mem_of_getElem? (i := 1) (by decide +kernel))) (fun _ h9 => h9) dJ6_getChars_ba4f3_78 ?_
    refine lv_iload_n hx hb dJ6_getChars_ba4f3_81 rfl (lv_at hl 1 rfl) ?_
    refine lv_ineg hx hb dJ6_getChars_ba4f3_82 ?_
    refine va_tb (v := .int (fx_ones (ix (- (- a1))))) hx hb (fxdg_ hF).1.2 hS (vinI (by have y0 := f_le c_1; have y1 := f_lt c_2; have z1 := hy1; have z2 := hy2; have z3 := hy3; have z4 := hy4; have z5 := hy5; have e_m100 : (-100 : Int32).toInt = -100 := (by decide +kernel); have e_0 : (0 : Int32).toInt = 0 := (by decide +kernel); have b279 := Int32.toInt_lt (a1); have d279 := Int32.le_toInt (a1); have q278 := negI (x := a1) (by omega); have q277 := negI (x := (- a1)) (by omega); omega) (by have y0 := f_le c_1; have y1 := f_lt c_2; have z1 := hy1; have z2 := hy2; have z3 := hy3; have z4 := hy4; have z5 := hy5; have e_m100 : (-100 : Int32).toInt = -100 := (by decide +kernel); have e_0 : (0 : Int32).toInt = 0 := (by decide +kernel); have b279 := Int32.toInt_lt (a1); have d279 := Int32.le_toInt (a1); have q278 := negI (x := a1) (by omega); have q277 := negI (x := (- a1)) (by omega); omega)) rfl dJ6_getChars_ba4f3_83 ?_
    refine ka_bast (g := (upd ar3 (ix (a2 + (-1))) (fx_ones (ix (- (- a1)))))) hx hb hK hP hD hS 0 0 rfl rfl (vinI (by have y0 := f_le c_1; have y1 := f_lt c_2; have z1 := hy1; have z2 := hy2; have z3 := hy3; have z4 := hy4; have z5 := hy5; have e_m100 : (-100 : Int32).toInt = -100 := (by decide +kernel); have e_0 : (0 : Int32).toInt = 0 := (by decide +kernel); have b281 := Int32.toInt_lt (a2); have d281 := Int32.le_toInt (a2); have l282 : ((-1) : Int32).toInt = (-1) := (by decide +kernel); have q280 := addI (a := a2) (b := (-1)) (by omega) (by omega); omega) (by have y0 := f_le c_1; have y1 := f_lt c_2; have z1 := hy1; have z2 := hy2; have z3 := hy3; have z4 := hy4; have z5 := hy5; have e_m100 : (-100 : Int32).toInt = -100 := (by decide +kernel); have e_0 : (0 : Int32).toInt = 0 := (by decide +kernel); have b281 := Int32.toInt_lt (a2); have d281 := Int32.le_toInt (a2); have l282 : ((-1) : Int32).toInt = (-1) := (by decide +kernel); have q280 := addI (a := a2) (b := (-1)) (by omega) (by omega); omega)) (by rw [fx_nar]; rfl) dJ6_getChars_ba4f3_84 (fun H locs hP hD hS => ?_)
    have hP : va_P D vwCl [(h_ar3, .inl (k_ar3, len3, .inl (upd ar3 (ix (a2 + (-1))) (fx_ones (ix (- (- a1)))))))] H := hP
    have hD : va_D A [(h_ar3, .inl (k_ar3, len3, .inl (upd ar3 (ix (a2 + (-1))) (fx_ones (ix (- (- a1)))))))] := hD
    refine lv_iload_n hx hb dJ6_getChars_ba4f3_85 rfl (lv_at hl 1 rfl) ?_
    refine lv_bipush (v := (-9)) hx hb dJ6_getChars_ba4f3_86 (by decide) ?_
    refine lv_icmp_ge (tgt := 104) hx hb dJ6_getChars_ba4f3_88 (by decide) (fun c_3 => ?_) (fun c_3 => ?_)
    · rw [if_pos c_3] at hM
      refine lv_iload hx hb dJ6_getChars_ba4f3_104 (lv_at hl 2 rfl) ?_
      refine lv_if_eq (tgt := 118) hx hb dJ6_getChars_ba4f3_106 (by decide) (fun _ => ?_) (fun c9 => absurd (by decide +kernel) c9)
      refine lv_iload hx hb dJ6_getChars_ba4f3_118 (lv_at hl 0 rfl) ?_
      refine W.widen (k := 0) (n := 0) (Nat.le_of_ble_eq_true rfl) (Nat.le_of_ble_eq_true rfl) ?_
      exact W.iret (v := (a2 + (-1))) hx hb hr (QG_.mk (fun _ => 0) (fun _ => 0) (fun _ => 0) [0] [0] hP hD hK hS (by rw [hM]) (by rw [hM]; exact (show sb_Fit (upd ar3 (ix (a2 + (-1))) (fx_ones (ix (- (- a1))))) from (sb_fitU hy0 (fx_fit _).1))) (by rw [hM]; rfl) (by decide) rfl) hS.2.2 dJ6_getChars_ba4f3_120
    · rw [if_neg c_3] at hM
      refine lv_aload_n hx hb dJ6_getChars_ba4f3_91 rfl (lv_at hl 4 rfl) ?_
      refine lv_iinc (v := ((a2 + (-1)) + (-1))) (lv' := [(5, .int ((a2 + (-1)) + (-1))), (0, .int (- a1)), (6, .int 0), (1, .int a2), (2, .ref h_ar3)]) hx hb dJ6_getChars_ba4f3_92 hl (k := 0) rfl rfl (by decide) rfl (fun ls hl => ?_)
      refine lv_iload hx hb dJ6_getChars_ba4f3_95 (lv_at hl 0 rfl) ?_
      refine va_gets (C := "java/lang/Integer") (n := "DigitTens") (d := "[B") (own := RJ6) (ref := "java/lang/Integer") (v := .ref (ad 11)) hx hb (fxdg_ hF).2.1 hS hown (hts (.fieldLink RJ6 87 "java/lang/Integer" "DigitTens" "[B") (List.mem_of_getElem? (i := 2) (by decide +kernel))) (fun _ h9 => h9) dJ6_getChars_ba4f3_97 ?_
      refine lv_iload_n hx hb dJ6_getChars_ba4f3_100 rfl (lv_at hl 1 rfl) ?_
      refine lv_ineg hx hb dJ6_getChars_ba4f3_101 ?_
      refine va_tb (v := .int (fx_tens (ix (- (- a1))))) hx hb (fxdg_ hF).2.2 hS (vinI (by have y0 := f_le c_1; have y1 := f_lt c_2; have y2 := f_nle c_3; have z1 := hy1; have z2 := hy2; have z3 := hy3; have z4 := hy4; have z5 := hy5; have e_m100 : (-100 : Int32).toInt = -100 := (by decide +kernel); have e_m9 : (-9 : Int32).toInt = -9 := (by decide +kernel); have e_0 : (0 : Int32).toInt = 0 := (by decide +kernel); have b285 := Int32.toInt_lt (a1); have d285 := Int32.le_toInt (a1); have q284 := negI (x := a1) (by omega); have q283 := negI (x := (- a1)) (by omega); omega) (by have y0 := f_le c_1; have y1 := f_lt c_2; have y2 := f_nle c_3; have z1 := hy1; have z2 := hy2; have z3 := hy3; have z4 := hy4; have z5 := hy5; have e_m100 : (-100 : Int32).toInt = -100 := (by decide +kernel); have e_m9 : (-9 : Int32).toInt = -9 := (by decide +kernel); have e_0 : (0 : Int32).toInt = 0 := (by decide +kernel); have b285 := Int32.toInt_lt (a1); have d285 := Int32.le_toInt (a1); have q284 := negI (x := a1) (by omega); have q283 := negI (x := (- a1)) (by omega); omega)) rfl dJ6_getChars_ba4f3_102 ?_
      refine ka_bast (g := (upd (upd ar3 (ix (a2 + (-1))) (fx_ones (ix (- (- a1))))) (ix ((a2 + (-1)) + (-1))) (fx_tens (ix (- (- a1)))))) hx hb hK hP hD hS 0 0 rfl rfl (vinI (by have y0 := f_le c_1; have y1 := f_lt c_2; have y2 := f_nle c_3; have z1 := hy1; have z2 := hy2; have z3 := hy3; have z4 := hy4; have z5 := hy5; have e_m100 : (-100 : Int32).toInt = -100 := (by decide +kernel); have e_m9 : (-9 : Int32).toInt = -9 := (by decide +kernel); have e_0 : (0 : Int32).toInt = 0 := (by decide +kernel); have b288 := Int32.toInt_lt (a2); have d288 := Int32.le_toInt (a2); have l289 : ((-1) : Int32).toInt = (-1) := (by decide +kernel); have q287 := addI (a := a2) (b := (-1)) (by omega) (by omega); have l290 : ((-1) : Int32).toInt = (-1) := (by decide +kernel); have q286 := addI (a := (a2 + (-1))) (b := (-1)) (by omega) (by omega); omega) (by have y0 := f_le c_1; have y1 := f_lt c_2; have y2 := f_nle c_3; have z1 := hy1; have z2 := hy2; have z3 := hy3; have z4 := hy4; have z5 := hy5; have e_m100 : (-100 : Int32).toInt = -100 := (by decide +kernel); have e_m9 : (-9 : Int32).toInt = -9 := (by decide +kernel); have e_0 : (0 : Int32).toInt = 0 := (by decide +kernel); have b288 := Int32.toInt_lt (a2); have d288 := Int32.le_toInt (a2); have l289 : ((-1) : Int32).toInt = (-1) := (by decide +kernel); have q287 := addI (a := a2) (b := (-1)) (by omega) (by omega); have l290 : ((-1) : Int32).toInt = (-1) := (by decide +kernel); have q286 := addI (a := (a2 + (-1))) (b := (-1)) (by omega) (by omega); omega)) (by rw [fx_nar]; rfl) dJ6_getChars_ba4f3_103 (fun H locs hP hD hS => ?_)
      have hP : va_P D vwCl [(h_ar3, .inl (k_ar3, len3, .inl (upd (upd ar3 (ix (a2 + (-1))) (fx_ones (ix (- (- a1))))) (ix ((a2 + (-1)) + (-1))) (fx_tens (ix (- (- a1)))))))] H := hP
      have hD : va_D A [(h_ar3, .inl (k_ar3, len3, .inl (upd (upd ar3 (ix (a2 + (-1))) (fx_ones (ix (- (- a1))))) (ix ((a2 + (-1)) + (-1))) (fx_tens (ix (- (- a1)))))))] := hD
      refine lv_iload hx hb dJ6_getChars_ba4f3_104 (lv_at hl 2 rfl) ?_
      refine lv_if_eq (tgt := 118) hx hb dJ6_getChars_ba4f3_106 (by decide) (fun _ => ?_) (fun c9 => absurd (by decide +kernel) c9)
      refine lv_iload hx hb dJ6_getChars_ba4f3_118 (lv_at hl 0 rfl) ?_
      refine W.widen (k := 0) (n := 0) (Nat.le_of_ble_eq_true rfl) (Nat.le_of_ble_eq_true rfl) ?_
      exact W.iret (v := ((a2 + (-1)) + (-1))) hx hb hr (QG_.mk (fun _ => 0) (fun _ => 0) (fun _ => 0) [0] [0] hP hD hK hS (by rw [hM]) (by rw [hM]; exact (show sb_Fit (upd (upd ar3 (ix (a2 + (-1))) (fx_ones (ix (- (- a1))))) (ix ((a2 + (-1)) + (-1))) (fx_tens (ix (- (- a1))))) from (sb_fitU (sb_fitU hy0 (fx_fit _).1) (fx_fit _).2))) (by rw [hM]; rfl) (by decide) rfl) hS.2.2 dJ6_getChars_ba4f3_120
  · rw [if_neg c_2] at hM
    refine lv_iload_n hx hb dJ6_getChars_ba4f3_28 rfl (lv_at hl 0 rfl) ?_
    refine lv_bipush (v := 100) hx hb dJ6_getChars_ba4f3_29 (by decide) ?_
    refine lv_idiv hx hb dJ6_getChars_ba4f3_31 (by decide +kernel) ?_
    refine lv_istore_n (lv' := [(3, .int ((- a1) / 100)), (0, .int (- a1)), (6, .int 0), (5, .int a2), (1, .int a2), (2, .ref h_ar3)]) hx hb dJ6_getChars_ba4f3_32 rfl hl (by decide) rfl (fun ls hl => ?_)
    refine lv_iload_n hx hb dJ6_getChars_ba4f3_33 rfl (lv_at hl 0 rfl) ?_
    refine lv_bipush (v := 100) hx hb dJ6_getChars_ba4f3_34 (by decide) ?_
    refine lv_imul hx hb dJ6_getChars_ba4f3_36 ?_
    refine lv_iload_n hx hb dJ6_getChars_ba4f3_37 rfl (lv_at hl 1 rfl) ?_
    refine lv_isub hx hb dJ6_getChars_ba4f3_38 ?_
    refine lv_istore (lv' := [(4, .int ((((- a1) / 100) * 100) - (- a1))), (3, .int ((- a1) / 100)), (0, .int (- a1)), (6, .int 0), (5, .int a2), (1, .int a2), (2, .ref h_ar3)]) hx hb dJ6_getChars_ba4f3_39 hl (by decide) rfl (fun ls hl => ?_)
    refine lv_iload_n hx hb dJ6_getChars_ba4f3_41 rfl (lv_at hl 1 rfl) ?_
    refine lv_istore_n (lv' := [(0, .int ((- a1) / 100)), (4, .int ((((- a1) / 100) * 100) - (- a1))), (3, .int ((- a1) / 100)), (6, .int 0), (5, .int a2), (1, .int a2), (2, .ref h_ar3)]) hx hb dJ6_getChars_ba4f3_42 rfl hl (by decide) rfl (fun ls hl => ?_)
    refine lv_aload_n hx hb dJ6_getChars_ba4f3_43 rfl (lv_at hl 6 rfl) ?_
    refine lv_iinc (v := (a2 + (-1))) (lv' := [(5, .int (a2 + (-1))), (0, .int ((- a1) / 100)), (4, .int ((((- a1) / 100) * 100) - (- a1))), (3, .int ((- a1) / 100)), (6, .int 0), (1, .int a2), (2, .ref h_ar3)]) hx hb dJ6_getChars_ba4f3_44 hl (k := 4) rfl rfl (by decide) rfl (fun ls hl => ?_)
    refine lv_iload hx hb dJ6_getChars_ba4f3_47 (lv_at hl 0 rfl) ?_
    refine va_gets (C := "java/lang/Integer") (n := "DigitOnes") (d := "[B") (own := RJ6) (ref := "java/lang/Integer") (v := .ref (ad 10)) hx hb (fxdg_ hF).1.1 hS hown (hts (.fieldLink RJ6 83 "java/lang/Integer" "DigitOnes" "[B") (List.mem_of_getElem? (i := 1) (by decide +kernel))) (fun _ h9 => h9) dJ6_getChars_ba4f3_49 ?_
    refine lv_iload hx hb dJ6_getChars_ba4f3_52 (lv_at hl 2 rfl) ?_
    refine va_tb (v := .int (fx_ones (ix ((((- a1) / 100) * 100) - (- a1))))) hx hb (fxdg_ hF).1.2 hS (vinI (by have y0 := f_le c_1; have y1 := f_nlt c_2; have z1 := hy1; have z2 := hy2; have z3 := hy3; have z4 := hy4; have z5 := hy5; have e_m100 : (-100 : Int32).toInt = -100 := (by decide +kernel); have e_0 : (0 : Int32).toInt = 0 := (by decide +kernel); have b305 := Int32.toInt_lt (a1); have d305 := Int32.le_toInt (a1); have q304 := negI (x := a1) (by omega); have q300 := dv100 (x := (- a1)) (by omega); have q292 := mulR (a := ((- a1) / 100)) (b := 100) (k := 100) (by decide +kernel) (by omega) (by omega); have b307 := Int32.toInt_lt (a1); have d307 := Int32.le_toInt (a1); have q306 := negI (x := a1) (by omega); have q291 := subI (a := (((- a1) / 100) * 100)) (b := (- a1)) (by omega) (by omega); omega) (by have y0 := f_le c_1; have y1 := f_nlt c_2; have z1 := hy1; have z2 := hy2; have z3 := hy3; have z4 := hy4; have z5 := hy5; have e_m100 : (-100 : Int32).toInt = -100 := (by decide +kernel); have e_0 : (0 : Int32).toInt = 0 := (by decide +kernel); have b305 := Int32.toInt_lt (a1); have d305 := Int32.le_toInt (a1); have q304 := negI (x := a1) (by omega); have q300 := dv100 (x := (- a1)) (by omega); have q292 := mulR (a := ((- a1) / 100)) (b := 100) (k := 100) (by decide +kernel) (by omega) (by omega); have b307 := Int32.toInt_lt (a1); have d307 := Int32.le_toInt (a1); have q306 := negI (x := a1) (by omega); have q291 := subI (a := (((- a1) / 100) * 100)) (b := (- a1)) (by omega) (by omega); omega)) rfl dJ6_getChars_ba4f3_54 ?_
    refine ka_bast (g := (upd ar3 (ix (a2 + (-1))) (fx_ones (ix ((((- a1) / 100) * 100) - (- a1)))))) hx hb hK hP hD hS 0 0 rfl rfl (vinI (by have y0 := f_le c_1; have y1 := f_nlt c_2; have z1 := hy1; have z2 := hy2; have z3 := hy3; have z4 := hy4; have z5 := hy5; have e_m100 : (-100 : Int32).toInt = -100 := (by decide +kernel); have e_0 : (0 : Int32).toInt = 0 := (by decide +kernel); have b309 := Int32.toInt_lt (a2); have d309 := Int32.le_toInt (a2); have l310 : ((-1) : Int32).toInt = (-1) := (by decide +kernel); have q308 := addI (a := a2) (b := (-1)) (by omega) (by omega); omega) (by have y0 := f_le c_1; have y1 := f_nlt c_2; have z1 := hy1; have z2 := hy2; have z3 := hy3; have z4 := hy4; have z5 := hy5; have e_m100 : (-100 : Int32).toInt = -100 := (by decide +kernel); have e_0 : (0 : Int32).toInt = 0 := (by decide +kernel); have b309 := Int32.toInt_lt (a2); have d309 := Int32.le_toInt (a2); have l310 : ((-1) : Int32).toInt = (-1) := (by decide +kernel); have q308 := addI (a := a2) (b := (-1)) (by omega) (by omega); omega)) (by rw [fx_nar]; rfl) dJ6_getChars_ba4f3_55 (fun H locs hP hD hS => ?_)
    have hP : va_P D vwCl [(h_ar3, .inl (k_ar3, len3, .inl (upd ar3 (ix (a2 + (-1))) (fx_ones (ix ((((- a1) / 100) * 100) - (- a1)))))))] H := hP
    have hD : va_D A [(h_ar3, .inl (k_ar3, len3, .inl (upd ar3 (ix (a2 + (-1))) (fx_ones (ix ((((- a1) / 100) * 100) - (- a1)))))))] := hD
    refine lv_aload_n hx hb dJ6_getChars_ba4f3_56 rfl (lv_at hl 6 rfl) ?_
    refine lv_iinc (v := ((a2 + (-1)) + (-1))) (lv' := [(5, .int ((a2 + (-1)) + (-1))), (0, .int ((- a1) / 100)), (4, .int ((((- a1) / 100) * 100) - (- a1))), (3, .int ((- a1) / 100)), (6, .int 0), (1, .int a2), (2, .ref h_ar3)]) hx hb dJ6_getChars_ba4f3_57 hl (k := 0) rfl rfl (by decide) rfl (fun ls hl => ?_)
    refine lv_iload hx hb dJ6_getChars_ba4f3_60 (lv_at hl 0 rfl) ?_
    refine va_gets (C := "java/lang/Integer") (n := "DigitTens") (d := "[B") (own := RJ6) (ref := "java/lang/Integer") (v := .ref (ad 11)) hx hb (fxdg_ hF).2.1 hS hown (hts (.fieldLink RJ6 87 "java/lang/Integer" "DigitTens" "[B") (List.mem_of_getElem? (i := 2) (by decide +kernel))) (fun _ h9 => h9) dJ6_getChars_ba4f3_62 ?_
    refine lv_iload hx hb dJ6_getChars_ba4f3_65 (lv_at hl 2 rfl) ?_
    refine va_tb (v := .int (fx_tens (ix ((((- a1) / 100) * 100) - (- a1))))) hx hb (fxdg_ hF).2.2 hS (vinI (by have y0 := f_le c_1; have y1 := f_nlt c_2; have z1 := hy1; have z2 := hy2; have z3 := hy3; have z4 := hy4; have z5 := hy5; have e_m100 : (-100 : Int32).toInt = -100 := (by decide +kernel); have e_0 : (0 : Int32).toInt = 0 := (by decide +kernel); have b325 := Int32.toInt_lt (a1); have d325 := Int32.le_toInt (a1); have q324 := negI (x := a1) (by omega); have q320 := dv100 (x := (- a1)) (by omega); have q312 := mulR (a := ((- a1) / 100)) (b := 100) (k := 100) (by decide +kernel) (by omega) (by omega); have b327 := Int32.toInt_lt (a1); have d327 := Int32.le_toInt (a1); have q326 := negI (x := a1) (by omega); have q311 := subI (a := (((- a1) / 100) * 100)) (b := (- a1)) (by omega) (by omega); omega) (by have y0 := f_le c_1; have y1 := f_nlt c_2; have z1 := hy1; have z2 := hy2; have z3 := hy3; have z4 := hy4; have z5 := hy5; have e_m100 : (-100 : Int32).toInt = -100 := (by decide +kernel); have e_0 : (0 : Int32).toInt = 0 := (by decide +kernel); have b325 := Int32.toInt_lt (a1); have d325 := Int32.le_toInt (a1); have q324 := negI (x := a1) (by omega); have q320 := dv100 (x := (- a1)) (by omega); have q312 := mulR (a := ((- a1) / 100)) (b := 100) (k := 100) (by decide +kernel) (by omega) (by omega); have b327 := Int32.toInt_lt (a1); have d327 := Int32.le_toInt (a1); have q326 := negI (x := a1) (by omega); have q311 := subI (a := (((- a1) / 100) * 100)) (b := (- a1)) (by omega) (by omega); omega)) rfl dJ6_getChars_ba4f3_67 ?_
    refine ka_bast (g := (upd (upd ar3 (ix (a2 + (-1))) (fx_ones (ix ((((- a1) / 100) * 100) - (- a1))))) (ix ((a2 + (-1)) + (-1))) (fx_tens (ix ((((- a1) / 100) * 100) - (- a1)))))) hx hb hK hP hD hS 0 0 rfl rfl (vinI (by have y0 := f_le c_1; have y1 := f_nlt c_2; have z1 := hy1; have z2 := hy2; have z3 := hy3; have z4 := hy4; have z5 := hy5; have e_m100 : (-100 : Int32).toInt = -100 := (by decide +kernel); have e_0 : (0 : Int32).toInt = 0 := (by decide +kernel); have b330 := Int32.toInt_lt (a2); have d330 := Int32.le_toInt (a2); have l331 : ((-1) : Int32).toInt = (-1) := (by decide +kernel); have q329 := addI (a := a2) (b := (-1)) (by omega) (by omega); have l332 : ((-1) : Int32).toInt = (-1) := (by decide +kernel); have q328 := addI (a := (a2 + (-1))) (b := (-1)) (by omega) (by omega); omega) (by have y0 := f_le c_1; have y1 := f_nlt c_2; have z1 := hy1; have z2 := hy2; have z3 := hy3; have z4 := hy4; have z5 := hy5; have e_m100 : (-100 : Int32).toInt = -100 := (by decide +kernel); have e_0 : (0 : Int32).toInt = 0 := (by decide +kernel); have b330 := Int32.toInt_lt (a2); have d330 := Int32.le_toInt (a2); have l331 : ((-1) : Int32).toInt = (-1) := (by decide +kernel); have q329 := addI (a := a2) (b := (-1)) (by omega) (by omega); have l332 : ((-1) : Int32).toInt = (-1) := (by decide +kernel); have q328 := addI (a := (a2 + (-1))) (b := (-1)) (by omega) (by omega); omega)) (by rw [fx_nar]; rfl) dJ6_getChars_ba4f3_68 (fun H locs hP hD hS => ?_)
    have hP : va_P D vwCl [(h_ar3, .inl (k_ar3, len3, .inl (upd (upd ar3 (ix (a2 + (-1))) (fx_ones (ix ((((- a1) / 100) * 100) - (- a1))))) (ix ((a2 + (-1)) + (-1))) (fx_tens (ix ((((- a1) / 100) * 100) - (- a1)))))))] H := hP
    have hD : va_D A [(h_ar3, .inl (k_ar3, len3, .inl (upd (upd ar3 (ix (a2 + (-1))) (fx_ones (ix ((((- a1) / 100) * 100) - (- a1))))) (ix ((a2 + (-1)) + (-1))) (fx_tens (ix ((((- a1) / 100) * 100) - (- a1)))))))] := hD
    refine lv_goto (tgt := 22) hx hb dJ6_getChars_ba4f3_69 (by decide) ?_
    refine lv_iload_n hx hb dJ6_getChars_ba4f3_22 rfl (lv_at hl 1 rfl) ?_
    refine lv_bipush (v := (-100)) hx hb dJ6_getChars_ba4f3_23 (by decide) ?_
    refine lv_icmp_gt (tgt := 72) hx hb dJ6_getChars_ba4f3_25 (by decide) (fun c_4 => ?_) (fun c9 => False.elim (by have y0 := f_le c_1; have y1 := f_nlt c_2; have z1 := hy1; have z2 := hy2; have z3 := hy3; have z4 := hy4; have z5 := hy5; have e_m100 : (-100 : Int32).toInt = -100 := (by decide +kernel); have e_0 : (0 : Int32).toInt = 0 := (by decide +kernel); have b338 := Int32.toInt_lt (a1); have d338 := Int32.le_toInt (a1); have q337 := negI (x := a1) (by omega); have q333 := dv100 (x := (- a1)) (by omega); have y9 := f_nlt c9; have l100 : (-100 : Int32).toInt = -100 := (by decide +kernel); omega))
    refine lv_aload_n hx hb dJ6_getChars_ba4f3_72 rfl (lv_at hl 6 rfl) ?_
    refine lv_iinc (v := (((a2 + (-1)) + (-1)) + (-1))) (lv' := [(5, .int (((a2 + (-1)) + (-1)) + (-1))), (0, .int ((- a1) / 100)), (4, .int ((((- a1) / 100) * 100) - (- a1))), (3, .int ((- a1) / 100)), (6, .int 0), (1, .int a2), (2, .ref h_ar3)]) hx hb dJ6_getChars_ba4f3_73 hl (k := 0) rfl rfl (by decide) rfl (fun ls hl => ?_)
    refine lv_iload hx hb dJ6_getChars_ba4f3_76 (lv_at hl 0 rfl) ?_
    refine va_gets (C := "java/lang/Integer") (n := "DigitOnes") (d := "[B") (own := RJ6) (ref := "java/lang/Integer") (v := .ref (ad 10)) hx hb (fxdg_ hF).1.1 hS hown (hts (.fieldLink RJ6 83 "java/lang/Integer" "DigitOnes" "[B") (List.mem_of_getElem? (i := 1) (by decide +kernel))) (fun _ h9 => h9) dJ6_getChars_ba4f3_78 ?_
    refine lv_iload_n hx hb dJ6_getChars_ba4f3_81 rfl (lv_at hl 1 rfl) ?_
    refine lv_ineg hx hb dJ6_getChars_ba4f3_82 ?_
    refine va_tb (v := .int (fx_ones (ix (- ((- a1) / 100))))) hx hb (fxdg_ hF).1.2 hS (vinI (by have y0 := f_le c_1; have y1 := f_nlt c_2; have y2 := f_lt c_4; have z1 := hy1; have z2 := hy2; have z3 := hy3; have z4 := hy4; have z5 := hy5; have e_m100 : (-100 : Int32).toInt = -100 := (by decide +kernel); have e_0 : (0 : Int32).toInt = 0 := (by decide +kernel); have b345 := Int32.toInt_lt (a1); have d345 := Int32.le_toInt (a1); have q344 := negI (x := a1) (by omega); have q340 := dv100 (x := (- a1)) (by omega); have q339 := negI (x := ((- a1) / 100)) (by omega); omega) (by have y0 := f_le c_1; have y1 := f_nlt c_2; have y2 := f_lt c_4; have z1 := hy1; have z2 := hy2; have z3 := hy3; have z4 := hy4; have z5 := hy5; have e_m100 : (-100 : Int32).toInt = -100 := (by decide +kernel); have e_0 : (0 : Int32).toInt = 0 := (by decide +kernel); have b345 := Int32.toInt_lt (a1); have d345 := Int32.le_toInt (a1); have q344 := negI (x := a1) (by omega); have q340 := dv100 (x := (- a1)) (by omega); have q339 := negI (x := ((- a1) / 100)) (by omega); omega)) rfl dJ6_getChars_ba4f3_83 ?_
    refine ka_bast (g := (upd (upd (upd ar3 (ix (a2 + (-1))) (fx_ones (ix ((((- a1) / 100) * 100) - (- a1))))) (ix ((a2 + (-1)) + (-1))) (fx_tens (ix ((((- a1) / 100) * 100) - (- a1))))) (ix (((a2 + (-1)) + (-1)) + (-1))) (fx_ones (ix (- ((- a1) / 100)))))) hx hb hK hP hD hS 0 0 rfl rfl (vinI (by have y0 := f_le c_1; have y1 := f_nlt c_2; have y2 := f_lt c_4; have z1 := hy1; have z2 := hy2; have z3 := hy3; have z4 := hy4; have z5 := hy5; have e_m100 : (-100 : Int32).toInt = -100 := (by decide +kernel); have e_0 : (0 : Int32).toInt = 0 := (by decide +kernel); have b349 := Int32.toInt_lt (a2); have d349 := Int32.le_toInt (a2); have l350 : ((-1) : Int32).toInt = (-1) := (by decide +kernel); have q348 := addI (a := a2) (b := (-1)) (by omega) (by omega); have l351 : ((-1) : Int32).toInt = (-1) := (by decide +kernel); have q347 := addI (a := (a2 + (-1))) (b := (-1)) (by omega) (by omega); have l352 : ((-1) : Int32).toInt = (-1) := (by decide +kernel); have q346 := addI (a := ((a2 + (-1)) + (-1))) (b := (-1)) (by omega) (by omega); omega) (by have y0 := f_le c_1; have y1 := f_nlt c_2; have y2 := f_lt c_4; have z1 := hy1; have z2 := hy2; have z3 := hy3; have z4 := hy4; have z5 := hy5; have e_m100 : (-100 : Int32).toInt = -100 := (by decide +kernel); have e_0 : (0 : Int32).toInt = 0 := (by decide +kernel); have b349 := Int32.toInt_lt (a2); have d349 := Int32.le_toInt (a2); have l350 : ((-1) : Int32).toInt = (-1) := (by decide +kernel); have q348 := addI (a := a2) (b := (-1)) (by omega) (by omega); have l351 : ((-1) : Int32).toInt = (-1) := (by decide +kernel); have q347 := addI (a := (a2 + (-1))) (b := (-1)) (by omega) (by omega); have l352 : ((-1) : Int32).toInt = (-1) := (by decide +kernel); have q346 := addI (a := ((a2 + (-1)) + (-1))) (b := (-1)) (by omega) (by omega); omega)) (by rw [fx_nar]; rfl) dJ6_getChars_ba4f3_84 (fun H locs hP hD hS => ?_)
    have hP : va_P D vwCl [(h_ar3, .inl (k_ar3, len3, .inl (upd (upd (upd ar3 (ix (a2 + (-1))) (fx_ones (ix ((((- a1) / 100) * 100) - (- a1))))) (ix ((a2 + (-1)) + (-1))) (fx_tens (ix ((((- a1) / 100) * 100) - (- a1))))) (ix (((a2 + (-1)) + (-1)) + (-1))) (fx_ones (ix (- ((- a1) / 100)))))))] H := hP
    have hD : va_D A [(h_ar3, .inl (k_ar3, len3, .inl (upd (upd (upd ar3 (ix (a2 + (-1))) (fx_ones (ix ((((- a1) / 100) * 100) - (- a1))))) (ix ((a2 + (-1)) + (-1))) (fx_tens (ix ((((- a1) / 100) * 100) - (- a1))))) (ix (((a2 + (-1)) + (-1)) + (-1))) (fx_ones (ix (- ((- a1) / 100)))))))] := hD
    refine lv_iload_n hx hb dJ6_getChars_ba4f3_85 rfl (lv_at hl 1 rfl) ?_
    refine lv_bipush (v := (-9)) hx hb dJ6_getChars_ba4f3_86 (by decide) ?_
    refine lv_icmp_ge (tgt := 104) hx hb dJ6_getChars_ba4f3_88 (by decide) (fun c_5 => ?_) (fun c_5 => ?_)
    · rw [if_pos c_5] at hM
      refine lv_iload hx hb dJ6_getChars_ba4f3_104 (lv_at hl 4 rfl) ?_
      refine lv_if_eq (tgt := 118) hx hb dJ6_getChars_ba4f3_106 (by decide) (fun _ => ?_) (fun c9 => absurd (by decide +kernel) c9)
      refine lv_iload hx hb dJ6_getChars_ba4f3_118 (lv_at hl 0 rfl) ?_
      refine W.widen (k := 0) (n := 0) (Nat.le_of_ble_eq_true rfl) (Nat.le_of_ble_eq_true rfl) ?_
      exact W.iret (v := (((a2 + (-1)) + (-1)) + (-1))) hx hb hr (QG_.mk (fun _ => 0) (fun _ => 0) (fun _ => 0) [0] [0] hP hD hK hS (by rw [hM]) (by rw [hM]; exact (show sb_Fit (upd (upd (upd ar3 (ix (a2 + (-1))) (fx_ones (ix ((((- a1) / 100) * 100) - (- a1))))) (ix ((a2 + (-1)) + (-1))) (fx_tens (ix ((((- a1) / 100) * 100) - (- a1))))) (ix (((a2 + (-1)) + (-1)) + (-1))) (fx_ones (ix (- ((- a1) / 100))))) from (sb_fitU (sb_fitU (sb_fitU hy0 (fx_fit _).1) (fx_fit _).2) (fx_fit _).1))) (by rw [hM]; rfl) (by decide) rfl) hS.2.2 dJ6_getChars_ba4f3_120
    · rw [if_neg c_5] at hM
      refine lv_aload_n hx hb dJ6_getChars_ba4f3_91 rfl (lv_at hl 6 rfl) ?_
      refine lv_iinc (v := ((((a2 + (-1)) + (-1)) + (-1)) + (-1))) (lv' := [(5, .int ((((a2 + (-1)) + (-1)) + (-1)) + (-1))), (0, .int ((- a1) / 100)), (4, .int ((((- a1) / 100) * 100) - (- a1))), (3, .int ((- a1) / 100)), (6, .int 0), (1, .int a2), (2, .ref h_ar3)]) hx hb dJ6_getChars_ba4f3_92 hl (k := 0) rfl rfl (by decide) rfl (fun ls hl => ?_)
      refine lv_iload hx hb dJ6_getChars_ba4f3_95 (lv_at hl 0 rfl) ?_
      refine va_gets (C := "java/lang/Integer") (n := "DigitTens") (d := "[B") (own := RJ6) (ref := "java/lang/Integer") (v := .ref (ad 11)) hx hb (fxdg_ hF).2.1 hS hown (hts (.fieldLink RJ6 87 "java/lang/Integer" "DigitTens" "[B") (List.mem_of_getElem? (i := 2) (by decide +kernel))) (fun _ h9 => h9) dJ6_getChars_ba4f3_97 ?_
      refine lv_iload_n hx hb dJ6_getChars_ba4f3_100 rfl (lv_at hl 1 rfl) ?_
      refine lv_ineg hx hb dJ6_getChars_ba4f3_101 ?_
      refine va_tb (v := .int (fx_tens (ix (- ((- a1) / 100))))) hx hb (fxdg_ hF).2.2 hS (vinI (by have y0 := f_le c_1; have y1 := f_nlt c_2; have y2 := f_lt c_4; have y3 := f_nle c_5; have z1 := hy1; have z2 := hy2; have z3 := hy3; have z4 := hy4; have z5 := hy5; have e_m100 : (-100 : Int32).toInt = -100 := (by decide +kernel); have e_m9 : (-9 : Int32).toInt = -9 := (by decide +kernel); have e_0 : (0 : Int32).toInt = 0 := (by decide +kernel); have b359 := Int32.toInt_lt (a1); have d359 := Int32.le_toInt (a1); have q358 := negI (x := a1) (by omega); have q354 := dv100 (x := (- a1)) (by omega); have q353 := negI (x := ((- a1) / 100)) (by omega); omega) (by have y0 := f_le c_1; have y1 := f_nlt c_2; have y2 := f_lt c_4; have y3 := f_nle c_5; have z1 := hy1; have z2 := hy2; have z3 := hy3; have z4 := hy4; have z5 := hy5; have e_m100 : (-100 : Int32).toInt = -100 := (by decide +kernel); have e_m9 : (-9 : Int32).toInt = -9 := (by decide +kernel); have e_0 : (0 : Int32).toInt = 0 := (by decide +kernel); have b359 := Int32.toInt_lt (a1); have d359 := Int32.le_toInt (a1); have q358 := negI (x := a1) (by omega); have q354 := dv100 (x := (- a1)) (by omega); have q353 := negI (x := ((- a1) / 100)) (by omega); omega)) rfl dJ6_getChars_ba4f3_102 ?_
      refine ka_bast (g := (upd (upd (upd (upd ar3 (ix (a2 + (-1))) (fx_ones (ix ((((- a1) / 100) * 100) - (- a1))))) (ix ((a2 + (-1)) + (-1))) (fx_tens (ix ((((- a1) / 100) * 100) - (- a1))))) (ix (((a2 + (-1)) + (-1)) + (-1))) (fx_ones (ix (- ((- a1) / 100))))) (ix ((((a2 + (-1)) + (-1)) + (-1)) + (-1))) (fx_tens (ix (- ((- a1) / 100)))))) hx hb hK hP hD hS 0 0 rfl rfl (vinI (by have y0 := f_le c_1; have y1 := f_nlt c_2; have y2 := f_lt c_4; have y3 := f_nle c_5; have z1 := hy1; have z2 := hy2; have z3 := hy3; have z4 := hy4; have z5 := hy5; have e_m100 : (-100 : Int32).toInt = -100 := (by decide +kernel); have e_m9 : (-9 : Int32).toInt = -9 := (by decide +kernel); have e_0 : (0 : Int32).toInt = 0 := (by decide +kernel); have b364 := Int32.toInt_lt (a2); have d364 := Int32.le_toInt (a2); have l365 : ((-1) : Int32).toInt = (-1) := (by decide +kernel); have q363 := addI (a := a2) (b := (-1)) (by omega) (by omega); have l366 : ((-1) : Int32).toInt = (-1) := (by decide +kernel); have q362 := addI (a := (a2 + (-1))) (b := (-1)) (by omega) (by omega); have l367 : ((-1) : Int32).toInt = (-1) := (by decide +kernel); have q361 := addI (a := ((a2 + (-1)) + (-1))) (b := (-1)) (by omega) (by omega); have l368 : ((-1) : Int32).toInt = (-1) := (by decide +kernel); have q360 := addI (a := (((a2 + (-1)) + (-1)) + (-1))) (b := (-1)) (by omega) (by omega); omega) (by have y0 := f_le c_1; have y1 := f_nlt c_2; have y2 := f_lt c_4; have y3 := f_nle c_5; have z1 := hy1; have z2 := hy2; have z3 := hy3; have z4 := hy4; have z5 := hy5; have e_m100 : (-100 : Int32).toInt = -100 := (by decide +kernel); have e_m9 : (-9 : Int32).toInt = -9 := (by decide +kernel); have e_0 : (0 : Int32).toInt = 0 := (by decide +kernel); have b364 := Int32.toInt_lt (a2); have d364 := Int32.le_toInt (a2); have l365 : ((-1) : Int32).toInt = (-1) := (by decide +kernel); have q363 := addI (a := a2) (b := (-1)) (by omega) (by omega); have l366 : ((-1) : Int32).toInt = (-1) := (by decide +kernel); have q362 := addI (a := (a2 + (-1))) (b := (-1)) (by omega) (by omega); have l367 : ((-1) : Int32).toInt = (-1) := (by decide +kernel); have q361 := addI (a := ((a2 + (-1)) + (-1))) (b := (-1)) (by omega) (by omega); have l368 : ((-1) : Int32).toInt = (-1) := (by decide +kernel); have q360 := addI (a := (((a2 + (-1)) + (-1)) + (-1))) (b := (-1)) (by omega) (by omega); omega)) (by rw [fx_nar]; rfl) dJ6_getChars_ba4f3_103 (fun H locs hP hD hS => ?_)
      have hP : va_P D vwCl [(h_ar3, .inl (k_ar3, len3, .inl (upd (upd (upd (upd ar3 (ix (a2 + (-1))) (fx_ones (ix ((((- a1) / 100) * 100) - (- a1))))) (ix ((a2 + (-1)) + (-1))) (fx_tens (ix ((((- a1) / 100) * 100) - (- a1))))) (ix (((a2 + (-1)) + (-1)) + (-1))) (fx_ones (ix (- ((- a1) / 100))))) (ix ((((a2 + (-1)) + (-1)) + (-1)) + (-1))) (fx_tens (ix (- ((- a1) / 100)))))))] H := hP
      have hD : va_D A [(h_ar3, .inl (k_ar3, len3, .inl (upd (upd (upd (upd ar3 (ix (a2 + (-1))) (fx_ones (ix ((((- a1) / 100) * 100) - (- a1))))) (ix ((a2 + (-1)) + (-1))) (fx_tens (ix ((((- a1) / 100) * 100) - (- a1))))) (ix (((a2 + (-1)) + (-1)) + (-1))) (fx_ones (ix (- ((- a1) / 100))))) (ix ((((a2 + (-1)) + (-1)) + (-1)) + (-1))) (fx_tens (ix (- ((- a1) / 100)))))))] := hD
      refine lv_iload hx hb dJ6_getChars_ba4f3_104 (lv_at hl 4 rfl) ?_
      refine lv_if_eq (tgt := 118) hx hb dJ6_getChars_ba4f3_106 (by decide) (fun _ => ?_) (fun c9 => absurd (by decide +kernel) c9)
      refine lv_iload hx hb dJ6_getChars_ba4f3_118 (lv_at hl 0 rfl) ?_
      refine W.widen (k := 0) (n := 0) (Nat.le_of_ble_eq_true rfl) (Nat.le_of_ble_eq_true rfl) ?_
      exact W.iret (v := ((((a2 + (-1)) + (-1)) + (-1)) + (-1))) hx hb hr (QG_.mk (fun _ => 0) (fun _ => 0) (fun _ => 0) [0] [0] hP hD hK hS (by rw [hM]) (by rw [hM]; exact (show sb_Fit (upd (upd (upd (upd ar3 (ix (a2 + (-1))) (fx_ones (ix ((((- a1) / 100) * 100) - (- a1))))) (ix ((a2 + (-1)) + (-1))) (fx_tens (ix ((((- a1) / 100) * 100) - (- a1))))) (ix (((a2 + (-1)) + (-1)) + (-1))) (fx_ones (ix (- ((- a1) / 100))))) (ix ((((a2 + (-1)) + (-1)) + (-1)) + (-1))) (fx_tens (ix (- ((- a1) / 100))))) from (sb_fitU (sb_fitU (sb_fitU (sb_fitU hy0 (fx_fit _).1) (fx_fit _).2) (fx_fit _).1) (fx_fit _).2))) (by rw [hM]; rfl) (by decide) rfl) hS.2.2 dJ6_getChars_ba4f3_120
def F_J5_append_c97b9 (wb : Nat → Int32) (capw : Nat) (wn : Int32) (a1 : Int32) : Nat × (Nat → Int32) × Int32 × Nat × Nat := ((F_J5_ensureCapacityInternal_d00df wb capw (wn + (F_J6_stringSize_0f7a4 a1))).1, ((F_J6_getChars_ba4f3 a1 (wn + (F_J6_stringSize_0f7a4 a1)) ((F_J5_ensureCapacityInternal_d00df wb capw (wn + (F_J6_stringSize_0f7a4 a1))).2.1)).2), (wn + (F_J6_stringSize_0f7a4 a1)), ((((0 + 0) + (F_J5_ensureCapacityInternal_d00df wb capw (wn + (F_J6_stringSize_0f7a4 a1))).2.2.1) + 0) + 0), ((((0 + 0) + (F_J5_ensureCapacityInternal_d00df wb capw (wn + (F_J6_stringSize_0f7a4 a1))).2.2.2) + 0) + 0))
set_option maxHeartbeats 4000000 in
set_option maxRecDepth 100000 in
theorem c_J5_append_c97b9 (l : Launch) (hl0 : l.stackTraces = false) (D : va_G) (ad : Nat → Nat) (sz : Nat) (h_wb : Nat) (h_B : Nat) (k_wb : ClassId) (h_B_2 : Value) (capw : Nat) (wb : Nat → Int32) (wn : Int32) (a1 : Int32) (hy0 : sb_Fit wb) (hy1 : 0 ≤ wn.toInt) (hy2 : wn.toInt ≤ capw) (hy3 : wn.toInt ≤ 5000) (hy4 : capw ≤ 20000) (hy5 : 16 ≤ capw) (hy6 : 0 ≤ a1.toInt) (hy7 : a1.toInt < 10000) (hy8 : wn.toInt < 4990) : Met l yJ5_append_c97b9 wsJ5_append_c97b9 ({ frames := 4, cells := (F_J5_append_c97b9 wb capw wn a1).2.2.2.1, slots := (F_J5_append_c97b9 wb capw wn a1).2.2.2.2, locals := 116 }) (PC_ D ad [(h_wb, .inl (k_wb, capw, .inl wb)), (h_B, .inr (1, [.ref h_wb, .int 0, h_B_2, .int wn]))] [(k_wb, .byte)] sz [.ref h_B, .int a1]) (QG_ D (fun q i => some (.ref h_B)) (fun q i => sb_Fit ((F_J5_append_c97b9 wb capw wn a1).2.1) ∧ wn.toInt + 1 ≤ ((F_J5_append_c97b9 wb capw wn a1).2.2.1).toInt ∧ ((F_J5_append_c97b9 wb capw wn a1).2.2.1).toInt ≤ wn.toInt + 4 ∧ ((F_J5_append_c97b9 wb capw wn a1).2.2.1).toInt ≤ ((F_J5_append_c97b9 wb capw wn a1).1) ∧ 16 ≤ ((F_J5_append_c97b9 wb capw wn a1).1) ∧ capw ≤ ((F_J5_append_c97b9 wb capw wn a1).1) ∧ ((F_J5_append_c97b9 wb capw wn a1).1) ≤ 20000) (fun q k i => [((q 0), .inl ((k 0), (F_J5_append_c97b9 wb capw wn a1).1, .inl (F_J5_append_c97b9 wb capw wn a1).2.1)), (h_B, .inr (1, [.ref (q 0), .int 0, h_B_2, .int (F_J5_append_c97b9 wb capw wn a1).2.2.1]))]) (fun q k i => [((k 0), .byte)]) (va_A [(h_wb, .inl (k_wb, capw, .inl wb)), (h_B, .inr (1, [.ref h_wb, .int 0, h_B_2, .int wn]))] sz)) (F_J5_append_c97b9 wb capw wn a1).2.2.2.1 (F_J5_append_c97b9 wb capw wn a1).2.2.2.2 (va_A [(h_wb, .inl (k_wb, capw, .inl wb)), (h_B, .inr (1, [.ref h_wb, .int 0, h_B_2, .int wn]))] sz) := by
  refine Met.ofW (cc := cJ5_append_c97b9) (maxL := 4) (ret := (some (.object "java/lang/AbstractStringBuilder"))) (by decide) rfl ?_
  intro p e s m args below meth c s₁ B hml hv
  obtain ⟨rfl, hsz, hP, hK, hD0, hF⟩ := hv
  have hx := B.exec
  have hb := B.bytes
  have hr := B.returns
  have hts := atoms_spec (ws := wsJ5_append_c97b9) B.pre
  have hown : s.vm.findClass RJ5 = some m.cls := findClass_of_methodNamed B.named
  have hlocks := B.notSynchronized
  subst hsz
  have hD := hD0.self (sz := s.heap.size)
  generalize hAe : va_A [(h_wb, .inl (k_wb, capw, .inl wb)), (h_B, .inr (1, [.ref h_wb, .int 0, h_B_2, .int wn]))] s.heap.size = A at hD hF ⊢
  have hA : ∀ q : Nat, s.heap.size ≤ q → A q := fun q h => by rw [← hAe]; exact Or.inr h
  obtain ⟨H, hHe⟩ : ∃ H : Heap, H = s.heap := ⟨_, rfl⟩
  have hS : va_S A s.heap H [] := by rw [hHe]; exact va_S.rf
  have hP : va_P D vwCl [(h_wb, .inl (k_wb, capw, .inl wb)), (h_B, .inr (1, [.ref h_wb, .int 0, h_B_2, .int wn]))] H := by rw [hHe]; exact hP
  rw [← hHe]
  have hi_J4 : ∀ w ∈ wsJ40, w ∈ wsJ5_append_c97b9 := by decide +kernel
  have hl := lv_entry [.ref h_B, .int a1] (n := 4) (Nat.le_of_ble_eq_true rfl)
  rw [lg_entry_eq]
  generalize (lg_sl [.ref h_B, .int a1] ++ List.replicate (4 - (lg_sl [.ref h_B, .int a1]).length) Slot.unset).toArray = ls at hl ⊢
  have hl : lv_has ls 4 [(0, .ref h_B), (1, .int a1)] := hl
  generalize hF9 : F_J5_append_c97b9 wb capw wn a1 = FF9
  have hM : FF9 = ((F_J5_ensureCapacityInternal_d00df wb capw (wn + (F_J6_stringSize_0f7a4 a1))).1, ((F_J6_getChars_ba4f3 a1 (wn + (F_J6_stringSize_0f7a4 a1)) ((F_J5_ensureCapacityInternal_d00df wb capw (wn + (F_J6_stringSize_0f7a4 a1))).2.1)).2), (wn + (F_J6_stringSize_0f7a4 a1)), ((((0 + 0) + (F_J5_ensureCapacityInternal_d00df wb capw (wn + (F_J6_stringSize_0f7a4 a1))).2.2.1) + 0) + 0), ((((0 + 0) + (F_J5_ensureCapacityInternal_d00df wb capw (wn + (F_J6_stringSize_0f7a4 a1))).2.2.2) + 0) + 0)) := hF9.symm
  refine lv_aload_n hx hb dJ5_append_c97b9_0 rfl (lv_at hl 0 rfl) ?_
  refine va_get (D := D) (ci := 1) (v := .int wn) (own := RJ5) (C := RJ4) (T := TJ4) (N := 4) hx hb hts hi_J4 hown hK hP 1 rfl rfl 3 (by decide) (hts (.fieldLink RJ5 79 "java/lang/AbstractStringBuilder" "count" "I") (List.mem_of_getElem? (i := 1) (by decide +kernel))) (fun _ h9 => h9) rfl dJ5_append_c97b9_1 ?_
  refine lv_istore_n (lv' := [(2, .int wn), (0, .ref h_B), (1, .int a1)]) hx hb dJ5_append_c97b9_4 rfl hl (by decide) rfl (fun ls hl => ?_)
  refine lv_iload_n hx hb dJ5_append_c97b9_5 rfl (lv_at hl 0 rfl) ?_
  refine lv_iload_n hx hb dJ5_append_c97b9_6 rfl (lv_at hl 2 rfl) ?_
  refine kr_ (va_runS (As := [.int a1]) (rest := [.int wn]) ⟨hx, hb, hml, hown, hts⟩ (c_J6_stringSize_0f7a4 l hl0 D ad H.size a1) (va_cwS 1 hts gJ5_append_c97b9_J6_stringSize_0f7a4 rfl rfl rfl (by decide +kernel) ⟨Nat.le_of_ble_eq_true rfl, Nat.le_of_ble_eq_true rfl⟩) ⟨PR_.blind, PR_.pre hF hK (hP.sub [] rfl) hS hA [] rfl⟩ rfl rfl hl.1 rfl (lv_room (Nat.le_of_ble_eq_true rfl)) dJ5_append_c97b9_7 ⟨(show 0 + 0 ≤ (FF9).2.2.2.1 from (by rw [hM]; exact Nat.le_trans (show 0 + 0 ≤ (0 + 0) from (by omega)) (show (0 + 0) ≤ ((((0 + 0) + (F_J5_ensureCapacityInternal_d00df wb capw (wn + (F_J6_stringSize_0f7a4 a1))).2.2.1) + 0) + 0) from (by omega)))), (show 0 + 0 ≤ (FF9).2.2.2.2 from (by rw [hM]; exact Nat.le_trans (show 0 + 0 ≤ (0 + 0) from (by omega)) (show (0 + 0) ≤ ((((0 + 0) + (F_J5_ensureCapacityInternal_d00df wb capw (wn + (F_J6_stringSize_0f7a4 a1))).2.2.2) + 0) + 0) from (by omega))))⟩) hP hS hA (fun H locs hP hS => ?_)
  refine W.eq (g2 := F0 m 10 ls [.int (F_J6_stringSize_0f7a4 a1), .int wn]) rfl ?_
  refine lv_iadd hx hb dJ5_append_c97b9_10 ?_
  refine lv_istore_n (lv' := [(3, .int (wn + (F_J6_stringSize_0f7a4 a1))), (2, .int wn), (0, .ref h_B), (1, .int a1)]) hx hb dJ5_append_c97b9_11 rfl hl (by decide) rfl (fun ls hl => ?_)
  refine lv_aload_n hx hb dJ5_append_c97b9_12 rfl (lv_at hl 2 rfl) ?_
  refine lv_iload_n hx hb dJ5_append_c97b9_13 rfl (lv_at hl 0 rfl) ?_
  refine kc_ (wc := [(h_wb, .inl (k_wb, capw, .inl wb)), (h_B, .inr (1, [.ref h_wb, .int 0, h_B_2, .int wn]))]) (wr := []) (va_runU (As := [.int (wn + (F_J6_stringSize_0f7a4 a1))]) (rest := []) ⟨hx, hb, hml, hown, hts⟩ (c_J5_ensureCapacityInternal_d00df l hl0 D ad H.size h_wb h_B k_wb (h_B_2) (.int wn) capw wb (wn + (F_J6_stringSize_0f7a4 a1)) hy0 (by have z1 := hy1; have z2 := hy2; have z3 := hy3; have z4 := hy4; have z5 := hy5; have z6 := hy6; have z7 := hy7; have z8 := hy8; omega) (by have z1 := hy1; have z2 := hy2; have z3 := hy3; have z4 := hy4; have z5 := hy5; have z6 := hy6; have z7 := hy7; have z8 := hy8; omega) (by have z1 := hy1; have z2 := hy2; have z3 := hy3; have z4 := hy4; have z5 := hy5; have z6 := hy6; have z7 := hy7; have z8 := hy8; have rsz := R_J6_stringSize a1 (by omega) (by omega); have b62 := Int32.toInt_lt (wn); have d62 := Int32.le_toInt (wn); have b63 := Int32.toInt_lt (F_J6_stringSize_0f7a4 a1); have d63 := Int32.le_toInt (F_J6_stringSize_0f7a4 a1); have q61 := addI (a := wn) (b := (F_J6_stringSize_0f7a4 a1)) (by omega) (by omega); omega) (by have z1 := hy1; have z2 := hy2; have z3 := hy3; have z4 := hy4; have z5 := hy5; have z6 := hy6; have z7 := hy7; have z8 := hy8; have rsz := R_J6_stringSize a1 (by omega) (by omega); have b65 := Int32.toInt_lt (wn); have d65 := Int32.le_toInt (wn); have b66 := Int32.toInt_lt (F_J6_stringSize_0f7a4 a1); have d66 := Int32.le_toInt (F_J6_stringSize_0f7a4 a1); have q64 := addI (a := wn) (b := (F_J6_stringSize_0f7a4 a1)) (by omega) (by omega); omega)) (va_cwU 1 hts gJ5_append_c97b9_J5_ensureCapacityInternal_d00df_u100J4 rfl rfl rfl rfl (by decide +kernel) ⟨Nat.le_of_ble_eq_true rfl, Nat.le_of_ble_eq_true rfl⟩) ⟨PC_.blind, va_recv hK hP (ci := 1) (q0 := 1) rfl rfl, PC_.pre hF hK hP hD hS hA [0, 1] [0] rfl (by decide) rfl⟩ rfl rfl hl.1 rfl (lv_room (Nat.le_of_ble_eq_true rfl)) dJ5_append_c97b9_14 ⟨(show (0 + 0) + ((F_J5_ensureCapacityInternal_d00df wb capw (wn + (F_J6_stringSize_0f7a4 a1))).2.2.1) ≤ (FF9).2.2.2.1 from (by rw [hM]; exact Nat.le_trans (show (0 + 0) + ((F_J5_ensureCapacityInternal_d00df wb capw (wn + (F_J6_stringSize_0f7a4 a1))).2.2.1) ≤ ((0 + 0) + (F_J5_ensureCapacityInternal_d00df wb capw (wn + (F_J6_stringSize_0f7a4 a1))).2.2.1) from (by omega)) (show ((0 + 0) + (F_J5_ensureCapacityInternal_d00df wb capw (wn + (F_J6_stringSize_0f7a4 a1))).2.2.1) ≤ ((((0 + 0) + (F_J5_ensureCapacityInternal_d00df wb capw (wn + (F_J6_stringSize_0f7a4 a1))).2.2.1) + 0) + 0) from (by omega)))), (show (0 + 0) + ((F_J5_ensureCapacityInternal_d00df wb capw (wn + (F_J6_stringSize_0f7a4 a1))).2.2.2) ≤ (FF9).2.2.2.2 from (by rw [hM]; exact Nat.le_trans (show (0 + 0) + ((F_J5_ensureCapacityInternal_d00df wb capw (wn + (F_J6_stringSize_0f7a4 a1))).2.2.2) ≤ ((0 + 0) + (F_J5_ensureCapacityInternal_d00df wb capw (wn + (F_J6_stringSize_0f7a4 a1))).2.2.2) from (by omega)) (show ((0 + 0) + (F_J5_ensureCapacityInternal_d00df wb capw (wn + (F_J6_stringSize_0f7a4 a1))).2.2.2) ≤ ((((0 + 0) + (F_J5_ensureCapacityInternal_d00df wb capw (wn + (F_J6_stringSize_0f7a4 a1))).2.2.2) + 0) + 0) from (by omega))))⟩) hK hP hD hS hA [0, 1] [] [] rfl rfl (by decide) (by decide) rfl (fun qa_2 ka_2 ia H locs hpo hP hD hK hS => ?_)
  have hen_2 : sb_Fit ((F_J5_ensureCapacityInternal_d00df wb capw (wn + (F_J6_stringSize_0f7a4 a1))).2.1) ∧ (wn + (F_J6_stringSize_0f7a4 a1)).toInt ≤ ((F_J5_ensureCapacityInternal_d00df wb capw (wn + (F_J6_stringSize_0f7a4 a1))).1) ∧ 16 ≤ ((F_J5_ensureCapacityInternal_d00df wb capw (wn + (F_J6_stringSize_0f7a4 a1))).1) ∧ capw ≤ ((F_J5_ensureCapacityInternal_d00df wb capw (wn + (F_J6_stringSize_0f7a4 a1))).1) ∧ ((F_J5_ensureCapacityInternal_d00df wb capw (wn + (F_J6_stringSize_0f7a4 a1))).1) ≤ 20000 := hpo
  have hP : va_P D vwCl [((qa_2 0), .inl ((ka_2 0), (F_J5_ensureCapacityInternal_d00df wb capw (wn + (F_J6_stringSize_0f7a4 a1))).1, .inl (F_J5_ensureCapacityInternal_d00df wb capw (wn + (F_J6_stringSize_0f7a4 a1))).2.1)), (h_B, .inr (1, [.ref (qa_2 0), .int 0, h_B_2, .int wn]))] H := hP
  have hD : va_D A [((qa_2 0), .inl ((ka_2 0), (F_J5_ensureCapacityInternal_d00df wb capw (wn + (F_J6_stringSize_0f7a4 a1))).1, .inl (F_J5_ensureCapacityInternal_d00df wb capw (wn + (F_J6_stringSize_0f7a4 a1))).2.1)), (h_B, .inr (1, [.ref (qa_2 0), .int 0, h_B_2, .int wn]))] := hD
  have hK : va_K D vwCl [((ka_2 0), .byte)] s := hK
  refine W.eq (g2 := F0 m 17 ls []) rfl ?_
  refine lv_aload_n hx hb dJ5_append_c97b9_17 rfl (lv_at hl 2 rfl) ?_
  refine kr_ (va_runU (As := []) (rest := []) ⟨hx, hb, hml, hown, hts⟩ (c_J5_isLatin1_aae02 l hl0 D ad H.size h_B (.ref (qa_2 0)) (h_B_2) (.int wn)) (va_cwU 0 hts gJ5_append_c97b9_J5_isLatin1_aae02_u83J4 rfl rfl rfl rfl (by decide +kernel) ⟨Nat.le_of_ble_eq_true rfl, Nat.le_of_ble_eq_true rfl⟩) ⟨PR_.blind, va_recv hK hP (ci := 1) (q0 := 1) rfl rfl, PR_.pre hF hK (hP.sub [1] rfl) hS hA [] rfl⟩ rfl rfl hl.1 rfl (lv_room (Nat.le_of_ble_eq_true rfl)) dJ5_append_c97b9_18 ⟨(show ((0 + 0) + (F_J5_ensureCapacityInternal_d00df wb capw (wn + (F_J6_stringSize_0f7a4 a1))).2.2.1) + 0 ≤ (FF9).2.2.2.1 from (by rw [hM]; exact Nat.le_trans (show ((0 + 0) + (F_J5_ensureCapacityInternal_d00df wb capw (wn + (F_J6_stringSize_0f7a4 a1))).2.2.1) + 0 ≤ (((0 + 0) + (F_J5_ensureCapacityInternal_d00df wb capw (wn + (F_J6_stringSize_0f7a4 a1))).2.2.1) + 0) from (by omega)) (show (((0 + 0) + (F_J5_ensureCapacityInternal_d00df wb capw (wn + (F_J6_stringSize_0f7a4 a1))).2.2.1) + 0) ≤ ((((0 + 0) + (F_J5_ensureCapacityInternal_d00df wb capw (wn + (F_J6_stringSize_0f7a4 a1))).2.2.1) + 0) + 0) from (by omega)))), (show ((0 + 0) + (F_J5_ensureCapacityInternal_d00df wb capw (wn + (F_J6_stringSize_0f7a4 a1))).2.2.2) + 0 ≤ (FF9).2.2.2.2 from (by rw [hM]; exact Nat.le_trans (show ((0 + 0) + (F_J5_ensureCapacityInternal_d00df wb capw (wn + (F_J6_stringSize_0f7a4 a1))).2.2.2) + 0 ≤ (((0 + 0) + (F_J5_ensureCapacityInternal_d00df wb capw (wn + (F_J6_stringSize_0f7a4 a1))).2.2.2) + 0) from (by omega)) (show (((0 + 0) + (F_J5_ensureCapacityInternal_d00df wb capw (wn + (F_J6_stringSize_0f7a4 a1))).2.2.2) + 0) ≤ ((((0 + 0) + (F_J5_ensureCapacityInternal_d00df wb capw (wn + (F_J6_stringSize_0f7a4 a1))).2.2.2) + 0) + 0) from (by omega))))⟩) hP hS hA (fun H locs hP hS => ?_)
  refine W.eq (g2 := F0 m 21 ls [.int 1]) rfl ?_
  refine lv_if_eq (tgt := 37) hx hb dJ5_append_c97b9_21 (by decide) (fun c9 => absurd c9 (by decide +kernel)) (fun _ => ?_)
  refine lv_iload_n hx hb dJ5_append_c97b9_24 rfl (lv_at hl 3 rfl) ?_
  refine lv_iload_n hx hb dJ5_append_c97b9_25 rfl (lv_at hl 0 rfl) ?_
  refine lv_aload_n hx hb dJ5_append_c97b9_26 rfl (lv_at hl 2 rfl) ?_
  refine va_get (D := D) (ci := 1) (v := .ref (qa_2 0)) (own := RJ5) (C := RJ4) (T := TJ4) (N := 4) hx hb hts hi_J4 hown hK hP 1 rfl rfl 0 (by decide) (hts (.fieldLink RJ5 15 "java/lang/AbstractStringBuilder" "value" "[B") (List.mem_of_getElem? (i := 2) (by decide +kernel))) (fun _ h9 => h9) rfl dJ5_append_c97b9_27 ?_
  refine kc_ (wc := [((qa_2 0), .inl ((ka_2 0), (F_J5_ensureCapacityInternal_d00df wb capw (wn + (F_J6_stringSize_0f7a4 a1))).1, .inl (F_J5_ensureCapacityInternal_d00df wb capw (wn + (F_J6_stringSize_0f7a4 a1))).2.1))]) (wr := [(h_B, .inr (1, [.ref (qa_2 0), .int 0, h_B_2, .int wn]))]) (va_runS (As := [.int a1, .int (wn + (F_J6_stringSize_0f7a4 a1)), .ref (qa_2 0)]) (rest := []) ⟨hx, hb, hml, hown, hts⟩ (c_J6_getChars_ba4f3 l hl0 D ad H.size (qa_2 0) (ka_2 0) ((F_J5_ensureCapacityInternal_d00df wb capw (wn + (F_J6_stringSize_0f7a4 a1))).1) ((F_J5_ensureCapacityInternal_d00df wb capw (wn + (F_J6_stringSize_0f7a4 a1))).2.1) a1 (wn + (F_J6_stringSize_0f7a4 a1)) hen_2.1 (by have z1 := hy1; have z2 := hy2; have z3 := hy3; have z4 := hy4; have z5 := hy5; have z6 := hy6; have z7 := hy7; have z8 := hy8; have z9 := hen_2; omega) (by have z1 := hy1; have z2 := hy2; have z3 := hy3; have z4 := hy4; have z5 := hy5; have z6 := hy6; have z7 := hy7; have z8 := hy8; have z9 := hen_2; omega) (by have z1 := hy1; have z2 := hy2; have z3 := hy3; have z4 := hy4; have z5 := hy5; have z6 := hy6; have z7 := hy7; have z8 := hy8; have z9 := hen_2; have rsz := R_J6_stringSize a1 (by omega) (by omega); have b80 := Int32.toInt_lt (wn); have d80 := Int32.le_toInt (wn); have b81 := Int32.toInt_lt (F_J6_stringSize_0f7a4 a1); have d81 := Int32.le_toInt (F_J6_stringSize_0f7a4 a1); have q79 := addI (a := wn) (b := (F_J6_stringSize_0f7a4 a1)) (by omega) (by omega); omega) (by have z1 := hy1; have z2 := hy2; have z3 := hy3; have z4 := hy4; have z5 := hy5; have z6 := hy6; have z7 := hy7; have z8 := hy8; have z9 := hen_2; have rsz := R_J6_stringSize a1 (by omega) (by omega); omega) (by have z1 := hy1; have z2 := hy2; have z3 := hy3; have z4 := hy4; have z5 := hy5; have z6 := hy6; have z7 := hy7; have z8 := hy8; have z9 := hen_2; have rsz := R_J6_stringSize a1 (by omega) (by omega); have b83 := Int32.toInt_lt (wn); have d83 := Int32.le_toInt (wn); have b84 := Int32.toInt_lt (F_J6_stringSize_0f7a4 a1); have d84 := Int32.le_toInt (F_J6_stringSize_0f7a4 a1); have q82 := addI (a := wn) (b := (F_J6_stringSize_0f7a4 a1)) (by omega) (by omega); omega)) (va_cwS 3 hts gJ5_append_c97b9_J6_getChars_ba4f3 rfl rfl rfl (by decide +kernel) ⟨Nat.le_of_ble_eq_true rfl, Nat.le_of_ble_eq_true rfl⟩) ⟨PC_.blind, PC_.pre hF hK hP hD hS hA [0] [0] rfl (by decide) rfl⟩ rfl rfl hl.1 rfl (lv_room (Nat.le_of_ble_eq_true rfl)) dJ5_append_c97b9_30 ⟨(show (((0 + 0) + (F_J5_ensureCapacityInternal_d00df wb capw (wn + (F_J6_stringSize_0f7a4 a1))).2.2.1) + 0) + 0 ≤ (FF9).2.2.2.1 from (by rw [hM]; exact Nat.le_trans (show (((0 + 0) + (F_J5_ensureCapacityInternal_d00df wb capw (wn + (F_J6_stringSize_0f7a4 a1))).2.2.1) + 0) + 0 ≤ ((((0 + 0) + (F_J5_ensureCapacityInternal_d00df wb capw (wn + (F_J6_stringSize_0f7a4 a1))).2.2.1) + 0) + 0) from (by omega)) (show ((((0 + 0) + (F_J5_ensureCapacityInternal_d00df wb capw (wn + (F_J6_stringSize_0f7a4 a1))).2.2.1) + 0) + 0) ≤ ((((0 + 0) + (F_J5_ensureCapacityInternal_d00df wb capw (wn + (F_J6_stringSize_0f7a4 a1))).2.2.1) + 0) + 0) from (by omega)))), (show (((0 + 0) + (F_J5_ensureCapacityInternal_d00df wb capw (wn + (F_J6_stringSize_0f7a4 a1))).2.2.2) + 0) + 0 ≤ (FF9).2.2.2.2 from (by rw [hM]; exact Nat.le_trans (show (((0 + 0) + (F_J5_ensureCapacityInternal_d00df wb capw (wn + (F_J6_stringSize_0f7a4 a1))).2.2.2) + 0) + 0 ≤ ((((0 + 0) + (F_J5_ensureCapacityInternal_d00df wb capw (wn + (F_J6_stringSize_0f7a4 a1))).2.2.2) + 0) + 0) from (by omega)) (show ((((0 + 0) + (F_J5_ensureCapacityInternal_d00df wb capw (wn + (F_J6_stringSize_0f7a4 a1))).2.2.2) + 0) + 0) ≤ ((((0 + 0) + (F_J5_ensureCapacityInternal_d00df wb capw (wn + (F_J6_stringSize_0f7a4 a1))).2.2.2) + 0) + 0) from (by omega))))⟩) hK hP hD hS hA [0] [1] [] rfl rfl (by decide) (by decide) rfl (fun qa_4 ka_4 ia H locs hpo hP hD hK hS => ?_)
  have hen_4 : sb_Fit ((F_J6_getChars_ba4f3 a1 (wn + (F_J6_stringSize_0f7a4 a1)) ((F_J5_ensureCapacityInternal_d00df wb capw (wn + (F_J6_stringSize_0f7a4 a1))).2.1)).2) := hpo
  have hP : va_P D vwCl [(h_B, .inr (1, [.ref (qa_2 0), .int 0, h_B_2, .int wn])), ((qa_2 0), .inl ((ka_2 0), (F_J5_ensureCapacityInternal_d00df wb capw (wn + (F_J6_stringSize_0f7a4 a1))).1, .inl (F_J6_getChars_ba4f3 a1 (wn + (F_J6_stringSize_0f7a4 a1)) ((F_J5_ensureCapacityInternal_d00df wb capw (wn + (F_J6_stringSize_0f7a4 a1))).2.1)).2))] H := hP
  have hD : va_D A [(h_B, .inr (1, [.ref (qa_2 0), .int 0, h_B_2, .int wn])), ((qa_2 0), .inl ((ka_2 0), (F_J5_ensureCapacityInternal_d00df wb capw (wn + (F_J6_stringSize_0f7a4 a1))).1, .inl (F_J6_getChars_ba4f3 a1 (wn + (F_J6_stringSize_0f7a4 a1)) ((F_J5_ensureCapacityInternal_d00df wb capw (wn + (F_J6_stringSize_0f7a4 a1))).2.1)).2))] := hD
  have hK : va_K D vwCl [((ka_2 0), .byte)] s := hK
  refine W.eq (g2 := F0 m 33 ls [.int (F_J6_getChars_ba4f3 a1 (wn + (F_J6_stringSize_0f7a4 a1)) ((F_J5_ensureCapacityInternal_d00df wb capw (wn + (F_J6_stringSize_0f7a4 a1))).2.1)).1]) rfl ?_
  refine lv_pop hx hb dJ5_append_c97b9_33 rfl ?_
  refine lv_goto (tgt := 48) hx hb dJ5_append_c97b9_34 (by decide) ?_
  refine lv_aload_n hx hb dJ5_append_c97b9_48 rfl (lv_at hl 2 rfl) ?_
  refine lv_iload_n hx hb dJ5_append_c97b9_49 rfl (lv_at hl 0 rfl) ?_
  refine va_put (D := D) (ci := 1) (v := .int (wn + (F_J6_stringSize_0f7a4 a1))) (ty := .int) (own := RJ5) (C := RJ4) (T := TJ4) (N := 4) hx hb hts hi_J4 tyJ4 tyJ4_ok nmJ4 hown hK hP hD hS 0 rfl rfl 3 (by decide) (hts (.fieldLink RJ5 79 "java/lang/AbstractStringBuilder" "count" "I") (List.mem_of_getElem? (i := 1) (by decide +kernel))) (fun _ h9 => h9) rfl (by decide +kernel) rfl rfl (Nat.le_of_ble_eq_true rfl) dJ5_append_c97b9_50 (fun H locs hP hD hS => ?_)
  have hP : va_P D vwCl [(h_B, .inr (1, [.ref (qa_2 0), .int 0, h_B_2, .int (wn + (F_J6_stringSize_0f7a4 a1))])), ((qa_2 0), .inl ((ka_2 0), (F_J5_ensureCapacityInternal_d00df wb capw (wn + (F_J6_stringSize_0f7a4 a1))).1, .inl (F_J6_getChars_ba4f3 a1 (wn + (F_J6_stringSize_0f7a4 a1)) ((F_J5_ensureCapacityInternal_d00df wb capw (wn + (F_J6_stringSize_0f7a4 a1))).2.1)).2))] H := hP
  have hD : va_D A [(h_B, .inr (1, [.ref (qa_2 0), .int 0, h_B_2, .int (wn + (F_J6_stringSize_0f7a4 a1))])), ((qa_2 0), .inl ((ka_2 0), (F_J5_ensureCapacityInternal_d00df wb capw (wn + (F_J6_stringSize_0f7a4 a1))).1, .inl (F_J6_getChars_ba4f3 a1 (wn + (F_J6_stringSize_0f7a4 a1)) ((F_J5_ensureCapacityInternal_d00df wb capw (wn + (F_J6_stringSize_0f7a4 a1))).2.1)).2))] := hD
  refine lv_aload_n hx hb dJ5_append_c97b9_53 rfl (lv_at hl 2 rfl) ?_
  refine W.widen (k := (FF9).2.2.2.1) (n := (FF9).2.2.2.2) (Nat.le_of_eq (by rw [hM])) (Nat.le_of_eq (by rw [hM])) ?_
  exact W.aret (v := .ref h_B) hx hb hr (Or.inr ⟨_, rfl⟩) (Or.inr ⟨_, rfl⟩) (QG_.mk (fun n => [(qa_2 0)].getD n 0) (fun n => [(ka_2 0)].getD n 0) (fun _ => 0) [1, 0] [0] hP hD hK hS rfl (by rw [hM]; exact ⟨(show sb_Fit ((F_J6_getChars_ba4f3 a1 (wn + (F_J6_stringSize_0f7a4 a1)) ((F_J5_ensureCapacityInternal_d00df wb capw (wn + (F_J6_stringSize_0f7a4 a1))).2.1)).2) from hen_4), (show wn.toInt + 1 ≤ (wn + (F_J6_stringSize_0f7a4 a1)).toInt from (by have z1 := hy1; have z2 := hy2; have z3 := hy3; have z4 := hy4; have z5 := hy5; have z6 := hy6; have z7 := hy7; have z8 := hy8; have z9 := hen_2; have z10 := hen_4; have rsz := R_J6_stringSize a1 (by omega) (by omega); have b86 := Int32.toInt_lt (wn); have d86 := Int32.le_toInt (wn); have b87 := Int32.toInt_lt (F_J6_stringSize_0f7a4 a1); have d87 := Int32.le_toInt (F_J6_stringSize_0f7a4 a1); have q85 := addI (a := wn) (b := (F_J6_stringSize_0f7a4 a1)) (by omega) (by omega); omega)), (show (wn + (F_J6_stringSize_0f7a4 a1)).toInt ≤ wn.toInt + 4 from (by have z1 := hy1; have z2 := hy2; have z3 := hy3; have z4 := hy4; have z5 := hy5; have z6 := hy6; have z7 := hy7; have z8 := hy8; have z9 := hen_2; have z10 := hen_4; have rsz := R_J6_stringSize a1 (by omega) (by omega); have b89 := Int32.toInt_lt (wn); have d89 := Int32.le_toInt (wn); have b90 := Int32.toInt_lt (F_J6_stringSize_0f7a4 a1); have d90 := Int32.le_toInt (F_J6_stringSize_0f7a4 a1); have q88 := addI (a := wn) (b := (F_J6_stringSize_0f7a4 a1)) (by omega) (by omega); omega)), (show (wn + (F_J6_stringSize_0f7a4 a1)).toInt ≤ ((F_J5_ensureCapacityInternal_d00df wb capw (wn + (F_J6_stringSize_0f7a4 a1))).1) from (by have z1 := hy1; have z2 := hy2; have z3 := hy3; have z4 := hy4; have z5 := hy5; have z6 := hy6; have z7 := hy7; have z8 := hy8; have z9 := hen_2; have z10 := hen_4; have rsz := R_J6_stringSize a1 (by omega) (by omega); have b92 := Int32.toInt_lt (wn); have d92 := Int32.le_toInt (wn); have b93 := Int32.toInt_lt (F_J6_stringSize_0f7a4 a1); have d93 := Int32.le_toInt (F_J6_stringSize_0f7a4 a1); have q91 := addI (a := wn) (b := (F_J6_stringSize_0f7a4 a1)) (by omega) (by omega); omega)), (show 16 ≤ ((F_J5_ensureCapacityInternal_d00df wb capw (wn + (F_J6_stringSize_0f7a4 a1))).1) from (by have z1 := hy1; have z2 := hy2; have z3 := hy3; have z4 := hy4; have z5 := hy5; have z6 := hy6; have z7 := hy7; have z8 := hy8; have z9 := hen_2; have z10 := hen_4; have rsz := R_J6_stringSize a1 (by omega) (by omega); omega)), (show capw ≤ ((F_J5_ensureCapacityInternal_d00df wb capw (wn + (F_J6_stringSize_0f7a4 a1))).1) from (by have z1 := hy1; have z2 := hy2; have z3 := hy3; have z4 := hy4; have z5 := hy5; have z6 := hy6; have z7 := hy7; have z8 := hy8; have z9 := hen_2; have z10 := hen_4; have rsz := R_J6_stringSize a1 (by omega) (by omega); omega)), (show ((F_J5_ensureCapacityInternal_d00df wb capw (wn + (F_J6_stringSize_0f7a4 a1))).1) ≤ 20000 from (by have z1 := hy1; have z2 := hy2; have z3 := hy3; have z4 := hy4; have z5 := hy5; have z6 := hy6; have z7 := hy7; have z8 := hy8; have z9 := hen_2; have z10 := hen_4; have rsz := R_J6_stringSize a1 (by omega) (by omega); omega))⟩) (by rw [hM]; rfl) (by decide) rfl) hS.2.2 dJ5_append_c97b9_54
def F_J4_append_cf468 (wb : Nat → Int32) (capw : Nat) (wn : Int32) (a1 : Int32) : Nat × (Nat → Int32) × Int32 × Nat × Nat := ((F_J5_append_3fe6f wb capw wn a1).1, ((F_J5_append_3fe6f wb capw wn a1).2.1), (F_J5_append_3fe6f wb capw wn a1).2.2.1, (0 + (F_J5_append_3fe6f wb capw wn a1).2.2.2.1), (0 + (F_J5_append_3fe6f wb capw wn a1).2.2.2.2))
set_option maxHeartbeats 4000000 in
set_option maxRecDepth 100000 in
theorem c_J4_append_cf468 (l : Launch) (hl0 : l.stackTraces = false) (D : va_G) (ad : Nat → Nat) (sz : Nat) (h_wb : Nat) (h_B : Nat) (k_wb : ClassId) (h_B_2 : Value) (capw : Nat) (wb : Nat → Int32) (wn : Int32) (a1 : Int32) (hy0 : sb_Fit wb) (hy1 : 0 ≤ wn.toInt) (hy2 : wn.toInt ≤ capw) (hy3 : wn.toInt ≤ 5000) (hy4 : capw ≤ 20000) (hy5 : 16 ≤ capw) (hy6 : (ci_ a1).toInt ≤ 255) (hy7 : wn.toInt < 5000) : Met l yJ4_append_cf468 wsJ4_append_cf468 ({ frames := 5, cells := (F_J4_append_cf468 wb capw wn a1).2.2.2.1, slots := (F_J4_append_cf468 wb capw wn a1).2.2.2.2, locals := 139 }) (PC_ D ad [(h_wb, .inl (k_wb, capw, .inl wb)), (h_B, .inr (1, [.ref h_wb, .int 0, h_B_2, .int wn]))] [(k_wb, .byte)] sz [.ref h_B, .int (ci_ a1)]) (QG_ D (fun q i => some (.ref h_B)) (fun q i => sb_Fit ((F_J4_append_cf468 wb capw wn a1).2.1) ∧ ((F_J4_append_cf468 wb capw wn a1).2.2.1).toInt = wn.toInt + 1 ∧ ((F_J4_append_cf468 wb capw wn a1).2.2.1).toInt ≤ ((F_J4_append_cf468 wb capw wn a1).1) ∧ 16 ≤ ((F_J4_append_cf468 wb capw wn a1).1) ∧ capw ≤ ((F_J4_append_cf468 wb capw wn a1).1) ∧ ((F_J4_append_cf468 wb capw wn a1).1) ≤ 20000) (fun q k i => [((q 0), .inl ((k 0), (F_J4_append_cf468 wb capw wn a1).1, .inl (F_J4_append_cf468 wb capw wn a1).2.1)), (h_B, .inr (1, [.ref (q 0), .int 0, h_B_2, .int (F_J4_append_cf468 wb capw wn a1).2.2.1]))]) (fun q k i => [((k 0), .byte)]) (va_A [(h_wb, .inl (k_wb, capw, .inl wb)), (h_B, .inr (1, [.ref h_wb, .int 0, h_B_2, .int wn]))] sz)) (F_J4_append_cf468 wb capw wn a1).2.2.2.1 (F_J4_append_cf468 wb capw wn a1).2.2.2.2 (va_A [(h_wb, .inl (k_wb, capw, .inl wb)), (h_B, .inr (1, [.ref h_wb, .int 0, h_B_2, .int wn]))] sz) := by
  refine Met.ofW (cc := cJ4_append_cf468) (maxL := 2) (ret := (some (.object "java/lang/StringBuilder"))) (by decide) rfl ?_
  intro p e s m args below meth c s₁ B hml hv
  obtain ⟨rfl, hsz, hP, hK, hD0, hF⟩ := hv
  have hx := B.exec
  have hb := B.bytes
  have hr := B.returns
  have hts := atoms_spec (ws := wsJ4_append_cf468) B.pre
  have hown : s.vm.findClass RJ4 = some m.cls := findClass_of_methodNamed B.named
  have hlocks := B.notSynchronized
  subst hsz
  have hD := hD0.self (sz := s.heap.size)
  generalize hAe : va_A [(h_wb, .inl (k_wb, capw, .inl wb)), (h_B, .inr (1, [.ref h_wb, .int 0, h_B_2, .int wn]))] s.heap.size = A at hD hF ⊢
  have hA : ∀ q : Nat, s.heap.size ≤ q → A q := fun q h => by rw [← hAe]; exact Or.inr h
  obtain ⟨H, hHe⟩ : ∃ H : Heap, H = s.heap := ⟨_, rfl⟩
  have hS : va_S A s.heap H [] := by rw [hHe]; exact va_S.rf
  have hP : va_P D vwCl [(h_wb, .inl (k_wb, capw, .inl wb)), (h_B, .inr (1, [.ref h_wb, .int 0, h_B_2, .int wn]))] H := by rw [hHe]; exact hP
  rw [← hHe]
  have hl := lv_entry [.ref h_B, .int (ci_ a1)] (n := 2) (Nat.le_of_ble_eq_true rfl)
  rw [lg_entry_eq]
  generalize (lg_sl [.ref h_B, .int (ci_ a1)] ++ List.replicate (2 - (lg_sl [.ref h_B, .int (ci_ a1)]).length) Slot.unset).toArray = ls at hl ⊢
  have hl : lv_has ls 2 [(0, .ref h_B), (1, .int (ci_ a1))] := hl
  generalize hF9 : F_J4_append_cf468 wb capw wn a1 = FF9
  have hM : FF9 = ((F_J5_append_3fe6f wb capw wn a1).1, ((F_J5_append_3fe6f wb capw wn a1).2.1), (F_J5_append_3fe6f wb capw wn a1).2.2.1, (0 + (F_J5_append_3fe6f wb capw wn a1).2.2.2.1), (0 + (F_J5_append_3fe6f wb capw wn a1).2.2.2.2)) := hF9.symm
  refine lv_aload_n hx hb dJ4_append_cf468_0 rfl (lv_at hl 0 rfl) ?_
  refine lv_iload_n hx hb dJ4_append_cf468_1 rfl (lv_at hl 1 rfl) ?_
  refine kc_ (wc := [(h_wb, .inl (k_wb, capw, .inl wb)), (h_B, .inr (1, [.ref h_wb, .int 0, h_B_2, .int wn]))]) (wr := []) (va_runSU (hK.1 1 _ rfl).2 (As := [.int (ci_ a1)]) (rest := []) ⟨hx, hb, hml, hown, hts⟩ (c_J5_append_3fe6f l hl0 D ad H.size h_wb h_B k_wb (h_B_2) capw wb wn a1 hy0 (by have z1 := hy1; have z2 := hy2; have z3 := hy3; have z4 := hy4; have z5 := hy5; have z6 := hy6; have z7 := hy7; omega) (by have z1 := hy1; have z2 := hy2; have z3 := hy3; have z4 := hy4; have z5 := hy5; have z6 := hy6; have z7 := hy7; omega) (by have z1 := hy1; have z2 := hy2; have z3 := hy3; have z4 := hy4; have z5 := hy5; have z6 := hy6; have z7 := hy7; omega) (by have z1 := hy1; have z2 := hy2; have z3 := hy3; have z4 := hy4; have z5 := hy5; have z6 := hy6; have z7 := hy7; omega) (by have z1 := hy1; have z2 := hy2; have z3 := hy3; have z4 := hy4; have z5 := hy5; have z6 := hy6; have z7 := hy7; omega) (by have z1 := hy1; have z2 := hy2; have z3 := hy3; have z4 := hy4; have z5 := hy5; have z6 := hy6; have z7 := hy7; have rci := ci_r a1; omega) (by have z1 := hy1; have z2 := hy2; have z3 := hy3; have z4 := hy4; have z5 := hy5; have z6 := hy6; have z7 := hy7; omega)) (va_cwSU 1 hts gJ4_append_cf468_J5_append_3fe6f_s50 rfl rfl rfl (by decide +kernel) ⟨Nat.le_of_ble_eq_true rfl, Nat.le_of_ble_eq_true rfl⟩) ⟨PC_.blind, va_recv hK hP (ci := 1) (q0 := 1) rfl rfl, PC_.pre hF hK hP hD hS hA [0, 1] [0] rfl (by decide) rfl⟩ rfl rfl hl.1 rfl (lv_room (Nat.le_of_ble_eq_true rfl)) dJ4_append_cf468_2 ⟨(show 0 + ((F_J5_append_3fe6f wb capw wn a1).2.2.2.1) ≤ (FF9).2.2.2.1 from (by rw [hM]; exact Nat.le_trans (show 0 + ((F_J5_append_3fe6f wb capw wn a1).2.2.2.1) ≤ (0 + (F_J5_append_3fe6f wb capw wn a1).2.2.2.1) from (by omega)) (show (0 + (F_J5_append_3fe6f wb capw wn a1).2.2.2.1) ≤ (0 + (F_J5_append_3fe6f wb capw wn a1).2.2.2.1) from (by omega)))), (show 0 + ((F_J5_append_3fe6f wb capw wn a1).2.2.2.2) ≤ (FF9).2.2.2.2 from (by rw [hM]; exact Nat.le_trans (show 0 + ((F_J5_append_3fe6f wb capw wn a1).2.2.2.2) ≤ (0 + (F_J5_append_3fe6f wb capw wn a1).2.2.2.2) from (by omega)) (show (0 + (F_J5_append_3fe6f wb capw wn a1).2.2.2.2) ≤ (0 + (F_J5_append_3fe6f wb capw wn a1).2.2.2.2) from (by omega))))⟩) hK hP hD hS hA [0, 1] [] [] rfl rfl (by decide) (by decide) rfl (fun qa_1 ka_1 ia H locs hpo hP hD hK hS => ?_)
  have hen_1 : sb_Fit ((F_J5_append_3fe6f wb capw wn a1).2.1) ∧ ((F_J5_append_3fe6f wb capw wn a1).2.2.1).toInt = wn.toInt + 1 ∧ ((F_J5_append_3fe6f wb capw wn a1).2.2.1).toInt ≤ ((F_J5_append_3fe6f wb capw wn a1).1) ∧ 16 ≤ ((F_J5_append_3fe6f wb capw wn a1).1) ∧ capw ≤ ((F_J5_append_3fe6f wb capw wn a1).1) ∧ ((F_J5_append_3fe6f wb capw wn a1).1) ≤ 20000 := hpo
  have hP : va_P D vwCl [((qa_1 0), .inl ((ka_1 0), (F_J5_append_3fe6f wb capw wn a1).1, .inl (F_J5_append_3fe6f wb capw wn a1).2.1)), (h_B, .inr (1, [.ref (qa_1 0), .int 0, h_B_2, .int (F_J5_append_3fe6f wb capw wn a1).2.2.1]))] H := hP
  have hD : va_D A [((qa_1 0), .inl ((ka_1 0), (F_J5_append_3fe6f wb capw wn a1).1, .inl (F_J5_append_3fe6f wb capw wn a1).2.1)), (h_B, .inr (1, [.ref (qa_1 0), .int 0, h_B_2, .int (F_J5_append_3fe6f wb capw wn a1).2.2.1]))] := hD
  have hK : va_K D vwCl [((ka_1 0), .byte)] s := hK
  refine W.eq (g2 := F0 m 5 ls [.ref h_B]) rfl ?_
  refine lv_pop hx hb dJ4_append_cf468_5 rfl ?_
  refine lv_aload_n hx hb dJ4_append_cf468_6 rfl (lv_at hl 0 rfl) ?_
  refine W.widen (k := (FF9).2.2.2.1) (n := (FF9).2.2.2.2) (Nat.le_of_eq (by rw [hM])) (Nat.le_of_eq (by rw [hM])) ?_
  exact W.aret (v := .ref h_B) hx hb hr (Or.inr ⟨_, rfl⟩) (Or.inr ⟨_, rfl⟩) (QG_.mk (fun n => [(qa_1 0)].getD n 0) (fun n => [(ka_1 0)].getD n 0) (fun _ => 0) [0, 1] [0] hP hD hK hS rfl (by rw [hM]; exact ⟨(show sb_Fit ((F_J5_append_3fe6f wb capw wn a1).2.1) from hen_1.1), (show ((F_J5_append_3fe6f wb capw wn a1).2.2.1).toInt = wn.toInt + 1 from (by have z1 := hy1; have z2 := hy2; have z3 := hy3; have z4 := hy4; have z5 := hy5; have z6 := hy6; have z7 := hy7; have z8 := hen_1; have b1 := Int32.toInt_lt ((F_J5_append_3fe6f wb capw wn a1).2.2.1); have d1 := Int32.le_toInt ((F_J5_append_3fe6f wb capw wn a1).2.2.1); omega)), (show ((F_J5_append_3fe6f wb capw wn a1).2.2.1).toInt ≤ ((F_J5_append_3fe6f wb capw wn a1).1) from (by have z1 := hy1; have z2 := hy2; have z3 := hy3; have z4 := hy4; have z5 := hy5; have z6 := hy6; have z7 := hy7; have z8 := hen_1; have b2 := Int32.toInt_lt ((F_J5_append_3fe6f wb capw wn a1).2.2.1); have d2 := Int32.le_toInt ((F_J5_append_3fe6f wb capw wn a1).2.2.1); omega)), (show 16 ≤ ((F_J5_append_3fe6f wb capw wn a1).1) from (by have z1 := hy1; have z2 := hy2; have z3 := hy3; have z4 := hy4; have z5 := hy5; have z6 := hy6; have z7 := hy7; have z8 := hen_1; omega)), (show capw ≤ ((F_J5_append_3fe6f wb capw wn a1).1) from (by have z1 := hy1; have z2 := hy2; have z3 := hy3; have z4 := hy4; have z5 := hy5; have z6 := hy6; have z7 := hy7; have z8 := hen_1; omega)), (show ((F_J5_append_3fe6f wb capw wn a1).1) ≤ 20000 from (by have z1 := hy1; have z2 := hy2; have z3 := hy3; have z4 := hy4; have z5 := hy5; have z6 := hy6; have z7 := hy7; have z8 := hen_1; omega))⟩) (by rw [hM]; rfl) (by decide) rfl) hS.2.2 dJ4_append_cf468_7
def F_J4_append_bf812 (wb : Nat → Int32) (capw : Nat) (wn : Int32) (a1 : Int32) : Nat × (Nat → Int32) × Int32 × Nat × Nat := ((F_J5_append_c97b9 wb capw wn a1).1, ((F_J5_append_c97b9 wb capw wn a1).2.1), (F_J5_append_c97b9 wb capw wn a1).2.2.1, (0 + (F_J5_append_c97b9 wb capw wn a1).2.2.2.1), (0 + (F_J5_append_c97b9 wb capw wn a1).2.2.2.2))
set_option maxHeartbeats 4000000 in
set_option maxRecDepth 100000 in
theorem c_J4_append_bf812 (l : Launch) (hl0 : l.stackTraces = false) (D : va_G) (ad : Nat → Nat) (sz : Nat) (h_wb : Nat) (h_B : Nat) (k_wb : ClassId) (h_B_2 : Value) (capw : Nat) (wb : Nat → Int32) (wn : Int32) (a1 : Int32) (hy0 : sb_Fit wb) (hy1 : 0 ≤ wn.toInt) (hy2 : wn.toInt ≤ capw) (hy3 : wn.toInt ≤ 5000) (hy4 : capw ≤ 20000) (hy5 : 16 ≤ capw) (hy6 : 0 ≤ a1.toInt) (hy7 : a1.toInt < 10000) (hy8 : wn.toInt < 4990) : Met l yJ4_append_bf812 wsJ4_append_bf812 ({ frames := 5, cells := (F_J4_append_bf812 wb capw wn a1).2.2.2.1, slots := (F_J4_append_bf812 wb capw wn a1).2.2.2.2, locals := 141 }) (PC_ D ad [(h_wb, .inl (k_wb, capw, .inl wb)), (h_B, .inr (1, [.ref h_wb, .int 0, h_B_2, .int wn]))] [(k_wb, .byte)] sz [.ref h_B, .int a1]) (QG_ D (fun q i => some (.ref h_B)) (fun q i => sb_Fit ((F_J4_append_bf812 wb capw wn a1).2.1) ∧ wn.toInt + 1 ≤ ((F_J4_append_bf812 wb capw wn a1).2.2.1).toInt ∧ ((F_J4_append_bf812 wb capw wn a1).2.2.1).toInt ≤ wn.toInt + 4 ∧ ((F_J4_append_bf812 wb capw wn a1).2.2.1).toInt ≤ ((F_J4_append_bf812 wb capw wn a1).1) ∧ 16 ≤ ((F_J4_append_bf812 wb capw wn a1).1) ∧ capw ≤ ((F_J4_append_bf812 wb capw wn a1).1) ∧ ((F_J4_append_bf812 wb capw wn a1).1) ≤ 20000) (fun q k i => [((q 0), .inl ((k 0), (F_J4_append_bf812 wb capw wn a1).1, .inl (F_J4_append_bf812 wb capw wn a1).2.1)), (h_B, .inr (1, [.ref (q 0), .int 0, h_B_2, .int (F_J4_append_bf812 wb capw wn a1).2.2.1]))]) (fun q k i => [((k 0), .byte)]) (va_A [(h_wb, .inl (k_wb, capw, .inl wb)), (h_B, .inr (1, [.ref h_wb, .int 0, h_B_2, .int wn]))] sz)) (F_J4_append_bf812 wb capw wn a1).2.2.2.1 (F_J4_append_bf812 wb capw wn a1).2.2.2.2 (va_A [(h_wb, .inl (k_wb, capw, .inl wb)), (h_B, .inr (1, [.ref h_wb, .int 0, h_B_2, .int wn]))] sz) := by
  refine Met.ofW (cc := cJ4_append_bf812) (maxL := 2) (ret := (some (.object "java/lang/StringBuilder"))) (by decide) rfl ?_
  intro p e s m args below meth c s₁ B hml hv
  obtain ⟨rfl, hsz, hP, hK, hD0, hF⟩ := hv
  have hx := B.exec
  have hb := B.bytes
  have hr := B.returns
  have hts := atoms_spec (ws := wsJ4_append_bf812) B.pre
  have hown : s.vm.findClass RJ4 = some m.cls := findClass_of_methodNamed B.named
  have hlocks := B.notSynchronized
  subst hsz
  have hD := hD0.self (sz := s.heap.size)
  generalize hAe : va_A [(h_wb, .inl (k_wb, capw, .inl wb)), (h_B, .inr (1, [.ref h_wb, .int 0, h_B_2, .int wn]))] s.heap.size = A at hD hF ⊢
  have hA : ∀ q : Nat, s.heap.size ≤ q → A q := fun q h => by rw [← hAe]; exact Or.inr h
  obtain ⟨H, hHe⟩ : ∃ H : Heap, H = s.heap := ⟨_, rfl⟩
  have hS : va_S A s.heap H [] := by rw [hHe]; exact va_S.rf
  have hP : va_P D vwCl [(h_wb, .inl (k_wb, capw, .inl wb)), (h_B, .inr (1, [.ref h_wb, .int 0, h_B_2, .int wn]))] H := by rw [hHe]; exact hP
  rw [← hHe]
  have hl := lv_entry [.ref h_B, .int a1] (n := 2) (Nat.le_of_ble_eq_true rfl)
  rw [lg_entry_eq]
  generalize (lg_sl [.ref h_B, .int a1] ++ List.replicate (2 - (lg_sl [.ref h_B, .int a1]).length) Slot.unset).toArray = ls at hl ⊢
  have hl : lv_has ls 2 [(0, .ref h_B), (1, .int a1)] := hl
  generalize hF9 : F_J4_append_bf812 wb capw wn a1 = FF9
  have hM : FF9 = ((F_J5_append_c97b9 wb capw wn a1).1, ((F_J5_append_c97b9 wb capw wn a1).2.1), (F_J5_append_c97b9 wb capw wn a1).2.2.1, (0 + (F_J5_append_c97b9 wb capw wn a1).2.2.2.1), (0 + (F_J5_append_c97b9 wb capw wn a1).2.2.2.2)) := hF9.symm
  refine lv_aload_n hx hb dJ4_append_bf812_0 rfl (lv_at hl 0 rfl) ?_
  refine lv_iload_n hx hb dJ4_append_bf812_1 rfl (lv_at hl 1 rfl) ?_
  refine kc_ (wc := [(h_wb, .inl (k_wb, capw, .inl wb)), (h_B, .inr (1, [.ref h_wb, .int 0, h_B_2, .int wn]))]) (wr := []) (va_runSU (hK.1 1 _ rfl).2 (As := [.int a1]) (rest := []) ⟨hx, hb, hml, hown, hts⟩ (c_J5_append_c97b9 l hl0 D ad H.size h_wb h_B k_wb (h_B_2) capw wb wn a1 hy0 (by have z1 := hy1; have z2 := hy2; have z3 := hy3; have z4 := hy4; have z5 := hy5; have z6 := hy6; have z7 := hy7; have z8 := hy8; omega) (by have z1 := hy1; have z2 := hy2; have z3 := hy3; have z4 := hy4; have z5 := hy5; have z6 := hy6; have z7 := hy7; have z8 := hy8; omega) (by have z1 := hy1; have z2 := hy2; have z3 := hy3; have z4 := hy4; have z5 := hy5; have z6 := hy6; have z7 := hy7; have z8 := hy8; omega) (by have z1 := hy1; have z2 := hy2; have z3 := hy3; have z4 := hy4; have z5 := hy5; have z6 := hy6; have z7 := hy7; have z8 := hy8; omega) (by have z1 := hy1; have z2 := hy2; have z3 := hy3; have z4 := hy4; have z5 := hy5; have z6 := hy6; have z7 := hy7; have z8 := hy8; omega) (by have z1 := hy1; have z2 := hy2; have z3 := hy3; have z4 := hy4; have z5 := hy5; have z6 := hy6; have z7 := hy7; have z8 := hy8; omega) (by have z1 := hy1; have z2 := hy2; have z3 := hy3; have z4 := hy4; have z5 := hy5; have z6 := hy6; have z7 := hy7; have z8 := hy8; omega) (by have z1 := hy1; have z2 := hy2; have z3 := hy3; have z4 := hy4; have z5 := hy5; have z6 := hy6; have z7 := hy7; have z8 := hy8; omega)) (va_cwSU 1 hts gJ4_append_bf812_J5_append_c97b9_s53 rfl rfl rfl (by decide +kernel) ⟨Nat.le_of_ble_eq_true rfl, Nat.le_of_ble_eq_true rfl⟩) ⟨PC_.blind, va_recv hK hP (ci := 1) (q0 := 1) rfl rfl, PC_.pre hF hK hP hD hS hA [0, 1] [0] rfl (by decide) rfl⟩ rfl rfl hl.1 rfl (lv_room (Nat.le_of_ble_eq_true rfl)) dJ4_append_bf812_2 ⟨(show 0 + ((F_J5_append_c97b9 wb capw wn a1).2.2.2.1) ≤ (FF9).2.2.2.1 from (by rw [hM]; exact Nat.le_trans (show 0 + ((F_J5_append_c97b9 wb capw wn a1).2.2.2.1) ≤ (0 + (F_J5_append_c97b9 wb capw wn a1).2.2.2.1) from (by omega)) (show (0 + (F_J5_append_c97b9 wb capw wn a1).2.2.2.1) ≤ (0 + (F_J5_append_c97b9 wb capw wn a1).2.2.2.1) from (by omega)))), (show 0 + ((F_J5_append_c97b9 wb capw wn a1).2.2.2.2) ≤ (FF9).2.2.2.2 from (by rw [hM]; exact Nat.le_trans (show 0 + ((F_J5_append_c97b9 wb capw wn a1).2.2.2.2) ≤ (0 + (F_J5_append_c97b9 wb capw wn a1).2.2.2.2) from (by omega)) (show (0 + (F_J5_append_c97b9 wb capw wn a1).2.2.2.2) ≤ (0 + (F_J5_append_c97b9 wb capw wn a1).2.2.2.2) from (by omega))))⟩) hK hP hD hS hA [0, 1] [] [] rfl rfl (by decide) (by decide) rfl (fun qa_1 ka_1 ia H locs hpo hP hD hK hS => ?_)
  have hen_1 : sb_Fit ((F_J5_append_c97b9 wb capw wn a1).2.1) ∧ wn.toInt + 1 ≤ ((F_J5_append_c97b9 wb capw wn a1).2.2.1).toInt ∧ ((F_J5_append_c97b9 wb capw wn a1).2.2.1).toInt ≤ wn.toInt + 4 ∧ ((F_J5_append_c97b9 wb capw wn a1).2.2.1).toInt ≤ ((F_J5_append_c97b9 wb capw wn a1).1) ∧ 16 ≤ ((F_J5_append_c97b9 wb capw wn a1).1) ∧ capw ≤ ((F_J5_append_c97b9 wb capw wn a1).1) ∧ ((F_J5_append_c97b9 wb capw wn a1).1) ≤ 20000 := hpo
  have hP : va_P D vwCl [((qa_1 0), .inl ((ka_1 0), (F_J5_append_c97b9 wb capw wn a1).1, .inl (F_J5_append_c97b9 wb capw wn a1).2.1)), (h_B, .inr (1, [.ref (qa_1 0), .int 0, h_B_2, .int (F_J5_append_c97b9 wb capw wn a1).2.2.1]))] H := hP
  have hD : va_D A [((qa_1 0), .inl ((ka_1 0), (F_J5_append_c97b9 wb capw wn a1).1, .inl (F_J5_append_c97b9 wb capw wn a1).2.1)), (h_B, .inr (1, [.ref (qa_1 0), .int 0, h_B_2, .int (F_J5_append_c97b9 wb capw wn a1).2.2.1]))] := hD
  have hK : va_K D vwCl [((ka_1 0), .byte)] s := hK
  refine W.eq (g2 := F0 m 5 ls [.ref h_B]) rfl ?_
  refine lv_pop hx hb dJ4_append_bf812_5 rfl ?_
  refine lv_aload_n hx hb dJ4_append_bf812_6 rfl (lv_at hl 0 rfl) ?_
  refine W.widen (k := (FF9).2.2.2.1) (n := (FF9).2.2.2.2) (Nat.le_of_eq (by rw [hM])) (Nat.le_of_eq (by rw [hM])) ?_
  exact W.aret (v := .ref h_B) hx hb hr (Or.inr ⟨_, rfl⟩) (Or.inr ⟨_, rfl⟩) (QG_.mk (fun n => [(qa_1 0)].getD n 0) (fun n => [(ka_1 0)].getD n 0) (fun _ => 0) [0, 1] [0] hP hD hK hS rfl (by rw [hM]; exact ⟨(show sb_Fit ((F_J5_append_c97b9 wb capw wn a1).2.1) from hen_1.1), (show wn.toInt + 1 ≤ ((F_J5_append_c97b9 wb capw wn a1).2.2.1).toInt from (by have z1 := hy1; have z2 := hy2; have z3 := hy3; have z4 := hy4; have z5 := hy5; have z6 := hy6; have z7 := hy7; have z8 := hy8; have z9 := hen_1; have b1 := Int32.toInt_lt ((F_J5_append_c97b9 wb capw wn a1).2.2.1); have d1 := Int32.le_toInt ((F_J5_append_c97b9 wb capw wn a1).2.2.1); omega)), (show ((F_J5_append_c97b9 wb capw wn a1).2.2.1).toInt ≤ wn.toInt + 4 from (by have z1 := hy1; have z2 := hy2; have z3 := hy3; have z4 := hy4; have z5 := hy5; have z6 := hy6; have z7 := hy7; have z8 := hy8; have z9 := hen_1; have b2 := Int32.toInt_lt ((F_J5_append_c97b9 wb capw wn a1).2.2.1); have d2 := Int32.le_toInt ((F_J5_append_c97b9 wb capw wn a1).2.2.1); omega)), (show ((F_J5_append_c97b9 wb capw wn a1).2.2.1).toInt ≤ ((F_J5_append_c97b9 wb capw wn a1).1) from (by have z1 := hy1; have z2 := hy2; have z3 := hy3; have z4 := hy4; have z5 := hy5; have z6 := hy6; have z7 := hy7; have z8 := hy8; have z9 := hen_1; have b3 := Int32.toInt_lt ((F_J5_append_c97b9 wb capw wn a1).2.2.1); have d3 := Int32.le_toInt ((F_J5_append_c97b9 wb capw wn a1).2.2.1); omega)), (show 16 ≤ ((F_J5_append_c97b9 wb capw wn a1).1) from (by have z1 := hy1; have z2 := hy2; have z3 := hy3; have z4 := hy4; have z5 := hy5; have z6 := hy6; have z7 := hy7; have z8 := hy8; have z9 := hen_1; omega)), (show capw ≤ ((F_J5_append_c97b9 wb capw wn a1).1) from (by have z1 := hy1; have z2 := hy2; have z3 := hy3; have z4 := hy4; have z5 := hy5; have z6 := hy6; have z7 := hy7; have z8 := hy8; have z9 := hen_1; omega)), (show ((F_J5_append_c97b9 wb capw wn a1).1) ≤ 20000 from (by have z1 := hy1; have z2 := hy2; have z3 := hy3; have z4 := hy4; have z5 := hy5; have z6 := hy6; have z7 := hy7; have z8 := hy8; have z9 := hen_1; omega))⟩) (by rw [hM]; rfl) (by decide) rfl) hS.2.2 dJ4_append_bf812_7
def F_J5_length_8abf5 (wn : Int32) : Int32 := wn
set_option maxHeartbeats 4000000 in
set_option maxRecDepth 100000 in
theorem c_J5_length_8abf5 (l : Launch) (hl0 : l.stackTraces = false) (D : va_G) (ad : Nat → Nat) (sz : Nat) (h_B : Nat) (h_B_0 : Value) (h_B_1 : Value) (h_B_2 : Value) (wn : Int32) (hy1 : 0 ≤ wn.toInt) (hy3 : wn.toInt ≤ 5000) : Met l yJ5_length_8abf5 wsJ5_length_8abf5 ({ frames := 0, cells := 0, slots := 0, locals := 0 }) (PR_ D ad [(h_B, .inr (1, [h_B_0, h_B_1, h_B_2, .int wn]))] [] sz [.ref h_B]) (QR_ (.int (F_J5_length_8abf5 wn)) (va_A [] sz)) 0 0 (va_A [] sz) := by
  refine Met.ofW (cc := cJ5_length_8abf5) (maxL := 1) (ret := (some .int)) (by decide) rfl ?_
  intro p e s m args below meth c s₁ B hml hv
  obtain ⟨rfl, hsz, hP, hK, hF⟩ := hv
  have hx := B.exec
  have hb := B.bytes
  have hr := B.returns
  have hts := atoms_spec (ws := wsJ5_length_8abf5) B.pre
  have hown : s.vm.findClass RJ5 = some m.cls := findClass_of_methodNamed B.named
  have hlocks := B.notSynchronized
  subst hsz
  generalize hAe : va_A [] s.heap.size = A at hF ⊢
  have hA : ∀ q : Nat, s.heap.size ≤ q → A q := fun q h => by rw [← hAe]; exact Or.inr h
  obtain ⟨H, hHe⟩ : ∃ H : Heap, H = s.heap := ⟨_, rfl⟩
  have hS : va_S A s.heap H [] := by rw [hHe]; exact va_S.rf
  have hP : va_P D vwCl [(h_B, .inr (1, [h_B_0, h_B_1, h_B_2, .int wn]))] H := by rw [hHe]; exact hP
  rw [← hHe]
  have hi_J4 : ∀ w ∈ wsJ40, w ∈ wsJ5_length_8abf5 := by decide +kernel
  have hl := lv_entry [.ref h_B] (n := 1) (Nat.le_of_ble_eq_true rfl)
  rw [lg_entry_eq]
  generalize (lg_sl [.ref h_B] ++ List.replicate (1 - (lg_sl [.ref h_B]).length) Slot.unset).toArray = ls at hl ⊢
  have hl : lv_has ls 1 [(0, .ref h_B)] := hl
  have hM : F_J5_length_8abf5 wn = wn := rfl
  refine lv_aload_n hx hb dJ5_length_8abf5_0 rfl (lv_at hl 0 rfl) ?_
  refine va_get (D := D) (ci := 1) (v := .int wn) (own := RJ5) (C := RJ4) (T := TJ4) (N := 4) hx hb hts hi_J4 hown hK hP 0 rfl rfl 3 (by decide) (hts (.fieldLink RJ5 79 "java/lang/AbstractStringBuilder" "count" "I") (List.mem_of_getElem? (i := 1) (by decide +kernel))) (fun _ h9 => h9) rfl dJ5_length_8abf5_1 ?_
  refine W.widen (k := 0) (n := 0) (Nat.le_of_ble_eq_true rfl) (Nat.le_of_ble_eq_true rfl) ?_
  exact W.iret (v := wn) hx hb hr (QR_.mk hS (by rw [hM])) hS.2.2 dJ5_length_8abf5_4
def F_J4_length_8abf5 (wn : Int32) : Int32 := (F_J5_length_8abf5 wn)
set_option maxHeartbeats 4000000 in
set_option maxRecDepth 100000 in
theorem c_J4_length_8abf5 (l : Launch) (hl0 : l.stackTraces = false) (D : va_G) (ad : Nat → Nat) (sz : Nat) (h_B : Nat) (h_B_0 : Value) (h_B_1 : Value) (h_B_2 : Value) (wn : Int32) (hy1 : 0 ≤ wn.toInt) (hy3 : wn.toInt ≤ 5000) : Met l yJ4_length_8abf5 wsJ4_length_8abf5 ({ frames := 1, cells := 0, slots := 0, locals := 22 }) (PR_ D ad [(h_B, .inr (1, [h_B_0, h_B_1, h_B_2, .int wn]))] [] sz [.ref h_B]) (QR_ (.int (F_J4_length_8abf5 wn)) (va_A [] sz)) 0 0 (va_A [] sz) := by
  refine Met.ofW (cc := cJ4_length_8abf5) (maxL := 1) (ret := (some .int)) (by decide) rfl ?_
  intro p e s m args below meth c s₁ B hml hv
  obtain ⟨rfl, hsz, hP, hK, hF⟩ := hv
  have hx := B.exec
  have hb := B.bytes
  have hr := B.returns
  have hts := atoms_spec (ws := wsJ4_length_8abf5) B.pre
  have hown : s.vm.findClass RJ4 = some m.cls := findClass_of_methodNamed B.named
  have hlocks := B.notSynchronized
  subst hsz
  generalize hAe : va_A [] s.heap.size = A at hF ⊢
  have hA : ∀ q : Nat, s.heap.size ≤ q → A q := fun q h => by rw [← hAe]; exact Or.inr h
  obtain ⟨H, hHe⟩ : ∃ H : Heap, H = s.heap := ⟨_, rfl⟩
  have hS : va_S A s.heap H [] := by rw [hHe]; exact va_S.rf
  have hP : va_P D vwCl [(h_B, .inr (1, [h_B_0, h_B_1, h_B_2, .int wn]))] H := by rw [hHe]; exact hP
  rw [← hHe]
  have hl := lv_entry [.ref h_B] (n := 1) (Nat.le_of_ble_eq_true rfl)
  rw [lg_entry_eq]
  generalize (lg_sl [.ref h_B] ++ List.replicate (1 - (lg_sl [.ref h_B]).length) Slot.unset).toArray = ls at hl ⊢
  have hl : lv_has ls 1 [(0, .ref h_B)] := hl
  have hM : F_J4_length_8abf5 wn = (F_J5_length_8abf5 wn) := rfl
  refine lv_aload_n hx hb dJ4_length_8abf5_0 rfl (lv_at hl 0 rfl) ?_
  refine kr_ (va_runSU (hK.1 1 _ rfl).2 (As := []) (rest := []) ⟨hx, hb, hml, hown, hts⟩ (c_J5_length_8abf5 l hl0 D ad H.size h_B (h_B_0) (h_B_1) (h_B_2) wn (by have z0 := hy1; have z1 := hy3; omega) (by have z0 := hy1; have z1 := hy3; omega)) (va_cwSU 0 hts gJ4_length_8abf5_J5_length_8abf5_s343 rfl rfl rfl (by decide +kernel) ⟨Nat.le_of_ble_eq_true rfl, Nat.le_of_ble_eq_true rfl⟩) ⟨PR_.blind, va_recv hK hP (ci := 1) (q0 := 0) rfl rfl, PR_.pre hF hK (hP.sub [0] rfl) hS hA [] rfl⟩ rfl rfl hl.1 rfl (lv_room (Nat.le_of_ble_eq_true rfl)) dJ4_length_8abf5_1 ⟨(Nat.le_of_ble_eq_true rfl), (Nat.le_of_ble_eq_true rfl)⟩) hP hS hA (fun H locs hP hS => ?_)
  refine W.eq (g2 := F0 m 4 ls [.int (F_J5_length_8abf5 wn)]) rfl ?_
  refine W.widen (k := 0) (n := 0) (Nat.le_of_ble_eq_true rfl) (Nat.le_of_ble_eq_true rfl) ?_
  exact W.iret (v := (F_J5_length_8abf5 wn)) hx hb hr (QR_.mk hS (by rw [hM])) hS.2.2 dJ4_length_8abf5_4
