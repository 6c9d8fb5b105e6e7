def F_J5_newCapacity_0f7a4 (capw : Nat) (a1 : Int32) : Int32 := (F_J8_newLength_cabcc (nI capw) (a1 - (nI capw)) ((nI capw) + 2))
theorem R_J5_newCapacity (n : Nat) (a : Int32) (h1 : (n : Int) < a.toInt) (h2 : a.toInt ≤ 100000) (h3 : 0 ≤ a.toInt) : a.toInt ≤ (F_J5_newCapacity_0f7a4 n a).toInt ∧ 2 * (n : Int) + 2 ≤ (F_J5_newCapacity_0f7a4 n a).toInt ∧ (F_J5_newCapacity_0f7a4 n a).toInt ≤ 2 * a.toInt + 2 := by
  have e0 := nI_toInt (n := n) (by omega)
  have e2 : (2 : Int32).toInt = 2 := by decide +kernel
  have e3 : (a - nI n).toInt = a.toInt - (nI n).toInt := subI (by omega) (by omega)
  have e4 : (nI n + 2).toInt = (nI n).toInt + (2 : Int32).toInt := addI (by omega) (by omega)
  have k := R_J8_newLength (nI n) (a - nI n) (nI n + 2) (by omega) (by omega) (by omega) (by omega) (by omega) (by omega)
  show a.toInt ≤ (F_J8_newLength_cabcc (nI n) (a - nI n) (nI n + 2)).toInt ∧ 2 * (n : Int) + 2 ≤ (F_J8_newLength_cabcc (nI n) (a - nI n) (nI n + 2)).toInt ∧ (F_J8_newLength_cabcc (nI n) (a - nI n) (nI n + 2)).toInt ≤ 2 * a.toInt + 2
  omega
set_option maxHeartbeats 4000000 in
set_option maxRecDepth 100000 in
theorem c_J5_newCapacity_0f7a4 (l : Launch) (hl0 : l.stackTraces = false) (D : va_G) (ad : Nat → Nat) (sz : Nat) (h_wb : Nat) (h_B : Nat) (k_wb : ClassId) (h_B_2 : Value) (h_B_3 : Value) (capw : Nat) (wb : Nat → Int32) (a1 : Int32) (hy0 : sb_Fit wb) (hy4 : capw ≤ 20000) (hy5 : 16 ≤ capw) (hy6 : capw < a1.toInt) (hy7 : a1.toInt ≤ 6000) : Met l yJ5_newCapacity_0f7a4 wsJ5_newCapacity_0f7a4 ({ frames := 2, cells := 0, slots := 0, locals := 65 }) (PR_ D ad [(h_wb, .inl (k_wb, capw, .inl wb)), (h_B, .inr (1, [.ref h_wb, .int 0, h_B_2, h_B_3]))] [(k_wb, .byte)] sz [.ref h_B, .int a1]) (QR_ (.int (F_J5_newCapacity_0f7a4 capw a1)) (va_A [] sz)) 0 0 (va_A [] sz) := by
  refine Met.ofW (cc := cJ5_newCapacity_0f7a4) (maxL := 6) (ret := (some .int)) (by decide) rfl ?_
  intro p e s m args below meth c s₁ B hml hv
  obtain ⟨rfl, hsz, hP, hK, hF⟩ := hv
  have hx := B.exec
  have hb := B.bytes
  have hr := B.returns
  have hts := atoms_spec (ws := wsJ5_newCapacity_0f7a4) B.pre
  have hown : s.vm.findClass RJ5 = some m.cls := findClass_of_methodNamed B.named
  have hlocks := B.notSynchronized
  subst hsz
  generalize hAe : va_A [] s.heap.size = A at hF ⊢
  have hA : ∀ q : Nat, s.heap.size ≤ q → A q := fun q h => by rw [← hAe]; exact Or.inr h
  obtain ⟨H, hHe⟩ : ∃ H : Heap, H = s.heap := ⟨_, rfl⟩
  have hS : va_S A s.heap H [] := by rw [hHe]; exact va_S.rf
  have hP : va_P D vwCl [(h_wb, .inl (k_wb, capw, .inl wb)), (h_B, .inr (1, [.ref h_wb, .int 0, h_B_2, h_B_3]))] H := by rw [hHe]; exact hP
  rw [← hHe]
  have hi_J4 : ∀ w ∈ wsJ40, w ∈ wsJ5_newCapacity_0f7a4 := by decide +kernel
  have hl := lv_entry [.ref h_B, .int a1] (n := 6) (Nat.le_of_ble_eq_true rfl)
  rw [lg_entry_eq]
  generalize (lg_sl [.ref h_B, .int a1] ++ List.replicate (6 - (lg_sl [.ref h_B, .int a1]).length) Slot.unset).toArray = ls at hl ⊢
  have hl : lv_has ls 6 [(0, .ref h_B), (1, .int a1)] := hl
  have hM : F_J5_newCapacity_0f7a4 capw a1 = (F_J8_newLength_cabcc (nI capw) (a1 - (nI capw)) ((nI capw) + 2)) := rfl
  refine lv_aload_n hx hb dJ5_newCapacity_0f7a4_0 rfl (lv_at hl 0 rfl) ?_
  refine va_get (D := D) (ci := 1) (v := .ref h_wb) (own := RJ5) (C := RJ4) (T := TJ4) (N := 4) hx hb hts hi_J4 hown hK hP 1 rfl rfl 0 (by decide) (hts (.fieldLink RJ5 15 "java/lang/AbstractStringBuilder" "value" "[B") (List.mem_of_getElem? (i := 1) (by decide +kernel))) (fun _ h9 => h9) rfl dJ5_newCapacity_0f7a4_1 ?_
  refine va_alen (v := (nI capw)) hx hb hK hP 0 0 rfl rfl rfl dJ5_newCapacity_0f7a4_4 ?_
  refine lv_istore_n (lv' := [(2, .int (nI capw)), (0, .ref h_B), (1, .int a1)]) hx hb dJ5_newCapacity_0f7a4_5 rfl hl (by decide) rfl (fun ls hl => ?_)
  refine lv_iload_n hx hb dJ5_newCapacity_0f7a4_6 rfl (lv_at hl 2 rfl) ?_
  refine lv_aload_n hx hb dJ5_newCapacity_0f7a4_7 rfl (lv_at hl 1 rfl) ?_
  refine va_get (D := D) (ci := 1) (v := .int 0) (own := RJ5) (C := RJ4) (T := TJ4) (N := 4) hx hb hts hi_J4 hown hK hP 1 rfl rfl 1 (by decide) (hts (.fieldLink RJ5 22 "java/lang/AbstractStringBuilder" "coder" "B") (List.mem_of_getElem? (i := 2) (by decide +kernel))) (fun _ h9 => h9) rfl dJ5_newCapacity_0f7a4_8 ?_
  refine lv_ishl hx hb dJ5_newCapacity_0f7a4_11 ?_
  refine kt_ (v := a1) (shl0_ _) ?_
  refine lv_istore_n (lv' := [(3, .int a1), (2, .int (nI capw)), (0, .ref h_B), (1, .int a1)]) hx hb dJ5_newCapacity_0f7a4_12 rfl hl (by decide) rfl (fun ls hl => ?_)
  refine lv_iload_n hx hb dJ5_newCapacity_0f7a4_13 rfl (lv_at hl 0 rfl) ?_
  refine lv_iload_n hx hb dJ5_newCapacity_0f7a4_14 rfl (lv_at hl 1 rfl) ?_
  refine lv_isub hx hb dJ5_newCapacity_0f7a4_15 ?_
  refine lv_istore (lv' := [(4, .int (a1 - (nI capw))), (3, .int a1), (2, .int (nI capw)), (0, .ref h_B), (1, .int a1)]) hx hb dJ5_newCapacity_0f7a4_16 hl (by decide) rfl (fun ls hl => ?_)
  refine lv_iload_n hx hb dJ5_newCapacity_0f7a4_18 rfl (lv_at hl 2 rfl) ?_
  refine lv_iload hx hb dJ5_newCapacity_0f7a4_19 (lv_at hl 0 rfl) ?_
  refine lv_iload_n hx hb dJ5_newCapacity_0f7a4_21 rfl (lv_at hl 2 rfl) ?_
  refine lv_iconst (v := 2) hx hb dJ5_newCapacity_0f7a4_22 (by decide) ?_
  refine lv_aload_n hx hb dJ5_newCapacity_0f7a4_23 rfl (lv_at hl 3 rfl) ?_
  refine va_get (D := D) (ci := 1) (v := .int 0) (own := RJ5) (C := RJ4) (T := TJ4) (N := 4) hx hb hts hi_J4 hown hK hP 1 rfl rfl 1 (by decide) (hts (.fieldLink RJ5 22 "java/lang/AbstractStringBuilder" "coder" "B") (List.mem_of_getElem? (i := 2) (by decide +kernel))) (fun _ h9 => h9) rfl dJ5_newCapacity_0f7a4_24 ?_
  refine lv_ishl hx hb dJ5_newCapacity_0f7a4_27 ?_
  refine kt_ (v := 2) (by decide +kernel) ?_
  refine lv_iadd hx hb dJ5_newCapacity_0f7a4_28 ?_
  obtain ⟨y9, hy9⟩ : ∃ y9, (F_J8_newLength_cabcc (nI capw) (a1 - (nI capw)) ((nI capw) + 2)) = y9 := ⟨_, rfl⟩
  have hcon := (c_J8_newLength_cabcc l hl0 D ad H.size (nI capw) (a1 - (nI capw)) ((nI capw) + 2) (by have z1 := hy4; have z2 := hy5; have z3 := hy6; have z4 := hy7; have q67 := nI_toInt (n := capw) (by omega); have w0 := nI_toInt (n := capw) (by omega); omega) (by have z1 := hy4; have z2 := hy5; have z3 := hy6; have z4 := hy7; have q68 := nI_toInt (n := capw) (by omega); have w0 := nI_toInt (n := capw) (by omega); omega) (by have z1 := hy4; have z2 := hy5; have z3 := hy6; have z4 := hy7; have b70 := Int32.toInt_lt (a1); have d70 := Int32.le_toInt (a1); have q71 := nI_toInt (n := capw) (by omega); have q69 := subI (a := a1) (b := (nI capw)) (by omega) (by omega); have w0 := nI_toInt (n := capw) (by omega); omega) (by have z1 := hy4; have z2 := hy5; have z3 := hy6; have z4 := hy7; have b73 := Int32.toInt_lt (a1); have d73 := Int32.le_toInt (a1); have q74 := nI_toInt (n := capw) (by omega); have q72 := subI (a := a1) (b := (nI capw)) (by omega) (by omega); have w0 := nI_toInt (n := capw) (by omega); omega) (by have z1 := hy4; have z2 := hy5; have z3 := hy6; have z4 := hy7; have q76 := nI_toInt (n := capw) (by omega); have l77 : (2 : Int32).toInt = 2 := (by decide +kernel); have q75 := addI (a := (nI capw)) (b := 2) (by omega) (by omega); have w0 := nI_toInt (n := capw) (by omega); omega) (by have z1 := hy4; have z2 := hy5; have z3 := hy6; have z4 := hy7; have q79 := nI_toInt (n := capw) (by omega); have l80 : (2 : Int32).toInt = 2 := (by decide +kernel); have q78 := addI (a := (nI capw)) (b := 2) (by omega) (by omega); have w0 := nI_toInt (n := capw) (by omega); omega))
  rw [hy9] at hcon
  refine kr_ (va_runS (As := [.int (nI capw), .int (a1 - (nI capw)), .int ((nI capw) + 2)]) (rest := []) ⟨hx, hb, hml, hown, hts⟩ hcon (va_cwS 3 hts gJ5_newCapacity_0f7a4_J8_newLength_cabcc rfl rfl rfl (by decide +kernel) ⟨Nat.le_of_ble_eq_true rfl, Nat.le_of_ble_eq_true rfl⟩) ⟨PR_.blind, PR_.pre hF hK (hP.sub [] rfl) hS hA [] rfl⟩ rfl rfl hl.1 rfl (lv_room (Nat.le_of_ble_eq_true rfl)) dJ5_newCapacity_0f7a4_29 ⟨(Nat.le_of_ble_eq_true rfl), (Nat.le_of_ble_eq_true rfl)⟩) hP hS hA (fun H locs hP hS => ?_)
  subst hy9
  refine W.eq (g2 := F0 m 32 ls [.int (F_J8_newLength_cabcc (nI capw) (a1 - (nI capw)) ((nI capw) + 2))]) rfl ?_
  refine lv_istore (lv' := [(5, .int (F_J8_newLength_cabcc (nI capw) (a1 - (nI capw)) ((nI capw) + 2))), (4, .int (a1 - (nI capw))), (3, .int a1), (2, .int (nI capw)), (0, .ref h_B), (1, .int a1)]) hx hb dJ5_newCapacity_0f7a4_32 hl (by decide) rfl (fun ls hl => ?_)
  refine lv_iload hx hb dJ5_newCapacity_0f7a4_34 (lv_at hl 0 rfl) ?_
  refine lv_ldc (own := RJ5) hx hb hown (hts (.constant RJ5 39 (2147483647)) (List.mem_of_getElem? (i := 3) (by decide +kernel))) dJ5_newCapacity_0f7a4_36 ?_
  refine lv_icmp_ne (tgt := 51) hx hb dJ5_newCapacity_0f7a4_38 (by decide) (fun c_2 => ?_) (fun c9 => False.elim (by have z1 := hy4; have z2 := hy5; have z3 := hy6; have z4 := hy7; have u81 := nI_toInt (n := capw) (by omega); have q82 := nI_toInt (n := capw) (by omega); have b84 := Int32.toInt_lt (a1); have d84 := Int32.le_toInt (a1); have q85 := nI_toInt (n := capw) (by omega); have q83 := subI (a := a1) (b := (nI capw)) (by omega) (by omega); have q87 := nI_toInt (n := capw) (by omega); have l88 : (2 : Int32).toInt = 2 := (by decide +kernel); have q86 := addI (a := (nI capw)) (b := 2) (by omega) (by omega); have rnl := R_J8_newLength (nI capw) (a1 - (nI capw)) ((nI capw) + 2) (by omega) (by omega) (by omega) (by omega) (by omega) (by omega); have w0 := nI_toInt (n := capw) (by omega); have y9 := f_eq c9; have l2147483647 : (2147483647 : Int32).toInt = 2147483647 := (by decide +kernel); omega))
  refine lv_iload hx hb dJ5_newCapacity_0f7a4_51 (lv_at hl 0 rfl) ?_
  refine lv_aload_n hx hb dJ5_newCapacity_0f7a4_53 rfl (lv_at hl 4 rfl) ?_
  refine va_get (D := D) (ci := 1) (v := .int 0) (own := RJ5) (C := RJ4) (T := TJ4) (N := 4) hx hb hts hi_J4 hown hK hP 1 rfl rfl 1 (by decide) (hts (.fieldLink RJ5 22 "java/lang/AbstractStringBuilder" "coder" "B") (List.mem_of_getElem? (i := 2) (by decide +kernel))) (fun _ h9 => h9) rfl dJ5_newCapacity_0f7a4_54 ?_
  refine lv_ishr hx hb dJ5_newCapacity_0f7a4_57 ?_
  refine kt_ (v := (F_J8_newLength_cabcc (nI capw) (a1 - (nI capw)) ((nI capw) + 2))) (shr0_ _) ?_
  refine W.widen (k := 0) (n := 0) (Nat.le_of_ble_eq_true rfl) (Nat.le_of_ble_eq_true rfl) ?_
  exact W.iret (v := (F_J8_newLength_cabcc (nI capw) (a1 - (nI capw)) ((nI capw) + 2))) hx hb hr (QR_.mk hS (by rw [hM])) hS.2.2 dJ5_newCapacity_0f7a4_58
