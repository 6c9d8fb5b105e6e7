def F_J3_checkIndex_8e157_refbf (a1 : Int32) : Int32 := a1
set_option maxHeartbeats 4000000 in
set_option maxRecDepth 100000 in
theorem c_J3_checkIndex_8e157_refbf (l : Launch) (hl0 : l.stackTraces = false) (D : va_G) (ad : Nat → Nat) (sz : Nat) (a1 : Int32) (a2 : Int32) (bf2 : Nat) (hy0 : 0 ≤ a1.toInt) (hy1 : a1.toInt < a2.toInt) : Met l yJ3_checkIndex_8e157 wsJ3_checkIndex_8e157 ({ frames := 0, cells := 0, slots := 0, locals := 0 }) (PR_ D ad [] [] sz [.int a1, .int a2, .ref bf2]) (QR_ (.int (F_J3_checkIndex_8e157_refbf a1)) (va_A [] sz)) 0 0 (va_A [] sz) := by
  refine Met.ofW (cc := cJ3_checkIndex_8e157) (maxL := 3) (ret := (some .int)) (by decide) rfl ?_
  intro p e s m args below meth c s₁ B hml hv
  obtain ⟨rfl, hsz, hP, hK, hF⟩ := hv
  have hx := B.exec
  have hb := B.bytes
  have hr := B.returns
  have hts := atoms_spec (ws := wsJ3_checkIndex_8e157) B.pre
  have hown : s.vm.findClass RJ3 = some m.cls := findClass_of_methodNamed B.named
  have hlocks := B.notSynchronized
  subst hsz
  generalize hAe : va_A [] s.heap.size = A at hF ⊢
  have hA : ∀ q : Nat, s.heap.size ≤ q → A q := fun q h => by rw [← hAe]; exact Or.inr h
  obtain ⟨H, hHe⟩ : ∃ H : Heap, H = s.heap := ⟨_, rfl⟩
  have hS : va_S A s.heap H [] := by rw [hHe]; exact va_S.rf
  have hP : va_P D vwCl [] H := by rw [hHe]; exact hP
  rw [← hHe]
  have hl := lv_entry [.int a1, .int a2, .ref bf2] (n := 3) (Nat.le_of_ble_eq_true rfl)
  rw [lg_entry_eq]
  generalize (lg_sl [.int a1, .int a2, .ref bf2] ++ List.replicate (3 - (lg_sl [.int a1, .int a2, .ref bf2]).length) Slot.unset).toArray = ls at hl ⊢
  have hl : lv_has ls 3 [(0, .int a1), (1, .int a2), (2, .ref bf2)] := hl
  have hM : F_J3_checkIndex_8e157_refbf a1 = a1 := rfl
  refine lv_iload_n hx hb dJ3_checkIndex_8e157_0 rfl (lv_at hl 0 rfl) ?_
  refine lv_if_lt (tgt := 9) hx hb dJ3_checkIndex_8e157_1 (by decide) (fun c9 => False.elim (by have z0 := hy0; have z1 := hy1; have y9 := f_lt c9; have l0 : (0 : Int32).toInt = 0 := (by decide +kernel); omega)) (fun c_1 => ?_)
  refine lv_iload_n hx hb dJ3_checkIndex_8e157_4 rfl (lv_at hl 0 rfl) ?_
  refine lv_iload_n hx hb dJ3_checkIndex_8e157_5 rfl (lv_at hl 1 rfl) ?_
  refine lv_icmp_lt (tgt := 16) hx hb dJ3_checkIndex_8e157_6 (by decide) (fun c_2 => ?_) (fun c9 => False.elim (by have y0 := f_nlt c_1; have z0 := hy0; have z1 := hy1; have e_0 : (0 : Int32).toInt = 0 := (by decide +kernel); have y9 := f_nlt c9; omega))
  refine lv_iload_n hx hb dJ3_checkIndex_8e157_16 rfl (lv_at hl 0 rfl) ?_
  refine W.widen (k := 0) (n := 0) (Nat.le_of_ble_eq_true rfl) (Nat.le_of_ble_eq_true rfl) ?_
  exact W.iret (v := a1) hx hb hr (QR_.mk hS (by rw [hM])) hS.2.2 dJ3_checkIndex_8e157_17
def F_J0_checkIndex_df160  : Unit := ()
set_option maxHeartbeats 4000000 in
set_option maxRecDepth 100000 in
theorem c_J0_checkIndex_df160 (l : Launch) (hl0 : l.stackTraces = false) (D : va_G) (ad : Nat → Nat) (sz : Nat) (a1 : Int32) (a2 : Int32) (hy0 : 0 ≤ a1.toInt) (hy1 : a1.toInt < a2.toInt) : Met l yJ0_checkIndex_df160 wsJ0_checkIndex_df160 ({ frames := 1, cells := 0, slots := 0, locals := 24 }) (PR_ D ad [] [] sz [.int a1, .int a2]) (QRv_ (va_A [] sz)) 0 0 (va_A [] sz) := by
  refine Met.ofW (cc := cJ0_checkIndex_df160) (maxL := 2) (ret := none) (by decide) rfl ?_
  intro p e s m args below meth c s₁ B hml hv
  obtain ⟨rfl, hsz, hP, hK, hF⟩ := hv
  have hx := B.exec
  have hb := B.bytes
  have hr := B.returns
  have hts := atoms_spec (ws := wsJ0_checkIndex_df160) B.pre
  have hown : s.vm.findClass RJ0 = some m.cls := findClass_of_methodNamed B.named
  have hlocks := B.notSynchronized
  subst hsz
  generalize hAe : va_A [] s.heap.size = A at hF ⊢
  have hA : ∀ q : Nat, s.heap.size ≤ q → A q := fun q h => by rw [← hAe]; exact Or.inr h
  obtain ⟨H, hHe⟩ : ∃ H : Heap, H = s.heap := ⟨_, rfl⟩
  have hS : va_S A s.heap H [] := by rw [hHe]; exact va_S.rf
  have hP : va_P D vwCl [] H := by rw [hHe]; exact hP
  rw [← hHe]
  have hl := lv_entry [.int a1, .int a2] (n := 2) (Nat.le_of_ble_eq_true rfl)
  rw [lg_entry_eq]
  generalize (lg_sl [.int a1, .int a2] ++ List.replicate (2 - (lg_sl [.int a1, .int a2]).length) Slot.unset).toArray = ls at hl ⊢
  have hl : lv_has ls 2 [(0, .int a1), (1, .int a2)] := hl
  have hM : F_J0_checkIndex_df160 = () := rfl
  refine lv_iload_n hx hb dJ0_checkIndex_df160_0 rfl (lv_at hl 0 rfl) ?_
  refine lv_iload_n hx hb dJ0_checkIndex_df160_1 rfl (lv_at hl 1 rfl) ?_
  rcases fxsi_ hF with hz9 | ⟨x9, hz9⟩
  · refine va_gets (C := "jdk/internal/util/Preconditions") (n := "SIOOBE_FORMATTER") (d := "Ljava/util/function/BiFunction;") (own := RJ0) (ref := "jdk/internal/util/Preconditions") (v := .null) hx hb hz9 hS hown (hts (.fieldLink RJ0 1053 "jdk/internal/util/Preconditions" "SIOOBE_FORMATTER" "Ljava/util/function/BiFunction;") (List.mem_of_getElem? (i := 1) (by decide +kernel))) (fun _ h9 => h9) dJ0_checkIndex_df160_2 ?_
    obtain ⟨y9, hy9⟩ : ∃ y9, (F_J3_checkIndex_8e157 a1) = y9 := ⟨_, rfl⟩
    have hcon := (c_J3_checkIndex_8e157 l hl0 D ad H.size a1 a2 (by have z0 := hy0; have z1 := hy1; omega) (by have z0 := hy0; have z1 := hy1; omega))
    rw [hy9] at hcon
    refine kr_ (va_runS (As := [.int a1, .int a2, .null]) (rest := []) ⟨hx, hb, hml, hown, hts⟩ hcon (va_cwS 3 hts gJ0_checkIndex_df160_J3_checkIndex_8e157 rfl rfl rfl (by decide +kernel) ⟨Nat.le_of_ble_eq_true rfl, Nat.le_of_ble_eq_true rfl⟩) ⟨PR_.blind, PR_.pre hF hK (hP.sub [] rfl) hS hA [] rfl⟩ rfl rfl hl.1 rfl (lv_room (Nat.le_of_ble_eq_true rfl)) dJ0_checkIndex_df160_5 ⟨(Nat.le_of_ble_eq_true rfl), (Nat.le_of_ble_eq_true rfl)⟩) hP hS hA (fun H locs hP hS => ?_)
    subst hy9
    refine W.eq (g2 := F0 m 8 ls [.int (F_J3_checkIndex_8e157 a1)]) rfl ?_
    refine lv_pop hx hb dJ0_checkIndex_df160_8 rfl ?_
    refine W.widen (k := 0) (n := 0) (Nat.le_of_ble_eq_true rfl) (Nat.le_of_ble_eq_true rfl) ?_
    exact W.vret hx hb hr (QRv_.mk hS) hS.2.2 dJ0_checkIndex_df160_9
  · refine va_gets (C := "jdk/internal/util/Preconditions") (n := "SIOOBE_FORMATTER") (d := "Ljava/util/function/BiFunction;") (own := RJ0) (ref := "jdk/internal/util/Preconditions") (v := .ref x9) hx hb hz9 hS hown (hts (.fieldLink RJ0 1053 "jdk/internal/util/Preconditions" "SIOOBE_FORMATTER" "Ljava/util/function/BiFunction;") (List.mem_of_getElem? (i := 1) (by decide +kernel))) (fun _ h9 => h9) dJ0_checkIndex_df160_2 ?_
    obtain ⟨y9, hy9⟩ : ∃ y9, (F_J3_checkIndex_8e157_refbf a1) = y9 := ⟨_, rfl⟩
    have hcon := (c_J3_checkIndex_8e157_refbf l hl0 D ad H.size a1 a2 x9 (by have z0 := hy0; have z1 := hy1; omega) (by have z0 := hy0; have z1 := hy1; omega))
    rw [hy9] at hcon
    refine kr_ (va_runS (As := [.int a1, .int a2, .ref x9]) (rest := []) ⟨hx, hb, hml, hown, hts⟩ hcon (va_cwS 3 hts gJ0_checkIndex_df160_J3_checkIndex_8e157 rfl rfl rfl (by decide +kernel) ⟨Nat.le_of_ble_eq_true rfl, Nat.le_of_ble_eq_true rfl⟩) ⟨PR_.blind, PR_.pre hF hK (hP.sub [] rfl) hS hA [] rfl⟩ rfl rfl hl.1 rfl (lv_room (Nat.le_of_ble_eq_true rfl)) dJ0_checkIndex_df160_5 ⟨(Nat.le_of_ble_eq_true rfl), (Nat.le_of_ble_eq_true rfl)⟩) hP hS hA (fun H locs hP hS => ?_)
    subst hy9
    refine W.eq (g2 := F0 m 8 ls [.int (F_J3_checkIndex_8e157_refbf a1)]) rfl ?_
    refine lv_pop hx hb dJ0_checkIndex_df160_8 rfl ?_
    refine W.widen (k := 0) (n := 0) (Nat.le_of_ble_eq_true rfl) (Nat.le_of_ble_eq_true rfl) ?_
    exact W.vret hx hb hr (QRv_.mk hS) hS.2.2 dJ0_checkIndex_df160_9
def F_J5_charAt_5068e (wb : Nat → Int32) (a1 : Int32) : Int32 := (ci_ ((wb (ix a1)) &&& 255))
set_option maxHeartbeats 4000000 in
set_option maxRecDepth 100000 in
theorem c_J5_charAt_5068e (l : Launch) (hl0 : l.stackTraces = false) (D : va_G) (ad : Nat → Nat) (sz : Nat) (h_wb : Nat) (h_B : Nat) (k_wb : ClassId) (h_B_2 : Value) (capw : Nat) (wb : Nat → Int32) (wn : Int32) (a1 : Int32) (hy0 : sb_Fit wb) (hy1 : 0 ≤ wn.toInt) (hy2 : wn.toInt ≤ capw) (hy3 : wn.toInt ≤ 5000) (hy4 : capw ≤ 20000) (hy5 : 16 ≤ capw) (hy6 : 0 ≤ a1.toInt) (hy7 : a1.toInt < wn.toInt) : Met l yJ5_charAt_5068e wsJ5_charAt_5068e ({ frames := 2, cells := 0, slots := 0, locals := 47 }) (PR_ D ad [(h_wb, .inl (k_wb, capw, .inl wb)), (h_B, .inr (1, [.ref h_wb, .int 0, h_B_2, .int wn]))] [(k_wb, .byte)] sz [.ref h_B, .int a1]) (QR_ (.int (F_J5_charAt_5068e wb a1)) (va_A [] sz)) 0 0 (va_A [] sz) := by
  refine Met.ofW (cc := cJ5_charAt_5068e) (maxL := 5) (ret := (some .char)) (by decide) rfl ?_
  intro p e s m args below meth c s₁ B hml hv
  obtain ⟨rfl, hsz, hP, hK, hF⟩ := hv
  have hx := B.exec
  have hb := B.bytes
  have hr := B.returns
  have hts := atoms_spec (ws := wsJ5_charAt_5068e) B.pre
  have hown : s.vm.findClass RJ5 = some m.cls := findClass_of_methodNamed B.named
  have hlocks := B.notSynchronized
  subst hsz
  generalize hAe : va_A [] s.heap.size = A at hF ⊢
  have hA : ∀ q : Nat, s.heap.size ≤ q → A q := fun q h => by rw [← hAe]; exact Or.inr h
  obtain ⟨H, hHe⟩ : ∃ H : Heap, H = s.heap := ⟨_, rfl⟩
  have hS : va_S A s.heap H [] := by rw [hHe]; exact va_S.rf
  have hP : va_P D vwCl [(h_wb, .inl (k_wb, capw, .inl wb)), (h_B, .inr (1, [.ref h_wb, .int 0, h_B_2, .int wn]))] H := by rw [hHe]; exact hP
  rw [← hHe]
  have hi_J4 : ∀ w ∈ wsJ40, w ∈ wsJ5_charAt_5068e := by decide +kernel
  have hl := lv_entry [.ref h_B, .int a1] (n := 5) (Nat.le_of_ble_eq_true rfl)
  rw [lg_entry_eq]
  generalize (lg_sl [.ref h_B, .int a1] ++ List.replicate (5 - (lg_sl [.ref h_B, .int a1]).length) Slot.unset).toArray = ls at hl ⊢
  have hl : lv_has ls 5 [(0, .ref h_B), (1, .int a1)] := hl
  have hM : F_J5_charAt_5068e wb a1 = (ci_ ((wb (ix a1)) &&& 255)) := rfl
  refine lv_aload_n hx hb dJ5_charAt_5068e_0 rfl (lv_at hl 0 rfl) ?_
  refine va_get (D := D) (ci := 1) (v := .int 0) (own := RJ5) (C := RJ4) (T := TJ4) (N := 4) hx hb hts hi_J4 hown hK hP 1 rfl rfl 1 (by decide) (hts (.fieldLink RJ5 22 "java/lang/AbstractStringBuilder" "coder" "B") (List.mem_of_getElem? (i := 1) (by decide +kernel))) (fun _ h9 => h9) rfl dJ5_charAt_5068e_1 ?_
  refine lv_istore_n (lv' := [(2, .int 0), (0, .ref h_B), (1, .int a1)]) hx hb dJ5_charAt_5068e_4 rfl hl (by decide) rfl (fun ls hl => ?_)
  refine lv_aload_n hx hb dJ5_charAt_5068e_5 rfl (lv_at hl 1 rfl) ?_
  refine va_get (D := D) (ci := 1) (v := .ref h_wb) (own := RJ5) (C := RJ4) (T := TJ4) (N := 4) hx hb hts hi_J4 hown hK hP 1 rfl rfl 0 (by decide) (hts (.fieldLink RJ5 15 "java/lang/AbstractStringBuilder" "value" "[B") (List.mem_of_getElem? (i := 2) (by decide +kernel))) (fun _ h9 => h9) rfl dJ5_charAt_5068e_6 ?_
  refine lv_astore_n (lv' := [(3, .ref h_wb), (2, .int 0), (0, .ref h_B), (1, .int a1)]) hx hb dJ5_charAt_5068e_9 rfl hl (by decide) rfl (fun ls hl => ?_)
  refine lv_aload_n hx hb dJ5_charAt_5068e_10 rfl (lv_at hl 2 rfl) ?_
  refine va_get (D := D) (ci := 1) (v := .int wn) (own := RJ5) (C := RJ4) (T := TJ4) (N := 4) hx hb hts hi_J4 hown hK hP 1 rfl rfl 3 (by decide) (hts (.fieldLink RJ5 79 "java/lang/AbstractStringBuilder" "count" "I") (List.mem_of_getElem? (i := 3) (by decide +kernel))) (fun _ h9 => h9) rfl dJ5_charAt_5068e_11 ?_
  refine lv_aload_n hx hb dJ5_charAt_5068e_14 rfl (lv_at hl 0 rfl) ?_
  refine va_alen (v := (nI capw)) hx hb hK hP 0 0 rfl rfl rfl dJ5_charAt_5068e_15 ?_
  refine lv_iload_n hx hb dJ5_charAt_5068e_16 rfl (lv_at hl 1 rfl) ?_
  refine lv_ishr hx hb dJ5_charAt_5068e_17 ?_
  refine kt_ (v := (nI capw)) (shr0_ _) ?_
  refine va_mmin (own := RJ5) hx hb (by rw [hml]; exact hl.1.symm) hown (hts (.methodLink RJ5 138 Lib.Math.min.name) (List.mem_of_getElem? (i := 4) (by decide +kernel))) (hts (.static Lib.Math.min.name) (List.mem_of_getElem? (i := 5) (by decide +kernel))) (hts (.initialized "java/lang/Math") (List.mem_of_getElem? (i := 6) (by decide +kernel))) (hts (.code Lib.Math.min.name Lib.Math.min.code 2 (some .int)) (List.mem_of_getElem? (i := 7) (by decide +kernel))) (Nat.le_of_ble_eq_true rfl) (Nat.le_of_ble_eq_true rfl) (Nat.le_of_ble_eq_true rfl) (Nat.le_of_ble_eq_true rfl) dJ5_charAt_5068e_18 ?_
  refine kt_ (v := (inI wn (nI capw))) rfl ?_
  refine lv_istore (lv' := [(4, .int (inI wn (nI capw))), (3, .ref h_wb), (2, .int 0), (0, .ref h_B), (1, .int a1)]) hx hb dJ5_charAt_5068e_21 hl (by decide) rfl (fun ls hl => ?_)
  refine lv_iload_n hx hb dJ5_charAt_5068e_23 rfl (lv_at hl 4 rfl) ?_
  refine lv_iload hx hb dJ5_charAt_5068e_24 (lv_at hl 0 rfl) ?_
  refine krv_ (va_runS (As := [.int a1, .int (inI wn (nI capw))]) (rest := []) ⟨hx, hb, hml, hown, hts⟩ (c_J0_checkIndex_df160 l hl0 D ad H.size a1 (inI wn (nI capw)) (by have z1 := hy1; have z2 := hy2; have z3 := hy3; have z4 := hy4; have z5 := hy5; have z6 := hy6; have z7 := hy7; omega) (by have z1 := hy1; have z2 := hy2; have z3 := hy3; have z4 := hy4; have z5 := hy5; have z6 := hy6; have z7 := hy7; have q10 := nI_toInt (n := capw) (by omega); have rin := inI_r wn (nI capw); have b11 := Int32.toInt_lt (inI wn (nI capw)); have d11 := Int32.le_toInt (inI wn (nI capw)); have w0 := nI_toInt (n := capw) (by omega); omega)) (va_cwS 2 hts gJ5_charAt_5068e_J0_checkIndex_df160 rfl rfl rfl (by decide +kernel) ⟨Nat.le_of_ble_eq_true rfl, Nat.le_of_ble_eq_true rfl⟩) ⟨PR_.blind, PR_.pre hF hK (hP.sub [] rfl) hS hA [] rfl⟩ rfl rfl hl.1 rfl (lv_room (Nat.le_of_ble_eq_true rfl)) dJ5_charAt_5068e_26 ⟨(Nat.le_of_ble_eq_true rfl), (Nat.le_of_ble_eq_true rfl)⟩) hP hS hA (fun H locs hP hS => ?_)
  refine W.eq (g2 := F0 m 29 ls []) rfl ?_
  refine lv_iload_n hx hb dJ5_charAt_5068e_29 rfl (lv_at hl 2 rfl) ?_
  refine lv_if_ne (tgt := 42) hx hb dJ5_charAt_5068e_30 (by decide) (fun c9 => absurd (by decide +kernel) c9) (fun _ => ?_)
  refine lv_aload_n hx hb dJ5_charAt_5068e_33 rfl (lv_at hl 1 rfl) ?_
  refine lv_iload_n hx hb dJ5_charAt_5068e_34 rfl (lv_at hl 4 rfl) ?_
  refine va_bald hx hb hK hP 0 0 rfl rfl (vinI (by have z1 := hy1; have z2 := hy2; have z3 := hy3; have z4 := hy4; have z5 := hy5; have z6 := hy6; have z7 := hy7; have b12 := Int32.toInt_lt (a1); have d12 := Int32.le_toInt (a1); omega) (by have z1 := hy1; have z2 := hy2; have z3 := hy3; have z4 := hy4; have z5 := hy5; have z6 := hy6; have z7 := hy7; have b12 := Int32.toInt_lt (a1); have d12 := Int32.le_toInt (a1); omega)) dJ5_charAt_5068e_35 ?_
  refine kt_ (v := (wb (ix a1))) rfl ?_
  refine lv_sipush (v := 255) hx hb dJ5_charAt_5068e_36 (by decide +kernel) ?_
  refine lv_iand hx hb dJ5_charAt_5068e_39 ?_
  refine lv_i2c (v := (ci_ ((wb (ix a1)) &&& 255))) hx hb dJ5_charAt_5068e_40 rfl ?_
  refine W.widen (k := 0) (n := 0) (Nat.le_of_ble_eq_true rfl) (Nat.le_of_ble_eq_true rfl) ?_
  exact W.zret (v := (ci_ ((wb (ix a1)) &&& 255))) hx hb hr (ci_narr _) (QR_.mk hS (by rw [hM])) hS.2.2 dJ5_charAt_5068e_41
def F_J4_charAt_5068e (wb : Nat → Int32) (a1 : Int32) : Int32 := (F_J5_charAt_5068e wb a1)
set_option maxHeartbeats 4000000 in
set_option maxRecDepth 100000 in
theorem c_J4_charAt_5068e (l : Launch) (hl0 : l.stackTraces = false) (D : va_G) (ad : Nat → Nat) (sz : Nat) (h_wb : Nat) (h_B : Nat) (k_wb : ClassId) (h_B_2 : Value) (capw : Nat) (wb : Nat → Int32) (wn : Int32) (a1 : Int32) (hy0 : sb_Fit wb) (hy1 : 0 ≤ wn.toInt) (hy2 : wn.toInt ≤ capw) (hy3 : wn.toInt ≤ 5000) (hy4 : capw ≤ 20000) (hy5 : 16 ≤ capw) (hy6 : 0 ≤ a1.toInt) (hy7 : a1.toInt < wn.toInt) : Met l yJ4_charAt_5068e wsJ4_charAt_5068e ({ frames := 3, cells := 0, slots := 0, locals := 73 }) (PR_ D ad [(h_wb, .inl (k_wb, capw, .inl wb)), (h_B, .inr (1, [.ref h_wb, .int 0, h_B_2, .int wn]))] [(k_wb, .byte)] sz [.ref h_B, .int a1]) (QR_ (.int (F_J4_charAt_5068e wb a1)) (va_A [] sz)) 0 0 (va_A [] sz) := by
  refine Met.ofW (cc := cJ4_charAt_5068e) (maxL := 2) (ret := (some .char)) (by decide) rfl ?_
  intro p e s m args below meth c s₁ B hml hv
  obtain ⟨rfl, hsz, hP, hK, hF⟩ := hv
  have hx := B.exec
  have hb := B.bytes
  have hr := B.returns
  have hts := atoms_spec (ws := wsJ4_charAt_5068e) B.pre
  have hown : s.vm.findClass RJ4 = some m.cls := findClass_of_methodNamed B.named
  have hlocks := B.notSynchronized
  subst hsz
  generalize hAe : va_A [] s.heap.size = A at hF ⊢
  have hA : ∀ q : Nat, s.heap.size ≤ q → A q := fun q h => by rw [← hAe]; exact Or.inr h
  obtain ⟨H, hHe⟩ : ∃ H : Heap, H = s.heap := ⟨_, rfl⟩
  have hS : va_S A s.heap H [] := by rw [hHe]; exact va_S.rf
  have hP : va_P D vwCl [(h_wb, .inl (k_wb, capw, .inl wb)), (h_B, .inr (1, [.ref h_wb, .int 0, h_B_2, .int wn]))] H := by rw [hHe]; exact hP
  rw [← hHe]
  have hl := lv_entry [.ref h_B, .int a1] (n := 2) (Nat.le_of_ble_eq_true rfl)
  rw [lg_entry_eq]
  generalize (lg_sl [.ref h_B, .int a1] ++ List.replicate (2 - (lg_sl [.ref h_B, .int a1]).length) Slot.unset).toArray = ls at hl ⊢
  have hl : lv_has ls 2 [(0, .ref h_B), (1, .int a1)] := hl
  have hM : F_J4_charAt_5068e wb a1 = (F_J5_charAt_5068e wb a1) := rfl
  refine lv_aload_n hx hb dJ4_charAt_5068e_0 rfl (lv_at hl 0 rfl) ?_
  refine lv_iload_n hx hb dJ4_charAt_5068e_1 rfl (lv_at hl 1 rfl) ?_
  obtain ⟨y9, hy9⟩ : ∃ y9, (F_J5_charAt_5068e wb a1) = y9 := ⟨_, rfl⟩
  have hcon := (c_J5_charAt_5068e l hl0 D ad H.size h_wb h_B k_wb (h_B_2) capw wb wn a1 hy0 (by have z1 := hy1; have z2 := hy2; have z3 := hy3; have z4 := hy4; have z5 := hy5; have z6 := hy6; have z7 := hy7; omega) (by have z1 := hy1; have z2 := hy2; have z3 := hy3; have z4 := hy4; have z5 := hy5; have z6 := hy6; have z7 := hy7; omega) (by have z1 := hy1; have z2 := hy2; have z3 := hy3; have z4 := hy4; have z5 := hy5; have z6 := hy6; have z7 := hy7; omega) (by have z1 := hy1; have z2 := hy2; have z3 := hy3; have z4 := hy4; have z5 := hy5; have z6 := hy6; have z7 := hy7; omega) (by have z1 := hy1; have z2 := hy2; have z3 := hy3; have z4 := hy4; have z5 := hy5; have z6 := hy6; have z7 := hy7; omega) (by have z1 := hy1; have z2 := hy2; have z3 := hy3; have z4 := hy4; have z5 := hy5; have z6 := hy6; have z7 := hy7; omega) (by have z1 := hy1; have z2 := hy2; have z3 := hy3; have z4 := hy4; have z5 := hy5; have z6 := hy6; have z7 := hy7; omega))
  rw [hy9] at hcon
  refine kr_ (va_runSU (hK.1 1 _ rfl).2 (As := [.int a1]) (rest := []) ⟨hx, hb, hml, hown, hts⟩ hcon (va_cwSU 1 hts gJ4_charAt_5068e_J5_charAt_5068e_s329 rfl rfl rfl (by decide +kernel) ⟨Nat.le_of_ble_eq_true rfl, Nat.le_of_ble_eq_true rfl⟩) ⟨PR_.blind, va_recv hK hP (ci := 1) (q0 := 1) rfl rfl, PR_.pre hF hK (hP.sub [0, 1] rfl) hS hA [0] rfl⟩ rfl rfl hl.1 rfl (lv_room (Nat.le_of_ble_eq_true rfl)) dJ4_charAt_5068e_2 ⟨(Nat.le_of_ble_eq_true rfl), (Nat.le_of_ble_eq_true rfl)⟩) hP hS hA (fun H locs hP hS => ?_)
  subst hy9
  refine W.eq (g2 := F0 m 5 ls [.int (F_J5_charAt_5068e wb a1)]) rfl ?_
  refine W.widen (k := 0) (n := 0) (Nat.le_of_ble_eq_true rfl) (Nat.le_of_ble_eq_true rfl) ?_
  exact W.zret (v := (F_J5_charAt_5068e wb a1)) hx hb hr (ci_narr _) (QR_.mk hS (by rw [hM])) hS.2.2 dJ4_charAt_5068e_5
def F_X10_character (wb : Nat → Int32) (wn : Int32) (a1 : Int32) : Nat × Int32 := (if a1 < 0 then (2, 0) else (if a1 < (F_J4_length_8abf5 wn) then (0, (F_J4_charAt_5068e wb a1)) else (2, 0)))
set_option maxHeartbeats 4000000 in
set_option maxRecDepth 100000 in
theorem c_X10_character (l : Launch) (hl0 : l.stackTraces = false) (D : va_G) (ad : Nat → Nat) (sz : Nat) (h_wb : Nat) (h_B : Nat) (h_M : Nat) (k_wb : ClassId) (h_B_2 : Value) (h_M_0 : Value) (h_M_1 : Value) (h_M_2 : Value) (h_M_3 : Value) (h_M_4 : Value) (h_M_5 : Value) (h_M_7 : Value) (h_M_8 : Value) (h_M_9 : Value) (capw : Nat) (wb : Nat → Int32) (wn : Int32) (a1 : Int32) (hy0 : sb_Fit wb) (hy1 : 0 ≤ wn.toInt) (hy2 : wn.toInt ≤ capw) (hy3 : wn.toInt ≤ 5000) (hy4 : capw ≤ 20000) (hy5 : 16 ≤ capw) : vx_Met l yX10_character wsX10_character ({ frames := 6, cells := 1, slots := 6, locals := 100 }) (PR_ D ad [(h_wb, .inl (k_wb, capw, .inl wb)), (h_B, .inr (1, [.ref h_wb, .int 0, h_B_2, .int wn])), (h_M, .inr (13, [h_M_0, h_M_1, h_M_2, h_M_3, h_M_4, h_M_5, .ref h_B, h_M_7, h_M_8, h_M_9]))] [(k_wb, .byte)] sz [.ref h_M, .int a1]) (QRs_ ((F_X10_character wb wn a1).1 = 0) (some (.int (F_X10_character wb wn a1).2)) (va_A [] sz)) (XR_ (fun E9 => (E9 = "java/lang/IndexOutOfBoundsException" ∧ (F_X10_character wb wn a1).1 = 2)) (va_A [] sz)) 1 6 (va_A [] sz) := by
  refine vx_ofW (cc := cX10_character) (maxL := 2) (ret := (some .char)) (by decide) rfl ?_
  intro p e s m args below meth c s₁ B hml htab hv
  obtain ⟨rfl, hsz, hP, hK, hF⟩ := hv
  have hx := B.exec
  have hb := B.bytes
  have hr := B.returns
  have hts := atoms_spec (ws := wsX10_character) B.pre
  have hown : s.vm.findClass RX10 = some m.cls := findClass_of_methodNamed B.named
  have hlocks := B.notSynchronized
  subst hsz
  generalize hAe : va_A [] s.heap.size = A at hF ⊢
  have hA : ∀ q : Nat, s.heap.size ≤ q → A q := fun q h => by rw [← hAe]; exact Or.inr h
  obtain ⟨H, hHe⟩ : ∃ H : Heap, H = s.heap := ⟨_, rfl⟩
  have hS : va_S A s.heap H [] := by rw [hHe]; exact va_S.rf
  have hP : va_P D vwCl [(h_wb, .inl (k_wb, capw, .inl wb)), (h_B, .inr (1, [.ref h_wb, .int 0, h_B_2, .int wn])), (h_M, .inr (13, [h_M_0, h_M_1, h_M_2, h_M_3, h_M_4, h_M_5, .ref h_B, h_M_7, h_M_8, h_M_9]))] H := by rw [hHe]; exact hP
  rw [← hHe]
  have hi_X10 : ∀ w ∈ wsX100, w ∈ wsX10_character := by decide +kernel
  have hl := lv_entry [.ref h_M, .int a1] (n := 2) (Nat.le_of_ble_eq_true rfl)
  rw [lg_entry_eq]
  generalize (lg_sl [.ref h_M, .int a1] ++ List.replicate (2 - (lg_sl [.ref h_M, .int a1]).length) Slot.unset).toArray = ls at hl ⊢
  have hl : lv_has ls 2 [(0, .ref h_M), (1, .int a1)] := hl
  have hM : F_X10_character wb wn a1 = (if a1 < 0 then (2, 0) else (if a1 < (F_J4_length_8abf5 wn) then (0, (F_J4_charAt_5068e wb a1)) else (2, 0))) := rfl
  refine lv_iload_n hx hb dX10_character_0 rfl (lv_at hl 1 rfl) ?_
  refine lv_if_lt (tgt := 15) hx hb dX10_character_1 (by decide) (fun c_1 => ?_) (fun c_1 => ?_)
  · rw [if_pos c_1] at hM
    obtain ⟨sa9, hstr⟩ := fxs_ hF RX10 343 "the line has no such index"
    exact vx_throwSW (own := RX10) (cls := "java/lang/IndexOutOfBoundsException") (names := ["java/lang/RuntimeException", "java/lang/Exception"]) hx hb hl0 hown (by decide +kernel) (by decide +kernel) (hts (.classLink RX10 341 "java/lang/IndexOutOfBoundsException") (List.mem_of_getElem? (i := 1) (by decide +kernel))) (hts (.initialized "java/lang/IndexOutOfBoundsException") (List.mem_of_getElem? (i := 2) (by decide +kernel))) hstr (fxw_ hts (by decide +kernel) (by decide +kernel) (fxb_ hF "java/lang/IndexOutOfBoundsException")) (by decide +kernel) hF.2.2.2.2.1 hF.2.2.2.2.2.1 hS (by rw [hml]; exact hl.1) dX10_character_15 dX10_character_18 dX10_character_19 dX10_character_22 dX10_character_25 (fun x9 hx9 => (htab x9 hx9).elim) (Nat.le_of_ble_eq_true rfl) (Nat.le_of_ble_eq_true rfl) (Nat.le_of_ble_eq_true rfl) (Nat.le_of_ble_eq_true rfl) hlocks (fun t9 _ hz9 hq9 => ⟨⟨rfl, (by rw [hM])⟩, xt_ hS hz9 hq9⟩) hS.2.2 (Nat.le_of_ble_eq_true rfl) (Nat.le_of_ble_eq_true rfl)
  · rw [if_neg c_1] at hM
    refine lv_iload_n hx hb dX10_character_4 rfl (lv_at hl 1 rfl) ?_
    refine lv_aload_n hx hb dX10_character_5 rfl (lv_at hl 0 rfl) ?_
    refine va_get (D := D) (ci := 13) (v := .ref h_B) (own := RX10) (C := RX10) (T := TX10) (N := 10) hx hb hts hi_X10 hown hK hP 2 rfl rfl 6 (by decide) (hts (.fieldLink RX10 26 "CanalMaps" "written" "Ljava/lang/StringBuilder;") (List.mem_of_getElem? (i := 3) (by decide +kernel))) (fun _ h9 => h9) rfl dX10_character_6 ?_
    obtain ⟨y9, hy9⟩ : ∃ y9, (F_J4_length_8abf5 wn) = y9 := ⟨_, rfl⟩
    have hcon := (c_J4_length_8abf5 l hl0 D ad H.size h_B (.ref h_wb) (.int 0) (h_B_2) wn (by have y0 := f_nlt c_1; have z1 := hy1; have z2 := hy2; have z3 := hy3; have z4 := hy4; have z5 := hy5; have e_0 : (0 : Int32).toInt = 0 := (by decide +kernel); omega) (by have y0 := f_nlt c_1; have z1 := hy1; have z2 := hy2; have z3 := hy3; have z4 := hy4; have z5 := hy5; have e_0 : (0 : Int32).toInt = 0 := (by decide +kernel); omega))
    rw [hy9] at hcon
    refine kr_ (va_runV (As := []) (rest := [.int a1]) ⟨hx, hb, hml, hown, hts⟩ hcon (cwV 0 hts gX10_character_J4_length_8abf5 rfl rfl rfl (by decide +kernel) ⟨Nat.le_of_ble_eq_true rfl, Nat.le_of_ble_eq_true rfl⟩) ⟨PR_.blind, va_recv hK hP (ci := 1) (q0 := 1) rfl rfl, PR_.pre hF hK (hP.sub [1] rfl) hS hA [] rfl⟩ rfl rfl hl.1 rfl (lv_room (Nat.le_of_ble_eq_true rfl)) dX10_character_9 ⟨(Nat.le_of_ble_eq_true rfl), (Nat.le_of_ble_eq_true rfl)⟩) hP hS hA (fun H locs hP hS => ?_)
    subst hy9
    refine W.eq (g2 := F0 m 12 ls [.int (F_J4_length_8abf5 wn), .int a1]) rfl ?_
    refine lv_icmp_lt (tgt := 26) hx hb dX10_character_12 (by decide) (fun c_3 => ?_) (fun c_3 => ?_)
    · rw [if_pos c_3] at hM
      refine lv_aload_n hx hb dX10_character_26 rfl (lv_at hl 0 rfl) ?_
      refine va_get (D := D) (ci := 13) (v := .ref h_B) (own := RX10) (C := RX10) (T := TX10) (N := 10) hx hb hts hi_X10 hown hK hP 2 rfl rfl 6 (by decide) (hts (.fieldLink RX10 26 "CanalMaps" "written" "Ljava/lang/StringBuilder;") (List.mem_of_getElem? (i := 3) (by decide +kernel))) (fun _ h9 => h9) rfl dX10_character_27 ?_
      refine lv_iload_n hx hb dX10_character_30 rfl (lv_at hl 1 rfl) ?_
      obtain ⟨y9, hy9⟩ : ∃ y9, (F_J4_charAt_5068e wb a1) = y9 := ⟨_, rfl⟩
      have hcon := (c_J4_charAt_5068e l hl0 D ad H.size h_wb h_B k_wb (h_B_2) capw wb wn a1 hy0 (by have y0 := f_nlt c_1; have y1 := f_lt c_3; have z1 := hy1; have z2 := hy2; have z3 := hy3; have z4 := hy4; have z5 := hy5; have e_0 : (0 : Int32).toInt = 0 := (by decide +kernel); have rjl : (F_J4_length_8abf5 wn).toInt = (wn : Int32).toInt := rfl; omega) (by have y0 := f_nlt c_1; have y1 := f_lt c_3; have z1 := hy1; have z2 := hy2; have z3 := hy3; have z4 := hy4; have z5 := hy5; have e_0 : (0 : Int32).toInt = 0 := (by decide +kernel); have rjl : (F_J4_length_8abf5 wn).toInt = (wn : Int32).toInt := rfl; omega) (by have y0 := f_nlt c_1; have y1 := f_lt c_3; have z1 := hy1; have z2 := hy2; have z3 := hy3; have z4 := hy4; have z5 := hy5; have e_0 : (0 : Int32).toInt = 0 := (by decide +kernel); have rjl : (F_J4_length_8abf5 wn).toInt = (wn : Int32).toInt := rfl; omega) (by have y0 := f_nlt c_1; have y1 := f_lt c_3; have z1 := hy1; have z2 := hy2; have z3 := hy3; have z4 := hy4; have z5 := hy5; have e_0 : (0 : Int32).toInt = 0 := (by decide +kernel); have rjl : (F_J4_length_8abf5 wn).toInt = (wn : Int32).toInt := rfl; omega) (by have y0 := f_nlt c_1; have y1 := f_lt c_3; have z1 := hy1; have z2 := hy2; have z3 := hy3; have z4 := hy4; have z5 := hy5; have e_0 : (0 : Int32).toInt = 0 := (by decide +kernel); have rjl : (F_J4_length_8abf5 wn).toInt = (wn : Int32).toInt := rfl; omega) (by have y0 := f_nlt c_1; have y1 := f_lt c_3; have z1 := hy1; have z2 := hy2; have z3 := hy3; have z4 := hy4; have z5 := hy5; have e_0 : (0 : Int32).toInt = 0 := (by decide +kernel); have rjl : (F_J4_length_8abf5 wn).toInt = (wn : Int32).toInt := rfl; omega) (by have y0 := f_nlt c_1; have y1 := f_lt c_3; have z1 := hy1; have z2 := hy2; have z3 := hy3; have z4 := hy4; have z5 := hy5; have e_0 : (0 : Int32).toInt = 0 := (by decide +kernel); have rjl : (F_J4_length_8abf5 wn).toInt = (wn : Int32).toInt := rfl; omega))
      rw [hy9] at hcon
      refine kr_ (va_runV (As := [.int a1]) (rest := []) ⟨hx, hb, hml, hown, hts⟩ hcon (cwV 1 hts gX10_character_J4_charAt_5068e rfl rfl rfl (by decide +kernel) ⟨Nat.le_of_ble_eq_true rfl, Nat.le_of_ble_eq_true rfl⟩) ⟨PR_.blind, va_recv hK hP (ci := 1) (q0 := 1) rfl rfl, PR_.pre hF hK (hP.sub [0, 1] rfl) hS hA [0] rfl⟩ rfl rfl hl.1 rfl (lv_room (Nat.le_of_ble_eq_true rfl)) dX10_character_31 ⟨(Nat.le_of_ble_eq_true rfl), (Nat.le_of_ble_eq_true rfl)⟩) hP hS hA (fun H locs hP hS => ?_)
      subst hy9
      refine W.eq (g2 := F0 m 34 ls [.int (F_J4_charAt_5068e wb a1)]) rfl ?_
      refine vx_ret ?_
      refine W.widen (k := 1) (n := 6) (Nat.le_of_ble_eq_true rfl) (Nat.le_of_ble_eq_true rfl) ?_
      exact W.zret (v := (F_J4_charAt_5068e wb a1)) hx hb hr (ci_narr _) (QRs_.mk hS (by rw [hM]) (by rw [hM])) hS.2.2 dX10_character_34
    · rw [if_neg c_3] at hM
      obtain ⟨sa9, hstr⟩ := fxs_ hF RX10 343 "the line has no such index"
      exact vx_throwSW (own := RX10) (cls := "java/lang/IndexOutOfBoundsException") (names := ["java/lang/RuntimeException", "java/lang/Exception"]) hx hb hl0 hown (by decide +kernel) (by decide +kernel) (hts (.classLink RX10 341 "java/lang/IndexOutOfBoundsException") (List.mem_of_getElem? (i := 1) (by decide +kernel))) (hts (.initialized "java/lang/IndexOutOfBoundsException") (List.mem_of_getElem? (i := 2) (by decide +kernel))) hstr (fxw_ hts (by decide +kernel) (by decide +kernel) (fxb_ hF "java/lang/IndexOutOfBoundsException")) (by decide +kernel) hF.2.2.2.2.1 hF.2.2.2.2.2.1 hS (by rw [hml]; exact hl.1) dX10_character_15 dX10_character_18 dX10_character_19 dX10_character_22 dX10_character_25 (fun x9 hx9 => (htab x9 hx9).elim) (Nat.le_of_ble_eq_true rfl) (Nat.le_of_ble_eq_true rfl) (Nat.le_of_ble_eq_true rfl) (Nat.le_of_ble_eq_true rfl) hlocks (fun t9 _ hz9 hq9 => ⟨⟨rfl, (by rw [hM])⟩, xt_ hS hz9 hq9⟩) hS.2.2 (Nat.le_of_ble_eq_true rfl) (Nat.le_of_ble_eq_true rfl)
