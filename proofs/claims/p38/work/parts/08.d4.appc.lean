def F_J5_isLatin1_aae02  : Int32 := 1
set_option maxHeartbeats 4000000 in
set_option maxRecDepth 100000 in
theorem c_J5_isLatin1_aae02 (l : Launch) (hl0 : l.stackTraces = false) (D : va_G) (ad : Nat → Nat) (sz : Nat) (h_B : Nat) (h_B_0 : Value) (h_B_2 : Value) (h_B_3 : Value) : Met l yJ5_isLatin1_aae02 wsJ5_isLatin1_aae02 ({ frames := 0, cells := 0, slots := 0, locals := 0 }) (PR_ D ad [(h_B, .inr (1, [h_B_0, .int 0, h_B_2, h_B_3]))] [] sz [.ref h_B]) (QR_ (.int (F_J5_isLatin1_aae02)) (va_A [] sz)) 0 0 (va_A [] sz) := by
  refine Met.ofW (cc := cJ5_isLatin1_aae02) (maxL := 1) (ret := (some .boolean)) (by decide) rfl ?_
  intro p e s m args below meth c s₁ B hml hv
  obtain ⟨rfl, hsz, hP, hK, hF⟩ := hv
  have hx := B.exec
  have hb := B.bytes
  have hr := B.returns
  have hts := atoms_spec (ws := wsJ5_isLatin1_aae02) B.pre
  have hown : s.vm.findClass RJ5 = some m.cls := findClass_of_methodNamed B.named
  have hlocks := B.notSynchronized
  subst hsz
  generalize hAe : va_A [] s.heap.size = A at hF ⊢
  have hA : ∀ q : Nat, s.heap.size ≤ q → A q := fun q h => by rw [← hAe]; exact Or.inr h
  obtain ⟨H, hHe⟩ : ∃ H : Heap, H = s.heap := ⟨_, rfl⟩
  have hS : va_S A s.heap H [] := by rw [hHe]; exact va_S.rf
  have hP : va_P D vwCl [(h_B, .inr (1, [h_B_0, .int 0, h_B_2, h_B_3]))] H := by rw [hHe]; exact hP
  rw [← hHe]
  have hi_J4 : ∀ w ∈ wsJ40, w ∈ wsJ5_isLatin1_aae02 := by decide +kernel
  have hl := lv_entry [.ref h_B] (n := 1) (Nat.le_of_ble_eq_true rfl)
  rw [lg_entry_eq]
  generalize (lg_sl [.ref h_B] ++ List.replicate (1 - (lg_sl [.ref h_B]).length) Slot.unset).toArray = ls at hl ⊢
  have hl : lv_has ls 1 [(0, .ref h_B)] := hl
  have hM : F_J5_isLatin1_aae02 = 1 := rfl
  refine va_gets (C := "java/lang/String") (n := "COMPACT_STRINGS") (d := "Z") (own := RJ5) (ref := "java/lang/String") (v := .int 1) hx hb hF.2.2.2.1 hS hown (hts (.fieldLink RJ5 18 "java/lang/String" "COMPACT_STRINGS" "Z") (List.mem_of_getElem? (i := 1) (by decide +kernel))) (fun _ h9 => h9) dJ5_isLatin1_aae02_0 ?_
  refine lv_if_eq (tgt := 17) hx hb dJ5_isLatin1_aae02_3 (by decide) (fun c9 => absurd c9 (by decide +kernel)) (fun _ => ?_)
  refine lv_aload_n hx hb dJ5_isLatin1_aae02_6 rfl (lv_at hl 0 rfl) ?_
  refine va_get (D := D) (ci := 1) (v := .int 0) (own := RJ5) (C := RJ4) (T := TJ4) (N := 4) hx hb hts hi_J4 hown hK hP 0 rfl rfl 1 (by decide) (hts (.fieldLink RJ5 22 "java/lang/AbstractStringBuilder" "coder" "B") (List.mem_of_getElem? (i := 2) (by decide +kernel))) (fun _ h9 => h9) rfl dJ5_isLatin1_aae02_7 ?_
  refine lv_if_ne (tgt := 17) hx hb dJ5_isLatin1_aae02_10 (by decide) (fun c9 => absurd (by decide +kernel) c9) (fun _ => ?_)
  refine lv_iconst (v := 1) hx hb dJ5_isLatin1_aae02_13 (by decide) ?_
  refine lv_goto (tgt := 18) hx hb dJ5_isLatin1_aae02_14 (by decide) ?_
  refine W.widen (k := 0) (n := 0) (Nat.le_of_ble_eq_true rfl) (Nat.le_of_ble_eq_true rfl) ?_
  exact W.zret (v := 1) hx hb hr rfl (QR_.mk hS (by rw [hM])) hS.2.2 dJ5_isLatin1_aae02_18
def F_J1_canEncode_fc78d (a1 : Int32) : Int32 := (if 255 < (ci_ a1) then 0 else 1)
theorem R_J1_canEncode (a : Int32) (h : (ci_ a).toInt ≤ 255) : (F_J1_canEncode_fc78d a).toInt = 1 := by
  have e : (255 : Int32).toInt = 255 := by decide +kernel
  unfold F_J1_canEncode_fc78d
  by_cases c : 255 < ci_ a
  · have y := f_lt c
    omega
  · rw [if_neg c]; decide +kernel
set_option maxHeartbeats 4000000 in
set_option maxRecDepth 100000 in
theorem c_J1_canEncode_fc78d (l : Launch) (hl0 : l.stackTraces = false) (D : va_G) (ad : Nat → Nat) (sz : Nat) (a1 : Int32) : Met l yJ1_canEncode_fc78d wsJ1_canEncode_fc78d ({ frames := 0, cells := 0, slots := 0, locals := 0 }) (PR_ D ad [] [] sz [.int (ci_ a1)]) (QR_ (.int (F_J1_canEncode_fc78d a1)) (va_A [] sz)) 0 0 (va_A [] sz) := by
  refine Met.ofW (cc := cJ1_canEncode_fc78d) (maxL := 1) (ret := (some .boolean)) (by decide) rfl ?_
  intro p e s m args below meth c s₁ B hml hv
  obtain ⟨rfl, hsz, hP, hK, hF⟩ := hv
  have hx := B.exec
  have hb := B.bytes
  have hr := B.returns
  have hts := atoms_spec (ws := wsJ1_canEncode_fc78d) B.pre
  have hown : s.vm.findClass RJ1 = some m.cls := findClass_of_methodNamed B.named
  have hlocks := B.notSynchronized
  subst hsz
  generalize hAe : va_A [] s.heap.size = A at hF ⊢
  have hA : ∀ q : Nat, s.heap.size ≤ q → A q := fun q h => by rw [← hAe]; exact Or.inr h
  obtain ⟨H, hHe⟩ : ∃ H : Heap, H = s.heap := ⟨_, rfl⟩
  have hS : va_S A s.heap H [] := by rw [hHe]; exact va_S.rf
  have hP : va_P D vwCl [] H := by rw [hHe]; exact hP
  rw [← hHe]
  have hl := lv_entry [.int (ci_ a1)] (n := 1) (Nat.le_of_ble_eq_true rfl)
  rw [lg_entry_eq]
  generalize (lg_sl [.int (ci_ a1)] ++ List.replicate (1 - (lg_sl [.int (ci_ a1)]).length) Slot.unset).toArray = ls at hl ⊢
  have hl : lv_has ls 1 [(0, .int (ci_ a1))] := hl
  have hM : F_J1_canEncode_fc78d a1 = (if 255 < (ci_ a1) then 0 else 1) := rfl
  refine lv_iload_n hx hb dJ1_canEncode_fc78d_0 rfl (lv_at hl 0 rfl) ?_
  refine lv_sipush (v := 255) hx hb dJ1_canEncode_fc78d_1 (by decide +kernel) ?_
  refine lv_icmp_gt (tgt := 11) hx hb dJ1_canEncode_fc78d_4 (by decide) (fun c_1 => ?_) (fun c_1 => ?_)
  · rw [if_pos c_1] at hM
    refine lv_iconst (v := 0) hx hb dJ1_canEncode_fc78d_11 (by decide) ?_
    refine W.widen (k := 0) (n := 0) (Nat.le_of_ble_eq_true rfl) (Nat.le_of_ble_eq_true rfl) ?_
    exact W.zret (v := 0) hx hb hr rfl (QR_.mk hS (by rw [hM])) hS.2.2 dJ1_canEncode_fc78d_12
  · rw [if_neg c_1] at hM
    refine lv_iconst (v := 1) hx hb dJ1_canEncode_fc78d_7 (by decide) ?_
    refine lv_goto (tgt := 12) hx hb dJ1_canEncode_fc78d_8 (by decide) ?_
    refine W.widen (k := 0) (n := 0) (Nat.le_of_ble_eq_true rfl) (Nat.le_of_ble_eq_true rfl) ?_
    exact W.zret (v := 1) hx hb hr rfl (QR_.mk hS (by rw [hM])) hS.2.2 dJ1_canEncode_fc78d_12
def F_J5_append_3fe6f (wb : Nat → Int32) (capw : Nat) (wn : Int32) (a1 : Int32) : Nat × (Nat → Int32) × Int32 × Nat × Nat := ((F_J5_ensureCapacityInternal_d00df wb capw (wn + 1)).1, (upd (F_J5_ensureCapacityInternal_d00df wb capw (wn + 1)).2.1 (ix wn) (vp_nar .byte (ci_ a1))), (wn + 1), (((0 + (F_J5_ensureCapacityInternal_d00df wb capw (wn + 1)).2.2.1) + 0) + 0), (((0 + (F_J5_ensureCapacityInternal_d00df wb capw (wn + 1)).2.2.2) + 0) + 0))
set_option maxHeartbeats 4000000 in
set_option maxRecDepth 100000 in
theorem c_J5_append_3fe6f (l : Launch) (hl0 : l.stackTraces = false) (D : va_G) (ad : Nat → Nat) (sz : Nat) (h_wb : Nat) (h_B : Nat) (k_wb : ClassId) (h_B_2 : Value) (capw : Nat) (wb : Nat → Int32) (wn : Int32) (a1 : Int32) (hy0 : sb_Fit wb) (hy1 : 0 ≤ wn.toInt) (hy2 : wn.toInt ≤ capw) (hy3 : wn.toInt ≤ 5000) (hy4 : capw ≤ 20000) (hy5 : 16 ≤ capw) (hy6 : (ci_ a1).toInt ≤ 255) (hy7 : wn.toInt < 5000) : Met l yJ5_append_3fe6f wsJ5_append_3fe6f ({ frames := 4, cells := (F_J5_append_3fe6f wb capw wn a1).2.2.2.1, slots := (F_J5_append_3fe6f wb capw wn a1).2.2.2.2, locals := 116 }) (PC_ D ad [(h_wb, .inl (k_wb, capw, .inl wb)), (h_B, .inr (1, [.ref h_wb, .int 0, h_B_2, .int wn]))] [(k_wb, .byte)] sz [.ref h_B, .int (ci_ a1)]) (QG_ D (fun q i => some (.ref h_B)) (fun q i => sb_Fit ((F_J5_append_3fe6f wb capw wn a1).2.1) ∧ ((F_J5_append_3fe6f wb capw wn a1).2.2.1).toInt = wn.toInt + 1 ∧ ((F_J5_append_3fe6f wb capw wn a1).2.2.1).toInt ≤ ((F_J5_append_3fe6f wb capw wn a1).1) ∧ 16 ≤ ((F_J5_append_3fe6f wb capw wn a1).1) ∧ capw ≤ ((F_J5_append_3fe6f wb capw wn a1).1) ∧ ((F_J5_append_3fe6f wb capw wn a1).1) ≤ 20000) (fun q k i => [((q 0), .inl ((k 0), (F_J5_append_3fe6f wb capw wn a1).1, .inl (F_J5_append_3fe6f wb capw wn a1).2.1)), (h_B, .inr (1, [.ref (q 0), .int 0, h_B_2, .int (F_J5_append_3fe6f wb capw wn a1).2.2.1]))]) (fun q k i => [((k 0), .byte)]) (va_A [(h_wb, .inl (k_wb, capw, .inl wb)), (h_B, .inr (1, [.ref h_wb, .int 0, h_B_2, .int wn]))] sz)) (F_J5_append_3fe6f wb capw wn a1).2.2.2.1 (F_J5_append_3fe6f wb capw wn a1).2.2.2.2 (va_A [(h_wb, .inl (k_wb, capw, .inl wb)), (h_B, .inr (1, [.ref h_wb, .int 0, h_B_2, .int wn]))] sz) := by
  refine Met.ofW (cc := cJ5_append_3fe6f) (maxL := 2) (ret := (some (.object "java/lang/AbstractStringBuilder"))) (by decide) rfl ?_
  intro p e s m args below meth c s₁ B hml hv
  obtain ⟨rfl, hsz, hP, hK, hD0, hF⟩ := hv
  have hx := B.exec
  have hb := B.bytes
  have hr := B.returns
  have hts := atoms_spec (ws := wsJ5_append_3fe6f) B.pre
  have hown : s.vm.findClass RJ5 = some m.cls := findClass_of_methodNamed B.named
  have hlocks := B.notSynchronized
  subst hsz
  have hD := hD0.self (sz := s.heap.size)
  generalize hAe : va_A [(h_wb, .inl (k_wb, capw, .inl wb)), (h_B, .inr (1, [.ref h_wb, .int 0, h_B_2, .int wn]))] s.heap.size = A at hD hF ⊢
  have hA : ∀ q : Nat, s.heap.size ≤ q → A q := fun q h => by rw [← hAe]; exact Or.inr h
  obtain ⟨H, hHe⟩ : ∃ H : Heap, H = s.heap := ⟨_, rfl⟩
  have hS : va_S A s.heap H [] := by rw [hHe]; exact va_S.rf
  have hP : va_P D vwCl [(h_wb, .inl (k_wb, capw, .inl wb)), (h_B, .inr (1, [.ref h_wb, .int 0, h_B_2, .int wn]))] H := by rw [hHe]; exact hP
  rw [← hHe]
  have hi_J4 : ∀ w ∈ wsJ40, w ∈ wsJ5_append_3fe6f := by decide +kernel
  have hl := lv_entry [.ref h_B, .int (ci_ a1)] (n := 2) (Nat.le_of_ble_eq_true rfl)
  rw [lg_entry_eq]
  generalize (lg_sl [.ref h_B, .int (ci_ a1)] ++ List.replicate (2 - (lg_sl [.ref h_B, .int (ci_ a1)]).length) Slot.unset).toArray = ls at hl ⊢
  have hl : lv_has ls 2 [(0, .ref h_B), (1, .int (ci_ a1))] := hl
  generalize hF9 : F_J5_append_3fe6f wb capw wn a1 = FF9
  have hM : FF9 = ((F_J5_ensureCapacityInternal_d00df wb capw (wn + 1)).1, (upd (F_J5_ensureCapacityInternal_d00df wb capw (wn + 1)).2.1 (ix wn) (vp_nar .byte (ci_ a1))), (wn + 1), (((0 + (F_J5_ensureCapacityInternal_d00df wb capw (wn + 1)).2.2.1) + 0) + 0), (((0 + (F_J5_ensureCapacityInternal_d00df wb capw (wn + 1)).2.2.2) + 0) + 0)) := hF9.symm
  refine lv_aload_n hx hb dJ5_append_3fe6f_0 rfl (lv_at hl 0 rfl) ?_
  refine lv_aload_n hx hb dJ5_append_3fe6f_1 rfl (lv_at hl 0 rfl) ?_
  refine va_get (D := D) (ci := 1) (v := .int wn) (own := RJ5) (C := RJ4) (T := TJ4) (N := 4) hx hb hts hi_J4 hown hK hP 1 rfl rfl 3 (by decide) (hts (.fieldLink RJ5 79 "java/lang/AbstractStringBuilder" "count" "I") (List.mem_of_getElem? (i := 1) (by decide +kernel))) (fun _ h9 => h9) rfl dJ5_append_3fe6f_2 ?_
  refine lv_iconst (v := 1) hx hb dJ5_append_3fe6f_5 (by decide) ?_
  refine lv_iadd hx hb dJ5_append_3fe6f_6 ?_
  refine kc_ (wc := [(h_wb, .inl (k_wb, capw, .inl wb)), (h_B, .inr (1, [.ref h_wb, .int 0, h_B_2, .int wn]))]) (wr := []) (va_runU (As := [.int (wn + 1)]) (rest := []) ⟨hx, hb, hml, hown, hts⟩ (c_J5_ensureCapacityInternal_d00df l hl0 D ad H.size h_wb h_B k_wb (h_B_2) (.int wn) capw wb (wn + 1) hy0 (by have z1 := hy1; have z2 := hy2; have z3 := hy3; have z4 := hy4; have z5 := hy5; have z6 := hy6; have z7 := hy7; have e011 : (1 : Int32).toInt = 1 := (by decide +kernel); have rw1 := addI (a := wn) (b := 1) (by omega) (by omega); omega) (by have z1 := hy1; have z2 := hy2; have z3 := hy3; have z4 := hy4; have z5 := hy5; have z6 := hy6; have z7 := hy7; have e011 : (1 : Int32).toInt = 1 := (by decide +kernel); have rw1 := addI (a := wn) (b := 1) (by omega) (by omega); omega) (by have z1 := hy1; have z2 := hy2; have z3 := hy3; have z4 := hy4; have z5 := hy5; have z6 := hy6; have z7 := hy7; have e011 : (1 : Int32).toInt = 1 := (by decide +kernel); have rw1 := addI (a := wn) (b := 1) (by omega) (by omega); have b30 := Int32.toInt_lt (wn); have d30 := Int32.le_toInt (wn); have l31 : (1 : Int32).toInt = 1 := (by decide +kernel); have q29 := addI (a := wn) (b := 1) (by omega) (by omega); omega) (by have z1 := hy1; have z2 := hy2; have z3 := hy3; have z4 := hy4; have z5 := hy5; have z6 := hy6; have z7 := hy7; have e011 : (1 : Int32).toInt = 1 := (by decide +kernel); have rw1 := addI (a := wn) (b := 1) (by omega) (by omega); have b33 := Int32.toInt_lt (wn); have d33 := Int32.le_toInt (wn); have l34 : (1 : Int32).toInt = 1 := (by decide +kernel); have q32 := addI (a := wn) (b := 1) (by omega) (by omega); omega)) (va_cwU 1 hts gJ5_append_3fe6f_J5_ensureCapacityInternal_d00df_u100J4 rfl rfl rfl rfl (by decide +kernel) ⟨Nat.le_of_ble_eq_true rfl, Nat.le_of_ble_eq_true rfl⟩) ⟨PC_.blind, va_recv hK hP (ci := 1) (q0 := 1) rfl rfl, PC_.pre hF hK hP hD hS hA [0, 1] [0] rfl (by decide) rfl⟩ rfl rfl hl.1 rfl (lv_room (Nat.le_of_ble_eq_true rfl)) dJ5_append_3fe6f_7 ⟨(show 0 + ((F_J5_ensureCapacityInternal_d00df wb capw (wn + 1)).2.2.1) ≤ (FF9).2.2.2.1 from (by rw [hM]; exact Nat.le_trans (show 0 + ((F_J5_ensureCapacityInternal_d00df wb capw (wn + 1)).2.2.1) ≤ (0 + (F_J5_ensureCapacityInternal_d00df wb capw (wn + 1)).2.2.1) from (by omega)) (show (0 + (F_J5_ensureCapacityInternal_d00df wb capw (wn + 1)).2.2.1) ≤ (((0 + (F_J5_ensureCapacityInternal_d00df wb capw (wn + 1)).2.2.1) + 0) + 0) from (by omega)))), (show 0 + ((F_J5_ensureCapacityInternal_d00df wb capw (wn + 1)).2.2.2) ≤ (FF9).2.2.2.2 from (by rw [hM]; exact Nat.le_trans (show 0 + ((F_J5_ensureCapacityInternal_d00df wb capw (wn + 1)).2.2.2) ≤ (0 + (F_J5_ensureCapacityInternal_d00df wb capw (wn + 1)).2.2.2) from (by omega)) (show (0 + (F_J5_ensureCapacityInternal_d00df wb capw (wn + 1)).2.2.2) ≤ (((0 + (F_J5_ensureCapacityInternal_d00df wb capw (wn + 1)).2.2.2) + 0) + 0) from (by omega))))⟩) hK hP hD hS hA [0, 1] [] [] rfl rfl (by decide) (by decide) rfl (fun qa_1 ka_1 ia H locs hpo hP hD hK hS => ?_)
  have hen_1 : sb_Fit ((F_J5_ensureCapacityInternal_d00df wb capw (wn + 1)).2.1) ∧ (wn + 1).toInt ≤ ((F_J5_ensureCapacityInternal_d00df wb capw (wn + 1)).1) ∧ 16 ≤ ((F_J5_ensureCapacityInternal_d00df wb capw (wn + 1)).1) ∧ capw ≤ ((F_J5_ensureCapacityInternal_d00df wb capw (wn + 1)).1) ∧ ((F_J5_ensureCapacityInternal_d00df wb capw (wn + 1)).1) ≤ 20000 := hpo
  have hP : va_P D vwCl [((qa_1 0), .inl ((ka_1 0), (F_J5_ensureCapacityInternal_d00df wb capw (wn + 1)).1, .inl (F_J5_ensureCapacityInternal_d00df wb capw (wn + 1)).2.1)), (h_B, .inr (1, [.ref (qa_1 0), .int 0, h_B_2, .int wn]))] H := hP
  have hD : va_D A [((qa_1 0), .inl ((ka_1 0), (F_J5_ensureCapacityInternal_d00df wb capw (wn + 1)).1, .inl (F_J5_ensureCapacityInternal_d00df wb capw (wn + 1)).2.1)), (h_B, .inr (1, [.ref (qa_1 0), .int 0, h_B_2, .int wn]))] := hD
  have hK : va_K D vwCl [((ka_1 0), .byte)] s := hK
  refine W.eq (g2 := F0 m 10 ls []) rfl ?_
  refine lv_aload_n hx hb dJ5_append_3fe6f_10 rfl (lv_at hl 0 rfl) ?_
  refine kr_ (va_runU (As := []) (rest := []) ⟨hx, hb, hml, hown, hts⟩ (c_J5_isLatin1_aae02 l hl0 D ad H.size h_B (.ref (qa_1 0)) (h_B_2) (.int wn)) (va_cwU 0 hts gJ5_append_3fe6f_J5_isLatin1_aae02_u83J4 rfl rfl rfl rfl (by decide +kernel) ⟨Nat.le_of_ble_eq_true rfl, Nat.le_of_ble_eq_true rfl⟩) ⟨PR_.blind, va_recv hK hP (ci := 1) (q0 := 1) rfl rfl, PR_.pre hF hK (hP.sub [1] rfl) hS hA [] rfl⟩ rfl rfl hl.1 rfl (lv_room (Nat.le_of_ble_eq_true rfl)) dJ5_append_3fe6f_11 ⟨(show (0 + (F_J5_ensureCapacityInternal_d00df wb capw (wn + 1)).2.2.1) + 0 ≤ (FF9).2.2.2.1 from (by rw [hM]; exact Nat.le_trans (show (0 + (F_J5_ensureCapacityInternal_d00df wb capw (wn + 1)).2.2.1) + 0 ≤ ((0 + (F_J5_ensureCapacityInternal_d00df wb capw (wn + 1)).2.2.1) + 0) from (by omega)) (show ((0 + (F_J5_ensureCapacityInternal_d00df wb capw (wn + 1)).2.2.1) + 0) ≤ (((0 + (F_J5_ensureCapacityInternal_d00df wb capw (wn + 1)).2.2.1) + 0) + 0) from (by omega)))), (show (0 + (F_J5_ensureCapacityInternal_d00df wb capw (wn + 1)).2.2.2) + 0 ≤ (FF9).2.2.2.2 from (by rw [hM]; exact Nat.le_trans (show (0 + (F_J5_ensureCapacityInternal_d00df wb capw (wn + 1)).2.2.2) + 0 ≤ ((0 + (F_J5_ensureCapacityInternal_d00df wb capw (wn + 1)).2.2.2) + 0) from (by omega)) (show ((0 + (F_J5_ensureCapacityInternal_d00df wb capw (wn + 1)).2.2.2) + 0) ≤ (((0 + (F_J5_ensureCapacityInternal_d00df wb capw (wn + 1)).2.2.2) + 0) + 0) from (by omega))))⟩) hP hS hA (fun H locs hP hS => ?_)
  refine W.eq (g2 := F0 m 14 ls [.int 1]) rfl ?_
  refine lv_if_eq (tgt := 45) hx hb dJ5_append_3fe6f_14 (by decide) (fun c9 => absurd c9 (by decide +kernel)) (fun _ => ?_)
  refine lv_iload_n hx hb dJ5_append_3fe6f_17 rfl (lv_at hl 1 rfl) ?_
  obtain ⟨y9, hy9⟩ : ∃ y9, (F_J1_canEncode_fc78d a1) = y9 := ⟨_, rfl⟩
  have hcon := (c_J1_canEncode_fc78d l hl0 D ad H.size a1)
  rw [hy9] at hcon
  refine kr_ (va_runS (As := [.int (ci_ a1)]) (rest := []) ⟨hx, hb, hml, hown, hts⟩ hcon (va_cwS 1 hts gJ5_append_3fe6f_J1_canEncode_fc78d rfl rfl rfl (by decide +kernel) ⟨Nat.le_of_ble_eq_true rfl, Nat.le_of_ble_eq_true rfl⟩) ⟨PR_.blind, PR_.pre hF hK (hP.sub [] rfl) hS hA [] rfl⟩ rfl rfl hl.1 rfl (lv_room (Nat.le_of_ble_eq_true rfl)) dJ5_append_3fe6f_18 ⟨(show ((0 + (F_J5_ensureCapacityInternal_d00df wb capw (wn + 1)).2.2.1) + 0) + 0 ≤ (FF9).2.2.2.1 from (by rw [hM]; exact Nat.le_trans (show ((0 + (F_J5_ensureCapacityInternal_d00df wb capw (wn + 1)).2.2.1) + 0) + 0 ≤ (((0 + (F_J5_ensureCapacityInternal_d00df wb capw (wn + 1)).2.2.1) + 0) + 0) from (by omega)) (show (((0 + (F_J5_ensureCapacityInternal_d00df wb capw (wn + 1)).2.2.1) + 0) + 0) ≤ (((0 + (F_J5_ensureCapacityInternal_d00df wb capw (wn + 1)).2.2.1) + 0) + 0) from (by omega)))), (show ((0 + (F_J5_ensureCapacityInternal_d00df wb capw (wn + 1)).2.2.2) + 0) + 0 ≤ (FF9).2.2.2.2 from (by rw [hM]; exact Nat.le_trans (show ((0 + (F_J5_ensureCapacityInternal_d00df wb capw (wn + 1)).2.2.2) + 0) + 0 ≤ (((0 + (F_J5_ensureCapacityInternal_d00df wb capw (wn + 1)).2.2.2) + 0) + 0) from (by omega)) (show (((0 + (F_J5_ensureCapacityInternal_d00df wb capw (wn + 1)).2.2.2) + 0) + 0) ≤ (((0 + (F_J5_ensureCapacityInternal_d00df wb capw (wn + 1)).2.2.2) + 0) + 0) from (by omega))))⟩) hP hS hA (fun H locs hP hS => ?_)
  subst hy9
  refine W.eq (g2 := F0 m 21 ls [.int (F_J1_canEncode_fc78d a1)]) rfl ?_
  refine lv_if_eq (tgt := 45) hx hb dJ5_append_3fe6f_21 (by decide) (fun c9 => False.elim (by have z1 := hy1; have z2 := hy2; have z3 := hy3; have z4 := hy4; have z5 := hy5; have z6 := hy6; have z7 := hy7; have z8 := hen_1; have e011 : (1 : Int32).toInt = 1 := (by decide +kernel); have rw1 := addI (a := wn) (b := 1) (by omega) (by omega); have rce := R_J1_canEncode a1 (by omega); have y9 := f_eq c9; have l0 : (0 : Int32).toInt = 0 := (by decide +kernel); omega)) (fun c_4 => ?_)
  refine lv_aload_n hx hb dJ5_append_3fe6f_24 rfl (lv_at hl 0 rfl) ?_
  refine va_get (D := D) (ci := 1) (v := .ref (qa_1 0)) (own := RJ5) (C := RJ4) (T := TJ4) (N := 4) hx hb hts hi_J4 hown hK hP 1 rfl rfl 0 (by decide) (hts (.fieldLink RJ5 15 "java/lang/AbstractStringBuilder" "value" "[B") (List.mem_of_getElem? (i := 2) (by decide +kernel))) (fun _ h9 => h9) rfl dJ5_append_3fe6f_25 ?_
  refine lv_aload_n hx hb dJ5_append_3fe6f_28 rfl (lv_at hl 0 rfl) ?_
  refine lv_dup hx hb dJ5_append_3fe6f_29 rfl ?_
  refine va_get (D := D) (ci := 1) (v := .int wn) (own := RJ5) (C := RJ4) (T := TJ4) (N := 4) hx hb hts hi_J4 hown hK hP 1 rfl rfl 3 (by decide) (hts (.fieldLink RJ5 79 "java/lang/AbstractStringBuilder" "count" "I") (List.mem_of_getElem? (i := 1) (by decide +kernel))) (fun _ h9 => h9) rfl dJ5_append_3fe6f_30 ?_
  refine lv_dup_x1 hx hb dJ5_append_3fe6f_33 rfl rfl ?_
  refine lv_iconst (v := 1) hx hb dJ5_append_3fe6f_34 (by decide) ?_
  refine lv_iadd hx hb dJ5_append_3fe6f_35 ?_
  refine va_put (D := D) (ci := 1) (v := .int (wn + 1)) (ty := .int) (own := RJ5) (C := RJ4) (T := TJ4) (N := 4) hx hb hts hi_J4 tyJ4 tyJ4_ok nmJ4 hown hK hP hD hS 1 rfl rfl 3 (by decide) (hts (.fieldLink RJ5 79 "java/lang/AbstractStringBuilder" "count" "I") (List.mem_of_getElem? (i := 1) (by decide +kernel))) (fun _ h9 => h9) rfl (by decide +kernel) rfl rfl (Nat.le_of_ble_eq_true rfl) dJ5_append_3fe6f_36 (fun H locs hP hD hS => ?_)
  have hP : va_P D vwCl [((qa_1 0), .inl ((ka_1 0), (F_J5_ensureCapacityInternal_d00df wb capw (wn + 1)).1, .inl (F_J5_ensureCapacityInternal_d00df wb capw (wn + 1)).2.1)), (h_B, .inr (1, [.ref (qa_1 0), .int 0, h_B_2, .int (wn + 1)]))] H := hP
  have hD : va_D A [((qa_1 0), .inl ((ka_1 0), (F_J5_ensureCapacityInternal_d00df wb capw (wn + 1)).1, .inl (F_J5_ensureCapacityInternal_d00df wb capw (wn + 1)).2.1)), (h_B, .inr (1, [.ref (qa_1 0), .int 0, h_B_2, .int (wn + 1)]))] := hD
  refine lv_iload_n hx hb dJ5_append_3fe6f_39 rfl (lv_at hl 1 rfl) ?_
  refine lv_i2b (v := (vp_nar .byte (ci_ a1))) hx hb dJ5_append_3fe6f_40 rfl ?_
  refine ka_bast (g := (upd (F_J5_ensureCapacityInternal_d00df wb capw (wn + 1)).2.1 (ix wn) (vp_nar .byte (ci_ a1)))) hx hb hK hP hD hS 0 0 rfl rfl (vinI (by have y0 := f_neq c_4; have z1 := hy1; have z2 := hy2; have z3 := hy3; have z4 := hy4; have z5 := hy5; have z6 := hy6; have z7 := hy7; have z8 := hen_1; have e011 : (1 : Int32).toInt = 1 := (by decide +kernel); have rw1 := addI (a := wn) (b := 1) (by omega) (by omega); have e_0 : (0 : Int32).toInt = 0 := (by decide +kernel); have rce := R_J1_canEncode a1 (by omega); have b37 := Int32.toInt_lt (wn); have d37 := Int32.le_toInt (wn); omega) (by have y0 := f_neq c_4; have z1 := hy1; have z2 := hy2; have z3 := hy3; have z4 := hy4; have z5 := hy5; have z6 := hy6; have z7 := hy7; have z8 := hen_1; have e011 : (1 : Int32).toInt = 1 := (by decide +kernel); have rw1 := addI (a := wn) (b := 1) (by omega) (by omega); have e_0 : (0 : Int32).toInt = 0 := (by decide +kernel); have rce := R_J1_canEncode a1 (by omega); have b37 := Int32.toInt_lt (wn); have d37 := Int32.le_toInt (wn); omega)) (by rw [n8_n8]; rfl) dJ5_append_3fe6f_41 (fun H locs hP hD hS => ?_)
  have hP : va_P D vwCl [((qa_1 0), .inl ((ka_1 0), (F_J5_ensureCapacityInternal_d00df wb capw (wn + 1)).1, .inl (upd (F_J5_ensureCapacityInternal_d00df wb capw (wn + 1)).2.1 (ix wn) (vp_nar .byte (ci_ a1))))), (h_B, .inr (1, [.ref (qa_1 0), .int 0, h_B_2, .int (wn + 1)]))] H := hP
  have hD : va_D A [((qa_1 0), .inl ((ka_1 0), (F_J5_ensureCapacityInternal_d00df wb capw (wn + 1)).1, .inl (upd (F_J5_ensureCapacityInternal_d00df wb capw (wn + 1)).2.1 (ix wn) (vp_nar .byte (ci_ a1))))), (h_B, .inr (1, [.ref (qa_1 0), .int 0, h_B_2, .int (wn + 1)]))] := hD
  refine lv_goto (tgt := 75) hx hb dJ5_append_3fe6f_42 (by decide) ?_
  refine lv_aload_n hx hb dJ5_append_3fe6f_75 rfl (lv_at hl 0 rfl) ?_
  refine W.widen (k := (FF9).2.2.2.1) (n := (FF9).2.2.2.2) (Nat.le_of_eq (by rw [hM])) (Nat.le_of_eq (by rw [hM])) ?_
  exact W.aret (v := .ref h_B) hx hb hr (Or.inl ⟨_, rfl⟩) (Or.inr ⟨_, rfl⟩) (QG_.mk (fun n => [(qa_1 0)].getD n 0) (fun n => [(ka_1 0)].getD n 0) (fun _ => 0) [0, 1] [0] hP hD hK hS rfl (by rw [hM]; exact ⟨(show sb_Fit (upd (F_J5_ensureCapacityInternal_d00df wb capw (wn + 1)).2.1 (ix wn) (vp_nar .byte (ci_ a1))) from (sb_fitU hen_1.1 (n8_fit _))), (show (wn + 1).toInt = wn.toInt + 1 from (by have y0 := f_neq c_4; have z1 := hy1; have z2 := hy2; have z3 := hy3; have z4 := hy4; have z5 := hy5; have z6 := hy6; have z7 := hy7; have z8 := hen_1; have e011 : (1 : Int32).toInt = 1 := (by decide +kernel); have rw1 := addI (a := wn) (b := 1) (by omega) (by omega); have e_0 : (0 : Int32).toInt = 0 := (by decide +kernel); have rce := R_J1_canEncode a1 (by omega); have b39 := Int32.toInt_lt (wn); have d39 := Int32.le_toInt (wn); have l40 : (1 : Int32).toInt = 1 := (by decide +kernel); have q38 := addI (a := wn) (b := 1) (by omega) (by omega); omega)), (show (wn + 1).toInt ≤ ((F_J5_ensureCapacityInternal_d00df wb capw (wn + 1)).1) from (by have y0 := f_neq c_4; have z1 := hy1; have z2 := hy2; have z3 := hy3; have z4 := hy4; have z5 := hy5; have z6 := hy6; have z7 := hy7; have z8 := hen_1; have e011 : (1 : Int32).toInt = 1 := (by decide +kernel); have rw1 := addI (a := wn) (b := 1) (by omega) (by omega); have e_0 : (0 : Int32).toInt = 0 := (by decide +kernel); have rce := R_J1_canEncode a1 (by omega); have b42 := Int32.toInt_lt (wn); have d42 := Int32.le_toInt (wn); have l43 : (1 : Int32).toInt = 1 := (by decide +kernel); have q41 := addI (a := wn) (b := 1) (by omega) (by omega); omega)), (show 16 ≤ ((F_J5_ensureCapacityInternal_d00df wb capw (wn + 1)).1) from (by have y0 := f_neq c_4; have z1 := hy1; have z2 := hy2; have z3 := hy3; have z4 := hy4; have z5 := hy5; have z6 := hy6; have z7 := hy7; have z8 := hen_1; have e011 : (1 : Int32).toInt = 1 := (by decide +kernel); have rw1 := addI (a := wn) (b := 1) (by omega) (by omega); have e_0 : (0 : Int32).toInt = 0 := (by decide +kernel); have rce := R_J1_canEncode a1 (by omega); omega)), (show capw ≤ ((F_J5_ensureCapacityInternal_d00df wb capw (wn + 1)).1) from (by have y0 := f_neq c_4; have z1 := hy1; have z2 := hy2; have z3 := hy3; have z4 := hy4; have z5 := hy5; have z6 := hy6; have z7 := hy7; have z8 := hen_1; have e011 : (1 : Int32).toInt = 1 := (by decide +kernel); have rw1 := addI (a := wn) (b := 1) (by omega) (by omega); have e_0 : (0 : Int32).toInt = 0 := (by decide +kernel); have rce := R_J1_canEncode a1 (by omega); omega)), (show ((F_J5_ensureCapacityInternal_d00df wb capw (wn + 1)).1) ≤ 20000 from (by have y0 := f_neq c_4; have z1 := hy1; have z2 := hy2; have z3 := hy3; have z4 := hy4; have z5 := hy5; have z6 := hy6; have z7 := hy7; have z8 := hen_1; have e011 : (1 : Int32).toInt = 1 := (by decide +kernel); have rw1 := addI (a := wn) (b := 1) (by omega) (by omega); have e_0 : (0 : Int32).toInt = 0 := (by decide +kernel); have rce := R_J1_canEncode a1 (by omega); omega))⟩) (by first | (rw [hM]; rfl) | rfl) (by decide) rfl) hS.2.2 dJ5_append_3fe6f_76
