def F_J0_coder_7d493_own  : Int32 := 0
set_option maxHeartbeats 4000000 in
set_option maxRecDepth 100000 in
theorem c_J0_coder_7d493_own (l : Launch) (hl0 : l.stackTraces = false) (D : va_G) (ad : Nat → Nat) (sz : Nat) (h_Str : Nat) (h_Str_0 : Value) (h_Str_2 : Value) (h_Str_3 : Value) : Met l yJ0_coder_7d493 wsJ0_coder_7d493 ({ frames := 0, cells := 0, slots := 0, locals := 0 }) (PR_ D ad [(h_Str, .inr (0, [h_Str_0, .int 0, h_Str_2, h_Str_3]))] [] sz [.ref h_Str]) (QR_ (.int (F_J0_coder_7d493_own)) (va_A [] sz)) 0 0 (va_A [] sz) := by
  refine Met.ofW (cc := cJ0_coder_7d493) (maxL := 1) (ret := (some .byte)) (by decide) rfl ?_
  intro p e s m args below meth c s₁ B hml hv
  obtain ⟨rfl, hsz, hP, hK, hF⟩ := hv
  have hx := B.exec
  have hb := B.bytes
  have hr := B.returns
  have hts := atoms_spec (ws := wsJ0_coder_7d493) B.pre
  have hown : s.vm.findClass RJ0 = some m.cls := findClass_of_methodNamed B.named
  have hlocks := B.notSynchronized
  subst hsz
  generalize hAe : va_A [] s.heap.size = A at hF ⊢
  have hA : ∀ q : Nat, s.heap.size ≤ q → A q := fun q h => by rw [← hAe]; exact Or.inr h
  obtain ⟨H, hHe⟩ : ∃ H : Heap, H = s.heap := ⟨_, rfl⟩
  have hS : va_S A s.heap H [] := by rw [hHe]; exact va_S.rf
  have hP : va_P D vwCl [(h_Str, .inr (0, [h_Str_0, .int 0, h_Str_2, h_Str_3]))] H := by rw [hHe]; exact hP
  rw [← hHe]
  have hi_J0 : ∀ w ∈ wsJ00, w ∈ wsJ0_coder_7d493 := by decide +kernel
  have hl := lv_entry [.ref h_Str] (n := 1) (Nat.le_of_ble_eq_true rfl)
  rw [lg_entry_eq]
  generalize (lg_sl [.ref h_Str] ++ List.replicate (1 - (lg_sl [.ref h_Str]).length) Slot.unset).toArray = ls at hl ⊢
  have hl : lv_has ls 1 [(0, .ref h_Str)] := hl
  have hM : F_J0_coder_7d493_own = 0 := rfl
  refine va_gets (C := "java/lang/String") (n := "COMPACT_STRINGS") (d := "Z") (own := RJ0) (ref := "java/lang/String") (v := .int 1) hx hb hF.2.2.2.1 hS hown (hts (.fieldLink RJ0 38 "java/lang/String" "COMPACT_STRINGS" "Z") (List.mem_of_getElem? (i := 1) (by decide +kernel))) (fun _ h9 => h9) dJ0_coder_7d493_0 ?_
  refine lv_if_eq (tgt := 13) hx hb dJ0_coder_7d493_3 (by decide) (fun c9 => absurd c9 (by decide +kernel)) (fun _ => ?_)
  refine lv_aload_n hx hb dJ0_coder_7d493_6 rfl (lv_at hl 0 rfl) ?_
  refine va_get (D := D) (ci := 0) (v := .int 0) (own := RJ0) (C := RJ0) (T := TJ0) (N := 4) hx hb hts hi_J0 hown hK hP 0 rfl rfl 1 (by decide) (hts (.fieldLink RJ0 15 "java/lang/String" "coder" "B") (List.mem_of_getElem? (i := 2) (by decide +kernel))) (fun _ h9 => h9) rfl dJ0_coder_7d493_7 ?_
  refine lv_goto (tgt := 14) hx hb dJ0_coder_7d493_10 (by decide) ?_
  refine W.widen (k := 0) (n := 0) (Nat.le_of_ble_eq_true rfl) (Nat.le_of_ble_eq_true rfl) ?_
  exact W.zret (v := 0) hx hb hr rfl (QR_.mk hS (by rw [hM])) hS.2.2 dJ0_coder_7d493_14
def F_J0_length_8abf5_own (lens : Nat) : Int32 := (nI lens)
set_option maxHeartbeats 4000000 in
set_option maxRecDepth 100000 in
theorem c_J0_length_8abf5_own (l : Launch) (hl0 : l.stackTraces = false) (D : va_G) (ad : Nat → Nat) (sz : Nat) (h_bs : Nat) (h_Str : Nat) (k_bs : ClassId) (h_Str_2 : Value) (h_Str_3 : Value) (lens : Nat) (bs : Nat → Int32) : Met l yJ0_length_8abf5 wsJ0_length_8abf5 ({ frames := 1, cells := 0, slots := 0, locals := 22 }) (PR_ D ad [(h_bs, .inl (k_bs, lens, .inl bs)), (h_Str, .inr (0, [.ref h_bs, .int 0, h_Str_2, h_Str_3]))] [(k_bs, .byte)] sz [.ref h_Str]) (QR_ (.int (F_J0_length_8abf5_own lens)) (va_A [] sz)) 0 0 (va_A [] sz) := by
  refine Met.ofW (cc := cJ0_length_8abf5) (maxL := 1) (ret := (some .int)) (by decide) rfl ?_
  intro p e s m args below meth c s₁ B hml hv
  obtain ⟨rfl, hsz, hP, hK, hF⟩ := hv
  have hx := B.exec
  have hb := B.bytes
  have hr := B.returns
  have hts := atoms_spec (ws := wsJ0_length_8abf5) B.pre
  have hown : s.vm.findClass RJ0 = some m.cls := findClass_of_methodNamed B.named
  have hlocks := B.notSynchronized
  subst hsz
  generalize hAe : va_A [] s.heap.size = A at hF ⊢
  have hA : ∀ q : Nat, s.heap.size ≤ q → A q := fun q h => by rw [← hAe]; exact Or.inr h
  obtain ⟨H, hHe⟩ : ∃ H : Heap, H = s.heap := ⟨_, rfl⟩
  have hS : va_S A s.heap H [] := by rw [hHe]; exact va_S.rf
  have hP : va_P D vwCl [(h_bs, .inl (k_bs, lens, .inl bs)), (h_Str, .inr (0, [.ref h_bs, .int 0, h_Str_2, h_Str_3]))] H := by rw [hHe]; exact hP
  rw [← hHe]
  have hi_J0 : ∀ w ∈ wsJ00, w ∈ wsJ0_length_8abf5 := by decide +kernel
  have hl := lv_entry [.ref h_Str] (n := 1) (Nat.le_of_ble_eq_true rfl)
  rw [lg_entry_eq]
  generalize (lg_sl [.ref h_Str] ++ List.replicate (1 - (lg_sl [.ref h_Str]).length) Slot.unset).toArray = ls at hl ⊢
  have hl : lv_has ls 1 [(0, .ref h_Str)] := hl
  have hM : F_J0_length_8abf5_own lens = (nI lens) := rfl
  refine lv_aload_n hx hb dJ0_length_8abf5_0 rfl (lv_at hl 0 rfl) ?_
  refine va_get (D := D) (ci := 0) (v := .ref h_bs) (own := RJ0) (C := RJ0) (T := TJ0) (N := 4) hx hb hts hi_J0 hown hK hP 1 rfl rfl 0 (by decide) (hts (.fieldLink RJ0 9 "java/lang/String" "value" "[B") (List.mem_of_getElem? (i := 1) (by decide +kernel))) (fun _ h9 => h9) rfl dJ0_length_8abf5_1 ?_
  refine va_alen (v := (nI lens)) hx hb hK hP 0 0 rfl rfl rfl dJ0_length_8abf5_4 ?_
  refine lv_aload_n hx hb dJ0_length_8abf5_5 rfl (lv_at hl 0 rfl) ?_
  refine kr_ (va_runV (As := []) (rest := [.int (nI lens)]) ⟨hx, hb, hml, hown, hts⟩ (c_J0_coder_7d493_own l hl0 D ad H.size h_Str (.ref h_bs) (h_Str_2) (h_Str_3)) (cwV 0 hts gJ0_length_8abf5_J0_coder_7d493 rfl rfl rfl (by decide +kernel) ⟨Nat.le_of_ble_eq_true rfl, Nat.le_of_ble_eq_true rfl⟩) ⟨PR_.blind, va_recv hK hP (ci := 0) (q0 := 1) rfl rfl, PR_.pre hF hK (hP.sub [1] rfl) hS hA [] rfl⟩ rfl rfl hl.1 rfl (lv_room (Nat.le_of_ble_eq_true rfl)) dJ0_length_8abf5_6 ⟨(Nat.le_of_ble_eq_true rfl), (Nat.le_of_ble_eq_true rfl)⟩) hP hS hA (fun H locs hP hS => ?_)
  refine W.eq (g2 := F0 m 9 ls [.int 0, .int (nI lens)]) rfl ?_
  refine lv_ishr hx hb dJ0_length_8abf5_9 ?_
  refine kt_ (v := (nI lens)) (shr0_ _) ?_
  refine W.widen (k := 0) (n := 0) (Nat.le_of_ble_eq_true rfl) (Nat.le_of_ble_eq_true rfl) ?_
  exact W.iret (v := (nI lens)) hx hb hr (QR_.mk hS (by rw [hM])) hS.2.2 dJ0_length_8abf5_10
def F_J0_isLatin1_aae02_own  : Int32 := 1
set_option maxHeartbeats 4000000 in
set_option maxRecDepth 100000 in
theorem c_J0_isLatin1_aae02_own (l : Launch) (hl0 : l.stackTraces = false) (D : va_G) (ad : Nat → Nat) (sz : Nat) (h_Str : Nat) (h_Str_0 : Value) (h_Str_2 : Value) (h_Str_3 : Value) : Met l yJ0_isLatin1_aae02 wsJ0_isLatin1_aae02 ({ frames := 0, cells := 0, slots := 0, locals := 0 }) (PR_ D ad [(h_Str, .inr (0, [h_Str_0, .int 0, h_Str_2, h_Str_3]))] [] sz [.ref h_Str]) (QR_ (.int (F_J0_isLatin1_aae02_own)) (va_A [] sz)) 0 0 (va_A [] sz) := by
  refine Met.ofW (cc := cJ0_isLatin1_aae02) (maxL := 1) (ret := (some .boolean)) (by decide) rfl ?_
  intro p e s m args below meth c s₁ B hml hv
  obtain ⟨rfl, hsz, hP, hK, hF⟩ := hv
  have hx := B.exec
  have hb := B.bytes
  have hr := B.returns
  have hts := atoms_spec (ws := wsJ0_isLatin1_aae02) B.pre
  have hown : s.vm.findClass RJ0 = some m.cls := findClass_of_methodNamed B.named
  have hlocks := B.notSynchronized
  subst hsz
  generalize hAe : va_A [] s.heap.size = A at hF ⊢
  have hA : ∀ q : Nat, s.heap.size ≤ q → A q := fun q h => by rw [← hAe]; exact Or.inr h
  obtain ⟨H, hHe⟩ : ∃ H : Heap, H = s.heap := ⟨_, rfl⟩
  have hS : va_S A s.heap H [] := by rw [hHe]; exact va_S.rf
  have hP : va_P D vwCl [(h_Str, .inr (0, [h_Str_0, .int 0, h_Str_2, h_Str_3]))] H := by rw [hHe]; exact hP
  rw [← hHe]
  have hi_J0 : ∀ w ∈ wsJ00, w ∈ wsJ0_isLatin1_aae02 := by decide +kernel
  have hl := lv_entry [.ref h_Str] (n := 1) (Nat.le_of_ble_eq_true rfl)
  rw [lg_entry_eq]
  generalize (lg_sl [.ref h_Str] ++ List.replicate (1 - (lg_sl [.ref h_Str]).length) Slot.unset).toArray = ls at hl ⊢
  have hl : lv_has ls 1 [(0, .ref h_Str)] := hl
  have hM : F_J0_isLatin1_aae02_own = 1 := rfl
  refine va_gets (C := "java/lang/String") (n := "COMPACT_STRINGS") (d := "Z") (own := RJ0) (ref := "java/lang/String") (v := .int 1) hx hb hF.2.2.2.1 hS hown (hts (.fieldLink RJ0 38 "java/lang/String" "COMPACT_STRINGS" "Z") (List.mem_of_getElem? (i := 1) (by decide +kernel))) (fun _ h9 => h9) dJ0_isLatin1_aae02_0 ?_
  refine lv_if_eq (tgt := 17) hx hb dJ0_isLatin1_aae02_3 (by decide) (fun c9 => absurd c9 (by decide +kernel)) (fun _ => ?_)
  refine lv_aload_n hx hb dJ0_isLatin1_aae02_6 rfl (lv_at hl 0 rfl) ?_
  refine va_get (D := D) (ci := 0) (v := .int 0) (own := RJ0) (C := RJ0) (T := TJ0) (N := 4) hx hb hts hi_J0 hown hK hP 0 rfl rfl 1 (by decide) (hts (.fieldLink RJ0 15 "java/lang/String" "coder" "B") (List.mem_of_getElem? (i := 2) (by decide +kernel))) (fun _ h9 => h9) rfl dJ0_isLatin1_aae02_7 ?_
  refine lv_if_ne (tgt := 17) hx hb dJ0_isLatin1_aae02_10 (by decide) (fun c9 => absurd (by decide +kernel) c9) (fun _ => ?_)
  refine lv_iconst (v := 1) hx hb dJ0_isLatin1_aae02_13 (by decide) ?_
  refine lv_goto (tgt := 18) hx hb dJ0_isLatin1_aae02_14 (by decide) ?_
  refine W.widen (k := 0) (n := 0) (Nat.le_of_ble_eq_true rfl) (Nat.le_of_ble_eq_true rfl) ?_
  exact W.zret (v := 1) hx hb hr rfl (QR_.mk hS (by rw [hM])) hS.2.2 dJ0_isLatin1_aae02_18
def F_J1_charAt_3b067 (ar1 : Nat → Int32) (a2 : Int32) : Int32 := (ci_ ((ar1 (ix a2)) &&& 255))
set_option maxHeartbeats 4000000 in
set_option maxRecDepth 100000 in
theorem c_J1_charAt_3b067 (l : Launch) (hl0 : l.stackTraces = false) (D : va_G) (ad : Nat → Nat) (sz : Nat) (h_ar1 : Nat) (k_ar1 : ClassId) (len1 : Nat) (ar1 : Nat → Int32) (a2 : Int32) (hy0 : 0 ≤ a2.toInt) (hy1 : a2.toInt < len1) (hy2 : len1 ≤ 100000) : Met l yJ1_charAt_3b067 wsJ1_charAt_3b067 ({ frames := 2, cells := 0, slots := 0, locals := 47 }) (PR_ D ad [(h_ar1, .inl (k_ar1, len1, .inl ar1))] [(k_ar1, .byte)] sz [.ref h_ar1, .int a2]) (QR_ (.int (F_J1_charAt_3b067 ar1 a2)) (va_A [] sz)) 0 0 (va_A [] sz) := by
  refine Met.ofW (cc := cJ1_charAt_3b067) (maxL := 2) (ret := (some .char)) (by decide) rfl ?_
  intro p e s m args below meth c s₁ B hml hv
  obtain ⟨rfl, hsz, hP, hK, hF⟩ := hv
  have hx := B.exec
  have hb := B.bytes
  have hr := B.returns
  have hts := atoms_spec (ws := wsJ1_charAt_3b067) B.pre
  have hown : s.vm.findClass RJ1 = some m.cls := findClass_of_methodNamed B.named
  have hlocks := B.notSynchronized
  subst hsz
  generalize hAe : va_A [] s.heap.size = A at hF ⊢
  have hA : ∀ q : Nat, s.heap.size ≤ q → A q := fun q h => by rw [← hAe]; exact Or.inr h
  obtain ⟨H, hHe⟩ : ∃ H : Heap, H = s.heap := ⟨_, rfl⟩
  have hS : va_S A s.heap H [] := by rw [hHe]; exact va_S.rf
  have hP : va_P D vwCl [(h_ar1, .inl (k_ar1, len1, .inl ar1))] H := by rw [hHe]; exact hP
  rw [← hHe]
  have hl := lv_entry [.ref h_ar1, .int a2] (n := 2) (Nat.le_of_ble_eq_true rfl)
  rw [lg_entry_eq]
  generalize (lg_sl [.ref h_ar1, .int a2] ++ List.replicate (2 - (lg_sl [.ref h_ar1, .int a2]).length) Slot.unset).toArray = ls at hl ⊢
  have hl : lv_has ls 2 [(0, .ref h_ar1), (1, .int a2)] := hl
  have hM : F_J1_charAt_3b067 ar1 a2 = (ci_ ((ar1 (ix a2)) &&& 255)) := rfl
  refine lv_iload_n hx hb dJ1_charAt_3b067_0 rfl (lv_at hl 1 rfl) ?_
  refine lv_aload_n hx hb dJ1_charAt_3b067_1 rfl (lv_at hl 0 rfl) ?_
  refine va_alen (v := (nI len1)) hx hb hK hP 0 0 rfl rfl rfl dJ1_charAt_3b067_2 ?_
  refine krv_ (va_runS (As := [.int a2, .int (nI len1)]) (rest := []) ⟨hx, hb, hml, hown, hts⟩ (c_J0_checkIndex_df160 l hl0 D ad H.size a2 (nI len1) (by have z0 := hy0; have z1 := hy1; have z2 := hy2; omega) (by have z0 := hy0; have z1 := hy1; have z2 := hy2; have q7 := nI_toInt (n := len1) (by omega); have w0 := nI_toInt (n := len1) (by omega); omega)) (va_cwS 2 hts gJ1_charAt_3b067_J0_checkIndex_df160 rfl rfl rfl (by decide +kernel) ⟨Nat.le_of_ble_eq_true rfl, Nat.le_of_ble_eq_true rfl⟩) ⟨PR_.blind, PR_.pre hF hK (hP.sub [] rfl) hS hA [] rfl⟩ rfl rfl hl.1 rfl (lv_room (Nat.le_of_ble_eq_true rfl)) dJ1_charAt_3b067_3 ⟨(Nat.le_of_ble_eq_true rfl), (Nat.le_of_ble_eq_true rfl)⟩) hP hS hA (fun H locs hP hS => ?_)
  refine W.eq (g2 := F0 m 6 ls []) rfl ?_
  refine lv_aload_n hx hb dJ1_charAt_3b067_6 rfl (lv_at hl 0 rfl) ?_
  refine lv_iload_n hx hb dJ1_charAt_3b067_7 rfl (lv_at hl 1 rfl) ?_
  refine va_bald hx hb hK hP 0 0 rfl rfl (vinI (by have z0 := hy0; have z1 := hy1; have z2 := hy2; have b8 := Int32.toInt_lt (a2); have d8 := Int32.le_toInt (a2); omega) (by have z0 := hy0; have z1 := hy1; have z2 := hy2; have b8 := Int32.toInt_lt (a2); have d8 := Int32.le_toInt (a2); omega)) dJ1_charAt_3b067_8 ?_
  refine kt_ (v := (ar1 (ix a2))) rfl ?_
  refine lv_sipush (v := 255) hx hb dJ1_charAt_3b067_9 (by decide +kernel) ?_
  refine lv_iand hx hb dJ1_charAt_3b067_12 ?_
  refine lv_i2c (v := (ci_ ((ar1 (ix a2)) &&& 255))) hx hb dJ1_charAt_3b067_13 rfl ?_
  refine W.widen (k := 0) (n := 0) (Nat.le_of_ble_eq_true rfl) (Nat.le_of_ble_eq_true rfl) ?_
  exact W.zret (v := (ci_ ((ar1 (ix a2)) &&& 255))) hx hb hr (ci_narr _) (QR_.mk hS (by rw [hM])) hS.2.2 dJ1_charAt_3b067_14
def F_J0_charAt_5068e_own (bs : Nat → Int32) (a1 : Int32) : Int32 := (F_J1_charAt_3b067 bs a1)
set_option maxHeartbeats 4000000 in
set_option maxRecDepth 100000 in
theorem c_J0_charAt_5068e_own (l : Launch) (hl0 : l.stackTraces = false) (D : va_G) (ad : Nat → Nat) (sz : Nat) (h_bs : Nat) (h_Str : Nat) (k_bs : ClassId) (h_Str_2 : Value) (h_Str_3 : Value) (lens : Nat) (bs : Nat → Int32) (a1 : Int32) (hy0 : 0 ≤ a1.toInt) (hy1 : a1.toInt < lens) (hy2 : lens ≤ 100000) : Met l yJ0_charAt_5068e wsJ0_charAt_5068e ({ frames := 3, cells := 0, slots := 0, locals := 70 }) (PR_ D ad [(h_bs, .inl (k_bs, lens, .inl bs)), (h_Str, .inr (0, [.ref h_bs, .int 0, h_Str_2, h_Str_3]))] [(k_bs, .byte)] sz [.ref h_Str, .int a1]) (QR_ (.int (F_J0_charAt_5068e_own bs a1)) (va_A [] sz)) 0 0 (va_A [] sz) := by
  refine Met.ofW (cc := cJ0_charAt_5068e) (maxL := 2) (ret := (some .char)) (by decide) rfl ?_
  intro p e s m args below meth c s₁ B hml hv
  obtain ⟨rfl, hsz, hP, hK, hF⟩ := hv
  have hx := B.exec
  have hb := B.bytes
  have hr := B.returns
  have hts := atoms_spec (ws := wsJ0_charAt_5068e) B.pre
  have hown : s.vm.findClass RJ0 = some m.cls := findClass_of_methodNamed B.named
  have hlocks := B.notSynchronized
  subst hsz
  generalize hAe : va_A [] s.heap.size = A at hF ⊢
  have hA : ∀ q : Nat, s.heap.size ≤ q → A q := fun q h => by rw [← hAe]; exact Or.inr h
  obtain ⟨H, hHe⟩ : ∃ H : Heap, H = s.heap := ⟨_, rfl⟩
  have hS : va_S A s.heap H [] := by rw [hHe]; exact va_S.rf
  have hP : va_P D vwCl [(h_bs, .inl (k_bs, lens, .inl bs)), (h_Str, .inr (0, [.ref h_bs, .int 0, h_Str_2, h_Str_3]))] H := by rw [hHe]; exact hP
  rw [← hHe]
  have hi_J0 : ∀ w ∈ wsJ00, w ∈ wsJ0_charAt_5068e := by decide +kernel
  have hl := lv_entry [.ref h_Str, .int a1] (n := 2) (Nat.le_of_ble_eq_true rfl)
  rw [lg_entry_eq]
  generalize (lg_sl [.ref h_Str, .int a1] ++ List.replicate (2 - (lg_sl [.ref h_Str, .int a1]).length) Slot.unset).toArray = ls at hl ⊢
  have hl : lv_has ls 2 [(0, .ref h_Str), (1, .int a1)] := hl
  have hM : F_J0_charAt_5068e_own bs a1 = (F_J1_charAt_3b067 bs a1) := rfl
  refine lv_aload_n hx hb dJ0_charAt_5068e_0 rfl (lv_at hl 0 rfl) ?_
  refine kr_ (va_runV (As := []) (rest := []) ⟨hx, hb, hml, hown, hts⟩ (c_J0_isLatin1_aae02_own l hl0 D ad H.size h_Str (.ref h_bs) (h_Str_2) (h_Str_3)) (cwV 0 hts gJ0_charAt_5068e_J0_isLatin1_aae02 rfl rfl rfl (by decide +kernel) ⟨Nat.le_of_ble_eq_true rfl, Nat.le_of_ble_eq_true rfl⟩) ⟨PR_.blind, va_recv hK hP (ci := 0) (q0 := 1) rfl rfl, PR_.pre hF hK (hP.sub [1] rfl) hS hA [] rfl⟩ rfl rfl hl.1 rfl (lv_room (Nat.le_of_ble_eq_true rfl)) dJ0_charAt_5068e_1 ⟨(Nat.le_of_ble_eq_true rfl), (Nat.le_of_ble_eq_true rfl)⟩) hP hS hA (fun H locs hP hS => ?_)
  refine W.eq (g2 := F0 m 4 ls [.int 1]) rfl ?_
  refine lv_if_eq (tgt := 16) hx hb dJ0_charAt_5068e_4 (by decide) (fun c9 => absurd c9 (by decide +kernel)) (fun _ => ?_)
  refine lv_aload_n hx hb dJ0_charAt_5068e_7 rfl (lv_at hl 0 rfl) ?_
  refine va_get (D := D) (ci := 0) (v := .ref h_bs) (own := RJ0) (C := RJ0) (T := TJ0) (N := 4) hx hb hts hi_J0 hown hK hP 1 rfl rfl 0 (by decide) (hts (.fieldLink RJ0 9 "java/lang/String" "value" "[B") (List.mem_of_getElem? (i := 1) (by decide +kernel))) (fun _ h9 => h9) rfl dJ0_charAt_5068e_8 ?_
  refine lv_iload_n hx hb dJ0_charAt_5068e_11 rfl (lv_at hl 1 rfl) ?_
  obtain ⟨y9, hy9⟩ : ∃ y9, (F_J1_charAt_3b067 bs a1) = y9 := ⟨_, rfl⟩
  have hcon := (c_J1_charAt_3b067 l hl0 D ad H.size h_bs k_bs lens bs a1 (by have z0 := hy0; have z1 := hy1; have z2 := hy2; omega) (by have z0 := hy0; have z1 := hy1; have z2 := hy2; omega) (by have z0 := hy0; have z1 := hy1; have z2 := hy2; omega))
  rw [hy9] at hcon
  refine kr_ (va_runS (As := [.ref h_bs, .int a1]) (rest := []) ⟨hx, hb, hml, hown, hts⟩ hcon (va_cwS 2 hts gJ0_charAt_5068e_J1_charAt_3b067 rfl rfl rfl (by decide +kernel) ⟨Nat.le_of_ble_eq_true rfl, Nat.le_of_ble_eq_true rfl⟩) ⟨PR_.blind, PR_.pre hF hK (hP.sub [0] rfl) hS hA [0] rfl⟩ rfl rfl hl.1 rfl (lv_room (Nat.le_of_ble_eq_true rfl)) dJ0_charAt_5068e_12 ⟨(Nat.le_of_ble_eq_true rfl), (Nat.le_of_ble_eq_true rfl)⟩) hP hS hA (fun H locs hP hS => ?_)
  subst hy9
  refine W.eq (g2 := F0 m 15 ls [.int (F_J1_charAt_3b067 bs a1)]) rfl ?_
  refine W.widen (k := 0) (n := 0) (Nat.le_of_ble_eq_true rfl) (Nat.le_of_ble_eq_true rfl) ?_
  exact W.zret (v := (F_J1_charAt_3b067 bs a1)) hx hb hr (ci_narr _) (QR_.mk hS (by rw [hM])) hS.2.2 dJ0_charAt_5068e_15
def K_L_reads_36_2  : (Int32 × MS × Nat × Nat) → (Int32 × MS × Nat × Nat)
  | (y36_0, y36_1, y36_2, y36_3) => (adc y36_2 y36_3 (y36_0, y36_1, 0, 0))
def K_L_reads_16_17 (x2_2 : Int32) (rc_2 : Int32 → MS → (Int32 × MS × Nat × Nat)) : (Int32 × MS × Nat × Nat) → (Int32 × MS × Nat × Nat)
  | (y16_0, y16_1, y16_2, y16_3) => (adc y16_2 y16_3 (if y16_0 = (x2_2 + 1) then (rc_2 (x2_2 + 1) y16_1) else ((-9999), y16_1, 0, 0)))
def B_L_reads_2 (bs : Nat → Int32) (lens : Nat) (rc_2 : Int32 → MS → (Int32 × MS × Nat × Nat)) (x2_2 : Int32) (x2_t : MS) : Int32 × MS × Nat × Nat := (if (nI lens) ≤ x2_2 then (K_L_reads_36_2 (F_L_commands x2_t)) else (K_L_reads_16_17 x2_2 rc_2 (F_L_append x2_t ((bs (ix x2_2)) &&& 255))))
def L_L_reads_2 (bs : Nat → Int32) (lens : Nat) : Nat → Int32 → MS → (Int32 × MS × Nat × Nat)
  | 0 => fun _ x2_t => (0, x2_t, 0, 0)
  | k + 1 => B_L_reads_2 bs lens (L_L_reads_2 bs lens k)
def F_L_reads_F (M : MS) (lens : Nat) (bs : Nat → Int32) : Int32 × MS × Nat × Nat := (L_L_reads_2 bs lens ((((nI lens) : Int32).toInt - (0 : Int32).toInt).toNat + 1) 0 M)
set_option maxHeartbeats 4000000 in
set_option maxRecDepth 100000 in
theorem bl_L_reads_F (l : Launch) (hl0 : l.stackTraces = false) (D : va_G) (ad : Nat → Nat) (sz : Nat) (b : BX) (hBL : BL_ b) (a0 : Nat) (hb9 : b.1 79 = a0) (M : MS) (hM9 : b.2.2.2 = M) (Bd : Nat) (hXI : XI Bd M) (hBd : Bd + 36600 ≤ 900000) (h_bs : Nat) (k_bs : ClassId) (lens : Nat) (bs : Nat → Int32) (h_Str : Nat) (hy0 : lens ≤ 60) : Met l yL_reads wsL_reads ({ frames := 14, cells := (F_L_reads_F M lens bs).2.2.1, slots := (F_L_reads_F M lens bs).2.2.2, locals := 378 }) (PC_ D ad ([(h_bs, .inl (k_bs, lens, .inl bs)), (h_Str, .inr (0, [.ref h_bs, .int 0, .int 0, .int 0]))] ++ BWW ad b) ([(k_bs, .byte)] ++ BWT b) sz [.ref a0, .ref h_Str]) (QB_ D (fun _ : BX => some (.int (F_L_reads_F M lens bs).1)) (fun b' => b'.2.2.2 = (F_L_reads_F M lens bs).2.1 ∧ b'.1 79 = a0 ∧ BL_ b' ∧ XI (Bd + 36600) (F_L_reads_F M lens bs).2.1) (fun b => [(h_bs, .inl (k_bs, lens, .inl bs)), (h_Str, .inr (0, [.ref h_bs, .int 0, .int 0, .int 0]))] ++ BWW ad b) (fun b => [(k_bs, .byte)] ++ BWT b) (va_A ([(h_bs, .inl (k_bs, lens, .inl bs)), (h_Str, .inr (0, [.ref h_bs, .int 0, .int 0, .int 0]))] ++ BWW ad b) sz)) (F_L_reads_F M lens bs).2.2.1 (F_L_reads_F M lens bs).2.2.2 (va_A ([(h_bs, .inl (k_bs, lens, .inl bs)), (h_Str, .inr (0, [.ref h_bs, .int 0, .int 0, .int 0]))] ++ BWW ad b) sz) := by
  refine Met.ofW (cc := cL_reads) (maxL := 3) (ret := (some .int)) (by decide) rfl ?_
  intro p e s m args below meth c s₁ B hml hv
  obtain ⟨rfl, hsz, hP, hK, hD0, hF⟩ := hv
  have hx := B.exec
  have hb := B.bytes
  have hr := B.returns
  have hts := atoms_spec (ws := wsL_reads) B.pre
  have hown : s.vm.findClass RL = some m.cls := findClass_of_methodNamed B.named
  have hlocks := B.notSynchronized
  subst hsz
  have hD := hD0.self (sz := s.heap.size)
  generalize hAe : va_A ([(h_bs, .inl (k_bs, lens, .inl bs)), (h_Str, .inr (0, [.ref h_bs, .int 0, .int 0, .int 0]))] ++ BWW ad b) s.heap.size = A at hD hF ⊢
  have hA : ∀ q : Nat, s.heap.size ≤ q → A q := fun q h => by rw [← hAe]; exact Or.inr h
  obtain ⟨H, hHe⟩ : ∃ H : Heap, H = s.heap := ⟨_, rfl⟩
  have hS : va_S A s.heap H [] := by rw [hHe]; exact va_S.rf
  have hP : va_P D vwCl ([(h_bs, .inl (k_bs, lens, .inl bs)), (h_Str, .inr (0, [.ref h_bs, .int 0, .int 0, .int 0]))] ++ BWW ad b) H := by rw [hHe]; exact hP
  have hD : va_D A ([(h_bs, .inl (k_bs, lens, .inl bs)), (h_Str, .inr (0, [.ref h_bs, .int 0, .int 0, .int 0]))] ++ BWW ad b) := hD
  have hK : va_K D vwCl ([(k_bs, .byte)] ++ BWT b) s := hK
  rw [← hHe]
  have hl := lv_entry [.ref a0, .ref h_Str] (n := 3) (Nat.le_of_ble_eq_true rfl)
  rw [lg_entry_eq]
  generalize (lg_sl [.ref a0, .ref h_Str] ++ List.replicate (3 - (lg_sl [.ref a0, .ref h_Str]).length) Slot.unset).toArray = ls at hl ⊢
  have hl : lv_has ls 3 [(0, .ref a0), (1, .ref h_Str)] := hl
  generalize hF9 : F_L_reads_F M lens bs = FF9
  have hM : FF9 = (adc 0 0 (L_L_reads_2 bs lens ((((nI lens) : Int32).toInt - (0 : Int32).toInt).toNat + 1) 0 M)) := hF9.symm.trans (adc_0 _).symm
  refine lv_iconst (v := 0) hx hb dL_reads_0 (by decide) ?_
  refine lv_istore_n (lv' := [(2, .int 0), (0, .ref a0), (1, .ref h_Str)]) hx hb dL_reads_1 rfl hl (by decide) rfl (fun ls hl => ?_)
  refine lpW (τ := Int32 × MS) (fun k t H locs ls c9 s9 => ∃ (b2 : BX), (((nI lens) : Int32).toInt - (t.1 : Int32).toInt).toNat < k ∧ 0 ≤ (t.1 : Int32).toInt ∧ b2.2.2.2 = t.2 ∧ b2.1 79 = a0 ∧ BL_ b2 ∧ XI Bd (t.2) ∧ va_K D vwCl ([(k_bs, .byte)] ++ BWT b2) s ∧ va_P D vwCl ([(h_bs, .inl (k_bs, lens, .inl bs)), (h_Str, .inr (0, [.ref h_bs, .int 0, .int 0, .int 0]))] ++ BWW ad b2) H ∧ va_D A ([(h_bs, .inl (k_bs, lens, .inl bs)), (h_Str, .inr (0, [.ref h_bs, .int 0, .int 0, .int 0]))] ++ BWW ad b2) ∧ va_S A s.heap H locs ∧ lv_has ls 3 [(2, .int t.1), (0, .ref a0), (1, .ref h_Str)] ∧ FF9 = adc c9 s9 (L_L_reads_2 bs lens k t.1 t.2)) (fun t H locs ls c9 s9 h9 => (by obtain ⟨_, h8, _⟩ := h9; exact absurd h8 (Nat.not_lt_zero _))) (fun k_1 ih t H locs ls c_1 s_1 hI => ?_) ((((nI lens) : Int32).toInt - (0 : Int32).toInt).toNat + 1) (0, M) ⟨b, Nat.lt_succ_self _, (show 0 ≤ (0 : Int32).toInt from (by decide +kernel)), hM9, hb9, hBL, XI.mono hXI (show Bd ≤ Bd from (by have z0 := hy0; have z1 := hBd; omega)), hK, hP, hD, hS, (by exact hl), hM⟩
  obtain ⟨x2_2, x2_t⟩ := t
  obtain ⟨b2, hk_1, hz_1, hM9_2, hb9_2, hBL_2, hXI_2, hK, hP, hD, hS, hl, hM⟩ := hI
  have hK : va_K D vwCl ([(k_bs, .byte)] ++ BWT b2) s := hK
  have hM9_2 : b2.2.2.2 = x2_t := hM9_2
  have hXI_2 : XI Bd x2_t := hXI_2
  have hP : va_P D vwCl ([(h_bs, .inl (k_bs, lens, .inl bs)), (h_Str, .inr (0, [.ref h_bs, .int 0, .int 0, .int 0]))] ++ BWW ad b2) H := hP
  have hD : va_D A ([(h_bs, .inl (k_bs, lens, .inl bs)), (h_Str, .inr (0, [.ref h_bs, .int 0, .int 0, .int 0]))] ++ BWW ad b2) := hD
  have hl : lv_has ls 3 [(2, .int x2_2), (0, .ref a0), (1, .ref h_Str)] := hl
  have hz_1 : 0 ≤ (x2_2 : Int32).toInt := hz_1
  have hk_1 : (((nI lens) : Int32).toInt - (x2_2 : Int32).toInt).toNat < k_1 + 1 := hk_1
  have hM : FF9 = (adc c_1 s_1 (if (nI lens) ≤ x2_2 then (K_L_reads_36_2 (F_L_commands x2_t)) else (K_L_reads_16_17 x2_2 (L_L_reads_2 bs lens k_1) (F_L_append x2_t ((bs (ix x2_2)) &&& 255))))) := hM
  have ih_1 := ih
  refine lv_iload_n hx hb dL_reads_2 rfl (lv_at hl 0 rfl) ?_
  refine lv_aload_n hx hb dL_reads_3 rfl (lv_at hl 2 rfl) ?_
  obtain ⟨y9, hy9⟩ : ∃ y9, (F_J0_length_8abf5_own lens) = y9 := ⟨_, rfl⟩
  have hcon := (c_J0_length_8abf5_own l hl0 D ad H.size h_bs h_Str k_bs (.int 0) (.int 0) lens bs)
  rw [hy9] at hcon
  refine kr_ (va_runV (As := []) (rest := [.int x2_2]) ⟨hx, hb, hml, hown, hts⟩ hcon (cwV 0 hts gL_reads_J0_length_8abf5 rfl rfl rfl (by decide +kernel) ⟨Nat.le_of_ble_eq_true rfl, Nat.le_of_ble_eq_true rfl⟩) ⟨PR_.blind, va_recv hK hP (ci := 0) (q0 := 1) rfl rfl, PR_.pre hF hK (hP.sub [0, 1] rfl) hS hA [0] rfl⟩ rfl rfl hl.1 rfl (lv_room (Nat.le_of_ble_eq_true rfl)) dL_reads_4 ⟨(adc_r0 hM), (adc_s0 hM)⟩) hP hS hA (fun H locs hP hS => ?_)
  subst hy9
  refine W.eq (g2 := F0 m 7 ls [.int (F_J0_length_8abf5_own lens), .int x2_2]) rfl ?_
  refine kt_ (v := (nI lens)) rfl ?_
  refine lv_icmp_ge (tgt := 35) hx hb dL_reads_7 (by decide) (fun c_3 => ?_) (fun c_3 => ?_)
  · rw [if_pos c_3] at hM
    refine lv_aload_n hx hb dL_reads_35 rfl (lv_at hl 1 rfl) ?_
    have hcon := (bl_L_commands l hl0 D ad H.size b2 hBL_2 a0 hb9_2 x2_t hM9_2 Bd hXI_2 (show (Bd + 36600) ≤ 900000 from (by have y0 := f_le c_3; have z0 := hy0; have z1 := hBd; have z2 := hz_1; have w0 := nI_toInt (n := lens) (by omega); omega)))
    generalize hy_4 : (F_L_commands x2_t) = y9 at hcon hM
    obtain ⟨y36_0, y36_1, y36_2, y36_3⟩ := y9
    have hM : FF9 = (adc c_1 s_1 (adc y36_2 y36_3 (y36_0, y36_1, 0, 0))) := hM
    refine kwb_ [(h_bs, .inl (k_bs, lens, .inl bs)), (h_Str, .inr (0, [.ref h_bs, .int 0, .int 0, .int 0]))] [(k_bs, .byte)] (vx_runSW (As := [.ref a0]) (rest := []) ⟨hx, hb, hml, hown, hts⟩ hcon (vx_cwSW 1 hts gL_reads_L_commands rfl rfl rfl (by decide +kernel) ⟨Nat.le_of_ble_eq_true rfl, Nat.le_of_ble_eq_true rfl⟩) ⟨PC_.blind, lw_pre (X := [(h_bs, .inl (k_bs, lens, .inl bs)), (h_Str, .inr (0, [.ref h_bs, .int 0, .int 0, .int 0]))]) (Y := [(k_bs, .byte)]) hF hK hP hD hS hA⟩ rfl rfl hl.1 rfl (lv_room (Nat.le_of_ble_eq_true rfl)) dL_reads_36 ⟨(adc_r1 hM), (adc_s1 hM)⟩) hK hP hD hS hA (fun b_4 H locs hpo hP hD hK hS => ?_)
    have hM : FF9 = (adc (c_1 + y36_2) (s_1 + y36_3) (y36_0, y36_1, 0, 0)) := hM.trans (adc_adc _ _ _ _ _)
    obtain ⟨hM9_4, hb9_4, hBL_4, hXI_4⟩ := hpo
    have hM9_4 : b_4.2.2.2 = y36_1 := hM9_4
    have hXI_4 : XI (Bd + 36600) y36_1 := hXI_4
    have hP : va_P D vwCl ([(h_bs, .inl (k_bs, lens, .inl bs)), (h_Str, .inr (0, [.ref h_bs, .int 0, .int 0, .int 0]))] ++ BWW ad b_4) H := hP
    have hD : va_D A ([(h_bs, .inl (k_bs, lens, .inl bs)), (h_Str, .inr (0, [.ref h_bs, .int 0, .int 0, .int 0]))] ++ BWW ad b_4) := hD
    have hK : va_K D vwCl ([(k_bs, .byte)] ++ BWT b_4) s := hK
    refine W.eq (g2 := F0 m 39 ls [.int y36_0]) rfl ?_
    refine W.widen (k := (FF9).2.2.1) (n := (FF9).2.2.2) (Nat.le_of_eq (by rw [hM]; first | done | rfl)) (Nat.le_of_eq (by rw [hM]; first | done | rfl)) ?_
    exact W.iret (v := y36_0) hx hb hr (lw_retX (X := [(h_bs, .inl (k_bs, lens, .inl bs)), (h_Str, .inr (0, [.ref h_bs, .int 0, .int 0, .int 0]))]) (Y := [(k_bs, .byte)]) b_4 hP hD hK hS (by rw [hM]; first | done | rfl) ⟨(by rw [hM]; exact hM9_4), hb9_4, hBL_4, (by rw [hM]; exact XI.mono hXI_4 (show (Bd + 36600) ≤ Bd + 36600 from (by have y0 := f_le c_3; have z0 := hy0; have z1 := hBd; have z2 := hz_1; have w0 := nI_toInt (n := lens) (by omega); omega)))⟩) hS.2.2 dL_reads_39
  · rw [if_neg c_3] at hM
    refine lv_aload_n hx hb dL_reads_10 rfl (lv_at hl 1 rfl) ?_
    refine lv_aload_n hx hb dL_reads_11 rfl (lv_at hl 2 rfl) ?_
    refine lv_iload_n hx hb dL_reads_12 rfl (lv_at hl 0 rfl) ?_
    obtain ⟨y9, hy9⟩ : ∃ y9, (F_J0_charAt_5068e_own bs x2_2) = y9 := ⟨_, rfl⟩
    have hcon := (c_J0_charAt_5068e_own l hl0 D ad H.size h_bs h_Str k_bs (.int 0) (.int 0) lens bs x2_2 (by have y0 := f_nle c_3; have z0 := hy0; have z1 := hBd; have z2 := hz_1; have w0 := nI_toInt (n := lens) (by omega); omega) (by have y0 := f_nle c_3; have z0 := hy0; have z1 := hBd; have z2 := hz_1; have w0 := nI_toInt (n := lens) (by omega); omega) (by have y0 := f_nle c_3; have z0 := hy0; have z1 := hBd; have z2 := hz_1; have w0 := nI_toInt (n := lens) (by omega); omega))
    rw [hy9] at hcon
    refine kr_ (va_runV (As := [.int x2_2]) (rest := [.ref a0]) ⟨hx, hb, hml, hown, hts⟩ hcon (cwV 1 hts gL_reads_J0_charAt_5068e rfl rfl rfl (by decide +kernel) ⟨Nat.le_of_ble_eq_true rfl, Nat.le_of_ble_eq_true rfl⟩) ⟨PR_.blind, va_recv hK hP (ci := 0) (q0 := 1) rfl rfl, PR_.pre hF hK (hP.sub [0, 1] rfl) hS hA [0] rfl⟩ rfl rfl hl.1 rfl (lv_room (Nat.le_of_ble_eq_true rfl)) dL_reads_13 ⟨(adc_r0 hM), (adc_s0 hM)⟩) hP hS hA (fun H locs hP hS => ?_)
    subst hy9
    refine W.eq (g2 := F0 m 16 ls [.int (F_J0_charAt_5068e_own bs x2_2), .ref a0]) rfl ?_
    refine kt_ (v := (ci_ ((bs (ix x2_2)) &&& 255))) rfl ?_
    have hcon := (bl_L_append l hl0 D ad H.size b2 hBL_2 a0 hb9_2 x2_t hM9_2 Bd hXI_2 (show Bd ≤ 900000 from (by have y0 := f_nle c_3; have z0 := hy0; have z1 := hBd; have z2 := hz_1; have w0 := nI_toInt (n := lens) (by omega); omega)) ((bs (ix x2_2)) &&& 255))
    generalize hy_6 : (F_L_append x2_t ((bs (ix x2_2)) &&& 255)) = y9 at hcon hM
    obtain ⟨y16_0, y16_1, y16_2, y16_3⟩ := y9
    have hM : FF9 = (adc c_1 s_1 (adc y16_2 y16_3 (if y16_0 = (x2_2 + 1) then ((L_L_reads_2 bs lens k_1) (x2_2 + 1) y16_1) else ((-9999), y16_1, 0, 0)))) := hM
    refine kwb_ [(h_bs, .inl (k_bs, lens, .inl bs)), (h_Str, .inr (0, [.ref h_bs, .int 0, .int 0, .int 0]))] [(k_bs, .byte)] (vx_runSW (As := [.ref a0, .int (ci_ ((bs (ix x2_2)) &&& 255))]) (rest := []) ⟨hx, hb, hml, hown, hts⟩ hcon (vx_cwSW 2 hts gL_reads_L_append rfl rfl rfl (by decide +kernel) ⟨Nat.le_of_ble_eq_true rfl, Nat.le_of_ble_eq_true rfl⟩) ⟨PC_.blind, lw_pre (X := [(h_bs, .inl (k_bs, lens, .inl bs)), (h_Str, .inr (0, [.ref h_bs, .int 0, .int 0, .int 0]))]) (Y := [(k_bs, .byte)]) hF hK hP hD hS hA⟩ rfl rfl hl.1 rfl (lv_room (Nat.le_of_ble_eq_true rfl)) dL_reads_16 ⟨(adc_r1 hM), (adc_s1 hM)⟩) hK hP hD hS hA (fun b_6 H locs hpo hP hD hK hS => ?_)
    have hM : FF9 = (adc (c_1 + y16_2) (s_1 + y16_3) (if y16_0 = (x2_2 + 1) then ((L_L_reads_2 bs lens k_1) (x2_2 + 1) y16_1) else ((-9999), y16_1, 0, 0))) := hM.trans (adc_adc _ _ _ _ _)
    obtain ⟨hM9_6, hb9_6, hBL_6, hXI_6⟩ := hpo
    have hM9_6 : b_6.2.2.2 = y16_1 := hM9_6
    have hXI_6 : XI Bd y16_1 := hXI_6
    have hP : va_P D vwCl ([(h_bs, .inl (k_bs, lens, .inl bs)), (h_Str, .inr (0, [.ref h_bs, .int 0, .int 0, .int 0]))] ++ BWW ad b_6) H := hP
    have hD : va_D A ([(h_bs, .inl (k_bs, lens, .inl bs)), (h_Str, .inr (0, [.ref h_bs, .int 0, .int 0, .int 0]))] ++ BWW ad b_6) := hD
    have hK : va_K D vwCl ([(k_bs, .byte)] ++ BWT b_6) s := hK
    refine W.eq (g2 := F0 m 19 ls [.int y16_0]) rfl ?_
    refine lv_iload_n hx hb dL_reads_19 rfl (lv_at hl 0 rfl) ?_
    refine lv_iconst (v := 1) hx hb dL_reads_20 (by decide) ?_
    refine lv_iadd hx hb dL_reads_21 ?_
    refine lv_icmp_eq (tgt := 29) hx hb dL_reads_22 (by decide) (fun c_7 => ?_) (fun c_7 => ?_)
    · rw [if_pos c_7] at hM
      refine lv_iinc (v := (x2_2 + 1)) (lv' := [(2, .int (x2_2 + 1)), (0, .ref a0), (1, .ref h_Str)]) hx hb dL_reads_29 hl (k := 0) rfl rfl (by decide) rfl (fun ls hl => ?_)
      refine lv_goto (tgt := 2) hx hb dL_reads_32 (by decide) ?_
      exact ih_1 ((x2_2 + 1), y16_1) _ _ _ _ _ ⟨b_6, lp_up hk_1 c_3, lp_up0 hz_1 c_3, hM9_6, hb9_6, hBL_6, XI.mono hXI_6 (show Bd ≤ Bd from (by have y0 := f_nle c_3; have y1 := f_eq c_7; have z0 := hy0; have z1 := hBd; have z2 := hz_1; have w0 := nI_toInt (n := lens) (by omega); omega)), hK, hP, hD, hS, lv_sub hl [0, 1, 2] rfl, hM⟩
    · rw [if_neg c_7] at hM
      refine lv_sipush (v := (-9999)) hx hb dL_reads_25 (by decide +kernel) ?_
      refine W.widen (k := (FF9).2.2.1) (n := (FF9).2.2.2) (Nat.le_of_eq (by rw [hM]; first | done | rfl)) (Nat.le_of_eq (by rw [hM]; first | done | rfl)) ?_
      exact W.iret (v := (-9999)) hx hb hr (lw_retX (X := [(h_bs, .inl (k_bs, lens, .inl bs)), (h_Str, .inr (0, [.ref h_bs, .int 0, .int 0, .int 0]))]) (Y := [(k_bs, .byte)]) b_6 hP hD hK hS (by rw [hM]; first | done | rfl) ⟨(by rw [hM]; exact hM9_6), hb9_6, hBL_6, (by rw [hM]; exact XI.mono hXI_6 (show Bd ≤ Bd + 36600 from (by have y0 := f_nle c_3; have z0 := hy0; have z1 := hBd; have z2 := hz_1; have w0 := nI_toInt (n := lens) (by omega); omega)))⟩) hS.2.2 dL_reads_28
